/-- field f of each in the order, written by F -/
def cit (f : Nat) (F : (Nat → Nat → Nat → Int32) → Nat → Int32) (ord : List Nat) (k : Nat) (Γ : Nat → Nat → Nat → Int32) : Nat → Nat → Nat → Int32 := sp_it (fun j Γ => u3 Γ 2 (od ord j) f (F Γ (od ord j))) k Γ
theorem cit_fr {f : Nat} {F : (Nat → Nat → Nat → Int32) → Nat → Int32} {ord : List Nat} {k : Nat} {Γ : Nat → Nat → Nat → Int32} {c i j : Nat} (h : ¬ (c = 2 ∧ j = f)) : cit f F ord k Γ c i j = Γ c i j := sp_it_pres (fun k Γ => u3_n (fun z => h ⟨z.1, z.2.2⟩)) Γ k
theorem cit_n {f : Nat} {F : (Nat → Nat → Nat → Int32) → Nat → Int32} {ord : List Nat} {Γ : Nat → Nat → Nat → Int32} {i : Nat} : ∀ {k : Nat}, (∀ y, y < k → i ≠ od ord y) → cit f F ord k Γ 2 i f = Γ 2 i f
  | 0, _ => rfl
  | k + 1, h => by
    show u3 (cit f F ord k Γ) 2 (od ord k) f (F (cit f F ord k Γ) (od ord k)) 2 i f = _
    rw [u3_n (fun z => h k (by omega) z.2.1)]
    exact cit_n (fun y hy => h y (by omega))
def cloc (f : Nat) (F : (Nat → Nat → Nat → Int32) → Nat → Int32) : Prop := ∀ (Γ Γ' : Nat → Nat → Nat → Int32) (i : Nat), (∀ c i j, ¬ (c = 2 ∧ j = f) → Γ' c i j = Γ c i j) → Γ' 2 i f = Γ 2 i f → F Γ' i = F Γ i
theorem cit_at {f : Nat} {F : (Nat → Nat → Nat → Int32) → Nat → Int32} (hF : cloc f F) {ord : List Nat} (hinj : ∀ i k, i < ord.length → k < ord.length → od ord i = od ord k → i = k) {Γ : Nat → Nat → Nat → Int32} {j : Nat} : ∀ {k : Nat}, k ≤ ord.length → j < k → cit f F ord k Γ 2 (od ord j) f = F Γ (od ord j)
  | 0, _, h => absurd h (Nat.not_lt_zero _)
  | k + 1, hk, h => by
    show u3 (cit f F ord k Γ) 2 (od ord k) f (F (cit f F ord k Γ) (od ord k)) 2 (od ord j) f = _
    by_cases c : j = k
    · subst c
      rw [u3_s]
      exact hF Γ _ _ (fun c i j z => cit_fr z) (cit_n (fun y hy z => by have := hinj j y (by omega) (by omega) z; omega))
    · rw [u3_n (fun z => c (hinj j k (by omega) (by omega) z.2.1))]
      exact cit_at hF hinj (by omega) (by omega)
def F7u (Γ : Nat → Nat → Nat → Int32) (i : Nat) : Int32 := Γ 0 i 2
def F7g (Γ : Nat → Nat → Nat → Int32) (i : Nat) : Int32 := Γ 2 i 8
def Fpay (Γ : Nat → Nat → Nat → Int32) (i : Nat) : Int32 := Γ 2 i 9 + Γ 0 i 1 * Γ 2 i 8
def Fback (Γ : Nat → Nat → Nat → Int32) (i : Nat) : Int32 := Γ 2 i 10 + (Γ 0 i 1 * (Γ 2 i 7 - Γ 2 i 8) + Γ 0 i 1 * (Γ 2 i 7 - Γ 2 i 8) / 10)
theorem cloc_7u : cloc 7 F7u := fun Γ Γ' i h _ => h 0 i 2 (by omega)
theorem cloc_7g : cloc 7 F7g := fun Γ Γ' i h _ => h 2 i 8 (by omega)
theorem cloc_pay : cloc 9 Fpay := fun Γ Γ' i h e => by unfold Fpay; rw [e, h 0 i 1 (by omega), h 2 i 8 (by omega)]
theorem cloc_back : cloc 10 Fback := fun Γ Γ' i h e => by unfold Fback; rw [e, h 0 i 1 (by omega), h 2 i 7 (by omega), h 2 i 8 (by omega)]
/-- what finding the flows leaves -/
def CST (Γ G : Nat → Nat → Nat → Int32) (p : Nat) (A B : Nat → Nat) (ord : List Nat) (x : Nat → Int) : Prop :=
  frX Γ G ord ord.length ∧ (∀ i, i < ord.length → (G 2 (od ord i) 8).toInt = x i) ∧ SEQ (CM p A B (KC Γ)) (Γ 3 0 1).toInt (od ord) (fun i => (Γ 2 (od ord i) 7).toInt) x ord.length
theorem frP.sc {Γ G : Nat → Nat → Nat → Int32} {n p : Nat} {A B : Nat → Nat} (h : SC Γ n p A B) (e : frP Γ G) : SC G n p A B := h.congr (fun i j => e 4 i j (by decide) (by decide) (by omega)) (fun d => e 2 d 0 (by decide) (by decide) (by omega)) (e 3 0 1 (by decide) (by decide) (by omega))
set_option maxRecDepth 100000 in
set_option maxHeartbeats 4000000 in
theorem c_X4_beginFlowing {l : Launch} (hlt : l.stackTraces = false) {N n p : Nat} {ord : List Nat} {L : Nat → Nat → Nat} {Γ : Nat → Nat → Nat → Int32} {o : Nat} {h : am_H} (w : WI N n p ord L Γ o h) {A B : Nat → Nat} (hs : SC Γ n p A B) (hinj : ∀ i k, i < ord.length → k < ord.length → od ord i = od ord k → i = k) (hcap : ∀ i, i < ord.length → 0 ≤ (Γ 0 (od ord i) 2).toInt ∧ (Γ 0 (od ord i) 2).toInt ≤ 9999) : am_Con l yX4_beginFlowing (.code yX4_beginFlowing cX4_beginFlowing 3 none) 6 0 0 [.ref (L 5 0)] h (fun v h' => ∃ (x : Nat → Int) (G : Nat → Nat → Nat → Int32), v = none ∧ WI N n p ord L (cit 9 Fpay ord ord.length G) o h' ∧ CST (cit 7 F7u ord ord.length (u3 Γ 5 0 5 1)) G p A B ord x) (fun _ _ => False) := by
  refine am_body hlt (by decide +kernel) (Nat.le_of_ble_eq_true rfl) (fun k hl hR h0 hno => ?_)
  subst hl
  obtain ⟨Qf, hQ⟩ : ∃ Qf, Qf = am_Q k 0 0 (fun v h' => ∃ (x : Nat → Int) (G : Nat → Nat → Nat → Int32), v = none ∧ WI N n p ord L (cit 9 Fpay ord ord.length G) o h' ∧ CST (cit 7 F7u ord ord.length (u3 Γ 5 0 5 1)) G p A B ord x) (fun _ _ => False) := ⟨_, rfl⟩
  rw [← hQ]
  have hm0 : wdm n p o 3 0 = true := rfl
  have hx0 : wdm n p o 5 0 = true := rfl
  have hn8 : n ≤ 8 := w.1.1
  have hp24 : p ≤ 24 := w.1.2.1
  have ho8 : ord.length ≤ 8 := w.1.2.2.2.2
  refine g_aload_n dX4_beginFlowing_0 rfl ?_
  refine g_iconst (v := 1) dX4_beginFlowing_1 (by decide) ?_
  refine w_putI w dX4_beginFlowing_2 fl_X4_33 rfl rfl (by decide) (fun q hq => by cases hq; rfl) (by first | rfl | assumption) rfl rfl (fun h1 w1 => ?_)
  refine g_iconst (v := 0) dX4_beginFlowing_5 (by decide) ?_
  refine g_istore_n dX4_beginFlowing_6 (by decide) rfl ?_
  have lp_7 : ∀ (f : Nat) (j : Nat) (h' : am_H), j ≤ ord.length → ord.length - j < f → WI N n p ord L (cit 7 F7u ord j (u3 Γ 5 0 5 1)) o h' → am_G k RX4 yX4_beginFlowing.name cX4_beginFlowing 3 none 0 0 Qf 7 [(1, .int (nI j)), (0, .ref (L 5 0))] [] h' := by
    intro f
    induction f with
    | zero => intro j h' hj hf w'; omega
    | succ f ih =>
      intro j h' hj hf w'
      refine g_iload_n dX4_beginFlowing_7 rfl ?_
      refine g_aload_n dX4_beginFlowing_8 rfl ?_
      refine w_getR w' dX4_beginFlowing_9 fl_X4_23 rfl rfl (by first | rfl | assumption) rfl ?_
      refine g_callV [] dX4_beginFlowing_12 mc_X4_57 mi_Jx4a65c_size_8abf5 se_Jx4a65c_size_8abf5 (c_size1 hlt w') (w'.k (by first | rfl | assumption)) rfl rfl (Nat.le_of_ble_eq_true rfl) (am_rm hR (by decide)) (fun _ _ z => z) (fun v hx hq hE => ?_)
      obtain ⟨rfl, rfl⟩ := hq
      refine gN_ge 47 dX4_beginFlowing_15 (by decide) (by omega) (by omega) (fun c_15 => ?_) (fun c_15 => ?_)
      · skip
        have ej : j = ord.length := by omega
        rw [ej] at w'
        refine g_aload_n dX4_beginFlowing_47 rfl ?_
        refine g_callV [] dX4_beginFlowing_48 mc_X4_240 mi_X4_findFlows se_X4_findFlows (c_X4_findFlows hlt w' (hs.congr (fun i j => cit_fr (by omega)) (fun d => cit_fr (by omega)) (cit_fr (by omega))) hinj (fun i hi => by rw [cit_at cloc_7u hinj (Nat.le_refl _) hi]; exact hcap i hi)) (w'.k (by first | rfl | assumption)) rfl rfl (Nat.le_of_ble_eq_true rfl) (am_rm hR (by decide)) (fun _ _ z => z) (fun v hx hq hE => ?_)
        obtain ⟨x, G, rfl, w22, hcst⟩ := hq
        refine g_iconst (v := 0) dX4_beginFlowing_51 (by decide) ?_
        refine g_istore_n dX4_beginFlowing_52 (by decide) rfl ?_
        have lp_53 : ∀ (f : Nat) (j : Nat) (h' : am_H), j ≤ ord.length → ord.length - j < f → WI N n p ord L (cit 9 Fpay ord j G) o h' → am_G k RX4 yX4_beginFlowing.name cX4_beginFlowing 3 none 0 0 Qf 53 [(1, .int (nI j)), (0, .ref (L 5 0))] [] h' := by
          intro f
          induction f with
          | zero => intro j h' hj hf w'; omega
          | succ f ih2 =>
            intro j h' hj hf w'
            refine g_iload_n dX4_beginFlowing_53 rfl ?_
            refine g_aload_n dX4_beginFlowing_54 rfl ?_
            refine w_getR w' dX4_beginFlowing_55 fl_X4_23 rfl rfl (by first | rfl | assumption) rfl ?_
            refine g_callV [] dX4_beginFlowing_58 mc_X4_57 mi_Jx4a65c_size_8abf5 se_Jx4a65c_size_8abf5 (c_size1 hlt w') (w'.k (by first | rfl | assumption)) rfl rfl (Nat.le_of_ble_eq_true rfl) (am_rm hR (by decide)) (fun _ _ z => z) (fun v hx hq hE => ?_)
            obtain ⟨rfl, rfl⟩ := hq
            refine gN_ge 84 dX4_beginFlowing_61 (by decide) (by omega) (by omega) (fun c_61 => ?_) (fun c_61 => ?_)
            · skip
              have ej : j = ord.length := by omega
              rw [ej] at w'
              rw [hQ]
              refine g_vret dX4_beginFlowing_84 rfl (by decide) (by decide) ?_
              exact ⟨x, G, rfl, w', hcst⟩
            · skip
              have hodn : od ord j < n := od_lt w.1.2.2.2.1 c_61
              have hdj : wdm n p o 2 (od ord j) = true := decide_eq_true hodn
              have hdj0 : wdm n p o 0 (od ord j) = true := decide_eq_true hodn
              have hdj1 : wdm n p o 2 (ord.getD j 0) = true := hdj
              refine g_aload_n dX4_beginFlowing_64 rfl ?_
              refine w_getR w' dX4_beginFlowing_65 fl_X4_23 rfl rfl (by first | rfl | assumption) rfl ?_
              refine g_iload_n dX4_beginFlowing_68 rfl ?_
              refine g_callV [_] dX4_beginFlowing_69 mc_X4_103 mi_Jx4a65c_get_915e3 se_Jx4a65c_get_915e3 (c_get1 hlt w' (by first | assumption | omega)) (w'.k (by first | rfl | assumption)) rfl rfl (Nat.le_of_ble_eq_true rfl) (am_rm hR (by decide)) (fun _ _ z => z) (fun v hx hq hE => ?_)
              obtain ⟨rfl, rfl⟩ := hq
              refine g_castS (q := (RX1, TX1, 14)) dX4_beginFlowing_72 kl_X4_66 (w'.k (by first | rfl | assumption)) rfl ?_
              rw [show ord.getD j 0 = od ord j from rfl]
              refine g_callV [] dX4_beginFlowing_75 mc_X4_243 mi_X1_pay se_X1_pay (c_X1_pay hlt w' hdj) (w'.k (by first | rfl | assumption)) rfl rfl (Nat.le_of_ble_eq_true rfl) (am_rm hR (by decide)) (fun _ _ z => z) (fun v hx hq hE => ?_)
              obtain ⟨rfl, w43⟩ := hq
              refine g_iinc dX4_beginFlowing_78 rfl (nI_i1 _) (by decide) rfl ?_
              refine g_goto 53 dX4_beginFlowing_81 (by decide) ?_
              refine g_ls [(1, .int (nI (j + 1))), (0, .ref (L 5 0))] ⟨rfl, rfl, trivial⟩ ?_
              exact ih2 (j + 1) _ (by omega) (by omega) w43
        refine g_ls [(1, .int (nI 0)), (0, .ref (L 5 0))] ⟨rfl, rfl, trivial⟩ ?_
        exact lp_53 (ord.length + 1) 0 _ (by omega) (by omega) w22
      · skip
        have hodn : od ord j < n := od_lt w.1.2.2.2.1 c_15
        have hdj : wdm n p o 2 (od ord j) = true := decide_eq_true hodn
        have hdj0 : wdm n p o 0 (od ord j) = true := decide_eq_true hodn
        have hdj1 : wdm n p o 2 (ord.getD j 0) = true := hdj
        refine g_aload_n dX4_beginFlowing_18 rfl ?_
        refine w_getR w' dX4_beginFlowing_19 fl_X4_23 rfl rfl (by first | rfl | assumption) rfl ?_
        refine g_iload_n dX4_beginFlowing_22 rfl ?_
        refine g_callV [_] dX4_beginFlowing_23 mc_X4_103 mi_Jx4a65c_get_915e3 se_Jx4a65c_get_915e3 (c_get1 hlt w' (by first | assumption | omega)) (w'.k (by first | rfl | assumption)) rfl rfl (Nat.le_of_ble_eq_true rfl) (am_rm hR (by decide)) (fun _ _ z => z) (fun v hx hq hE => ?_)
        obtain ⟨rfl, rfl⟩ := hq
        refine g_castS (q := (RX1, TX1, 14)) dX4_beginFlowing_26 kl_X4_66 (w'.k (by first | rfl | assumption)) rfl ?_
        rw [show ord.getD j 0 = od ord j from rfl]
        refine g_astore_n dX4_beginFlowing_29 (by decide) rfl ?_
        refine g_aload_n dX4_beginFlowing_30 rfl ?_
        refine g_aload_n dX4_beginFlowing_31 rfl ?_
        refine w_getR w' dX4_beginFlowing_32 fl_X4_112 rfl rfl (by first | rfl | assumption) rfl ?_
        refine w_getI w' dX4_beginFlowing_35 fl_X4_178 rfl rfl (by first | rfl | assumption) ?_
        refine w_putI w' dX4_beginFlowing_38 fl_X4_237 rfl rfl (by decide) (fun q hq => by cases hq; rfl) (by first | rfl | assumption) rfl rfl (fun h23 w23 => ?_)
        refine g_iinc dX4_beginFlowing_41 rfl (nI_i1 _) (by decide) rfl ?_
        refine g_goto 7 dX4_beginFlowing_44 (by decide) ?_
        refine g_ls [(1, .int (nI (j + 1))), (0, .ref (L 5 0))] ⟨rfl, rfl, trivial⟩ ?_
        exact ih (j + 1) _ (by omega) (by omega) w23
  refine g_ls [(1, .int (nI 0)), (0, .ref (L 5 0))] ⟨rfl, rfl, trivial⟩ ?_
  exact lp_7 (ord.length + 1) 0 _ (by omega) (by omega) w1
set_option maxRecDepth 100000 in
set_option maxHeartbeats 4000000 in
theorem c_X4_flowLess {l : Launch} (hlt : l.stackTraces = false) {N n p : Nat} {ord : List Nat} {L : Nat → Nat → Nat} {Γ : Nat → Nat → Nat → Int32} {o : Nat} {h : am_H} (w : WI N n p ord L Γ o h) {A B : Nat → Nat} (hs : SC Γ n p A B) (hinj : ∀ i k, i < ord.length → k < ord.length → od ord i = od ord k → i = k) (hcap : ∀ i, i < ord.length → 0 ≤ (Γ 2 (od ord i) 8).toInt ∧ (Γ 2 (od ord i) 8).toInt ≤ 9999) : am_Con l yX4_flowLess (.code yX4_flowLess cX4_flowLess 3 (some .int)) 6 0 0 [.ref (L 5 0)] h (fun v h' => ∃ (x : Nat → Int) (G : Nat → Nat → Nat → Int32), v = some (.int (sp_sum (fun k => G 2 (od ord k) 7 - G 2 (od ord k) 8) ord.length)) ∧ WI N n p ord L (cit 10 Fback ord ord.length G) o h' ∧ CST (cit 7 F7g ord ord.length Γ) G p A B ord x) (fun _ _ => False) := by
  refine am_body hlt (by decide +kernel) (Nat.le_of_ble_eq_true rfl) (fun k hl hR h0 hno => ?_)
  subst hl
  obtain ⟨Qf, hQ⟩ : ∃ Qf, Qf = am_Q k 0 0 (fun v h' => ∃ (x : Nat → Int) (G : Nat → Nat → Nat → Int32), v = some (.int (sp_sum (fun k => G 2 (od ord k) 7 - G 2 (od ord k) 8) ord.length)) ∧ WI N n p ord L (cit 10 Fback ord ord.length G) o h' ∧ CST (cit 7 F7g ord ord.length Γ) G p A B ord x) (fun _ _ => False) := ⟨_, rfl⟩
  rw [← hQ]
  have hm0 : wdm n p o 3 0 = true := rfl
  have hx0 : wdm n p o 5 0 = true := rfl
  have hn8 : n ≤ 8 := w.1.1
  have hp24 : p ≤ 24 := w.1.2.1
  have ho8 : ord.length ≤ 8 := w.1.2.2.2.2
  refine g_iconst (v := 0) dX4_flowLess_0 (by decide) ?_
  refine g_istore_n dX4_flowLess_1 (by decide) rfl ?_
  have lp_2 : ∀ (f : Nat) (j : Nat) (h' : am_H), j ≤ ord.length → ord.length - j < f → WI N n p ord L (cit 7 F7g ord j Γ) o h' → am_G k RX4 yX4_flowLess.name cX4_flowLess 3 (some .int) 0 0 Qf 2 [(1, .int (nI j)), (0, .ref (L 5 0))] [] h' := by
    intro f
    induction f with
    | zero => intro j h' hj hf w'; omega
    | succ f ih =>
      intro j h' hj hf w'
      refine g_iload_n dX4_flowLess_2 rfl ?_
      refine g_aload_n dX4_flowLess_3 rfl ?_
      refine w_getR w' dX4_flowLess_4 fl_X4_23 rfl rfl (by first | rfl | assumption) rfl ?_
      refine g_callV [] dX4_flowLess_7 mc_X4_57 mi_Jx4a65c_size_8abf5 se_Jx4a65c_size_8abf5 (c_size1 hlt w') (w'.k (by first | rfl | assumption)) rfl rfl (Nat.le_of_ble_eq_true rfl) (am_rm hR (by decide)) (fun _ _ z => z) (fun v hx hq hE => ?_)
      obtain ⟨rfl, rfl⟩ := hq
      refine gN_ge 39 dX4_flowLess_10 (by decide) (by omega) (by omega) (fun c_10 => ?_) (fun c_10 => ?_)
      · skip
        have ej : j = ord.length := by omega
        rw [ej] at w'
        refine g_aload_n dX4_flowLess_39 rfl ?_
        refine g_callV [] dX4_flowLess_40 mc_X4_240 mi_X4_findFlows se_X4_findFlows (c_X4_findFlows hlt w' (hs.congr (fun i j => cit_fr (by omega)) (fun d => cit_fr (by omega)) (cit_fr (by omega))) hinj (fun i hi => by rw [cit_at cloc_7g hinj (Nat.le_refl _) hi]; exact hcap i hi)) (w'.k (by first | rfl | assumption)) rfl rfl (Nat.le_of_ble_eq_true rfl) (am_rm hR (by decide)) (fun _ _ z => z) (fun v hx hq hE => ?_)
        obtain ⟨x, G, rfl, w21, hcst⟩ := hq
        refine g_iconst (v := 0) dX4_flowLess_43 (by decide) ?_
        refine g_istore_n dX4_flowLess_44 (by decide) rfl ?_
        refine g_iconst (v := 0) dX4_flowLess_45 (by decide) ?_
        refine g_istore_n dX4_flowLess_46 (by decide) rfl ?_
        have lp_47 : ∀ (f : Nat) (j : Nat) (y : Int32) (h' : am_H), j ≤ ord.length → ord.length - j < f → y = sp_sum (fun k => G 2 (od ord k) 7 - G 2 (od ord k) 8) j → WI N n p ord L (cit 10 Fback ord j G) o h' → am_G k RX4 yX4_flowLess.name cX4_flowLess 3 (some .int) 0 0 Qf 47 [(2, .int (nI j)), (1, .int y), (0, .ref (L 5 0))] [] h' := by
          intro f
          induction f with
          | zero => intro j y h' hj hf ex w'; omega
          | succ f ih2 =>
            intro j y h' hj hf ex w'
            refine g_iload_n dX4_flowLess_47 rfl ?_
            refine g_aload_n dX4_flowLess_48 rfl ?_
            refine w_getR w' dX4_flowLess_49 fl_X4_23 rfl rfl (by first | rfl | assumption) rfl ?_
            refine g_callV [] dX4_flowLess_52 mc_X4_57 mi_Jx4a65c_size_8abf5 se_Jx4a65c_size_8abf5 (c_size1 hlt w') (w'.k (by first | rfl | assumption)) rfl rfl (Nat.le_of_ble_eq_true rfl) (am_rm hR (by decide)) (fun _ _ z => z) (fun v hx hq hE => ?_)
            obtain ⟨rfl, rfl⟩ := hq
            refine gN_ge 81 dX4_flowLess_55 (by decide) (by omega) (by omega) (fun c_55 => ?_) (fun c_55 => ?_)
            · skip
              have ej : j = ord.length := by omega
              rw [ej] at w'
              refine g_iload_n dX4_flowLess_81 rfl ?_
              rw [hQ]
              refine g_iret dX4_flowLess_82 rfl rfl (by decide) (by decide) ?_
              exact ⟨x, G, by rw [ex, ej], w', hcst⟩
            · skip
              have hodn : od ord j < n := od_lt w.1.2.2.2.1 c_55
              have hdj : wdm n p o 2 (od ord j) = true := decide_eq_true hodn
              have hdj0 : wdm n p o 0 (od ord j) = true := decide_eq_true hodn
              have hdj1 : wdm n p o 2 (ord.getD j 0) = true := hdj
              refine g_iload_n dX4_flowLess_58 rfl ?_
              refine g_aload_n dX4_flowLess_59 rfl ?_
              refine w_getR w' dX4_flowLess_60 fl_X4_23 rfl rfl (by first | rfl | assumption) rfl ?_
              refine g_iload_n dX4_flowLess_63 rfl ?_
              refine g_callV [_] dX4_flowLess_64 mc_X4_103 mi_Jx4a65c_get_915e3 se_Jx4a65c_get_915e3 (c_get1 hlt w' (by first | assumption | omega)) (w'.k (by first | rfl | assumption)) rfl rfl (Nat.le_of_ble_eq_true rfl) (am_rm hR (by decide)) (fun _ _ z => z) (fun v hx hq hE => ?_)
              obtain ⟨rfl, rfl⟩ := hq
              refine g_castS (q := (RX1, TX1, 14)) dX4_flowLess_67 kl_X4_66 (w'.k (by first | rfl | assumption)) rfl ?_
              rw [show ord.getD j 0 = od ord j from rfl]
              refine g_callV [] dX4_flowLess_70 mc_X4_246 mi_X1_takeBackPay se_X1_takeBackPay (c_X1_takeBackPay hlt w' hdj) (w'.k (by first | rfl | assumption)) rfl rfl (Nat.le_of_ble_eq_true rfl) (am_rm hR (by decide)) (fun _ _ z => z) (fun v hx hq hE => ?_)
              obtain ⟨rfl, w42⟩ := hq
              rw [cit_fr (f := 10) (F := Fback) (ord := ord) (k := j) (Γ := G) (c := 2) (i := od ord j) (j := 7) (by omega), cit_fr (f := 10) (F := Fback) (ord := ord) (k := j) (Γ := G) (c := 2) (i := od ord j) (j := 8) (by omega)]
              refine g_iadd dX4_flowLess_73 ?_
              refine g_istore_n dX4_flowLess_74 (by decide) rfl ?_
              refine g_iinc dX4_flowLess_75 rfl (nI_i1 _) (by decide) rfl ?_
              refine g_goto 47 dX4_flowLess_78 (by decide) ?_
              refine g_ls [(2, .int (nI (j + 1))), (1, .int _), (0, .ref (L 5 0))] ⟨rfl, rfl, rfl, trivial⟩ ?_
              exact ih2 (j + 1) _ _ (by omega) (by omega) (by rw [ex]; rfl) w42
        refine g_ls [(2, .int (nI 0)), (1, .int 0), (0, .ref (L 5 0))] ⟨rfl, rfl, rfl, trivial⟩ ?_
        exact lp_47 (ord.length + 1) 0 0 _ (by omega) (by omega) rfl w21
      · skip
        have hodn : od ord j < n := od_lt w.1.2.2.2.1 c_10
        have hdj : wdm n p o 2 (od ord j) = true := decide_eq_true hodn
        have hdj0 : wdm n p o 0 (od ord j) = true := decide_eq_true hodn
        have hdj1 : wdm n p o 2 (ord.getD j 0) = true := hdj
        refine g_aload_n dX4_flowLess_13 rfl ?_
        refine w_getR w' dX4_flowLess_14 fl_X4_23 rfl rfl (by first | rfl | assumption) rfl ?_
        refine g_iload_n dX4_flowLess_17 rfl ?_
        refine g_callV [_] dX4_flowLess_18 mc_X4_103 mi_Jx4a65c_get_915e3 se_Jx4a65c_get_915e3 (c_get1 hlt w' (by first | assumption | omega)) (w'.k (by first | rfl | assumption)) rfl rfl (Nat.le_of_ble_eq_true rfl) (am_rm hR (by decide)) (fun _ _ z => z) (fun v hx hq hE => ?_)
        obtain ⟨rfl, rfl⟩ := hq
        refine g_castS (q := (RX1, TX1, 14)) dX4_flowLess_21 kl_X4_66 (w'.k (by first | rfl | assumption)) rfl ?_
        rw [show ord.getD j 0 = od ord j from rfl]
        refine g_astore_n dX4_flowLess_24 (by decide) rfl ?_
        refine g_aload_n dX4_flowLess_25 rfl ?_
        refine g_aload_n dX4_flowLess_26 rfl ?_
        refine w_getI w' dX4_flowLess_27 fl_X4_160 rfl rfl (by first | rfl | assumption) ?_
        refine w_putI w' dX4_flowLess_30 fl_X4_237 rfl rfl (by decide) (fun q hq => by cases hq; rfl) (by first | rfl | assumption) rfl rfl (fun h22 w22 => ?_)
        refine g_iinc dX4_flowLess_33 rfl (nI_i1 _) (by decide) rfl ?_
        refine g_goto 2 dX4_flowLess_36 (by decide) ?_
        refine g_ls [(1, .int (nI (j + 1))), (0, .ref (L 5 0))] ⟨rfl, rfl, trivial⟩ ?_
        exact ih (j + 1) _ (by omega) (by omega) w22
  refine g_ls [(1, .int (nI 0)), (0, .ref (L 5 0))] ⟨rfl, rfl, trivial⟩ ?_
  exact lp_2 (ord.length + 1) 0 _ (by omega) (by omega) w
set_option maxRecDepth 100000 in
set_option maxHeartbeats 4000000 in
theorem c_X4_burst_0b {l : Launch} (hlt : l.stackTraces = false) {N n p : Nat} {ord : List Nat} {L : Nat → Nat → Nat} {Γ : Nat → Nat → Nat → Int32} {o : Nat} {h : am_H} (w : WI N n p ord L Γ o h) {A B : Nat → Nat} {i : Nat} (hi : i < p) (hf : Γ 4 i 3 = 0) (hg : ¬ Γ 5 0 5 = 0) (hs : SC (u3 Γ 4 i 3 1) n p A B) (hinj : ∀ i k, i < ord.length → k < ord.length → od ord i = od ord k → i = k) (hcap : ∀ i, i < ord.length → 0 ≤ (Γ 2 (od ord i) 8).toInt ∧ (Γ 2 (od ord i) 8).toInt ≤ 9999) : am_Con l yX4_burst (.code yX4_burst cX4_burst 3 (some .int)) 20 0 0 [.ref (L 5 0), .int (nI i)] h (fun v h' => ∃ (x : Nat → Int) (G : Nat → Nat → Nat → Int32), v = some (.int (sp_sum (fun k => G 2 (od ord k) 7 - G 2 (od ord k) 8) ord.length)) ∧ WI N n p ord L (cit 10 Fback ord ord.length G) o h' ∧ CST (cit 7 F7g ord ord.length (u3 Γ 4 i 3 1)) G p A B ord x) (fun _ _ => False) := by
  refine am_body hlt (by decide +kernel) (Nat.le_of_ble_eq_true rfl) (fun k hl hR h0 hno => ?_)
  subst hl
  obtain ⟨Qf, hQ⟩ : ∃ Qf, Qf = am_Q k 0 0 (fun v h' => ∃ (x : Nat → Int) (G : Nat → Nat → Nat → Int32), v = some (.int (sp_sum (fun k => G 2 (od ord k) 7 - G 2 (od ord k) 8) ord.length)) ∧ WI N n p ord L (cit 10 Fback ord ord.length G) o h' ∧ CST (cit 7 F7g ord ord.length (u3 Γ 4 i 3 1)) G p A B ord x) (fun _ _ => False) := ⟨_, rfl⟩
  rw [← hQ]
  have hm0 : wdm n p o 3 0 = true := rfl
  have hx0 : wdm n p o 5 0 = true := rfl
  have hn8 : n ≤ 8 := w.1.1
  have hp24 : p ≤ 24 := w.1.2.1
  have ho8 : ord.length ≤ 8 := w.1.2.2.2.2
  have hdi : wdm n p o 4 i = true := decide_eq_true hi
  refine g_aload_n dX4_burst_0 rfl ?_
  refine g_iload_n dX4_burst_1 rfl ?_
  refine g_callV [_] dX4_burst_2 mc_X4_143 mi_X4_isNoPipe se_X4_isNoPipe (c_isNoPipe_0 hlt w (by assumption)) (w.k (by first | rfl | assumption)) rfl rfl (Nat.le_of_ble_eq_true rfl) (am_rm hR (by decide)) (fun _ _ z => z) (fun v hx hq hE => ?_)
  obtain ⟨rfl, rfl⟩ := hq
  refine g_if_eq 18 dX4_burst_5 (by decide) (fun _ => ?_) (fun z => absurd z (by decide))
  refine g_aload_n dX4_burst_18 rfl ?_
  refine w_getR w dX4_burst_19 fl_X4_19 rfl rfl (by first | rfl | assumption) rfl ?_
  refine w_getR w dX4_burst_22 fl_X4_86 rfl rfl (by first | rfl | assumption) rfl ?_
  refine g_iload_n dX4_burst_25 rfl ?_
  refine g_callV [_] dX4_burst_26 mc_X4_103 mi_Jx4a65c_get_915e3 se_Jx4a65c_get_915e3 (c_get2 hlt w (by first | assumption | omega)) (w.k (by first | rfl | assumption)) rfl rfl (Nat.le_of_ble_eq_true rfl) (am_rm hR (by decide)) (fun _ _ z => z) (fun v hx hq hE => ?_)
  obtain ⟨rfl, rfl⟩ := hq
  refine g_castS (q := (RX3, TX3, 4)) dX4_burst_29 kl_X4_91 (w.k (by first | rfl | assumption)) rfl ?_
  refine g_astore_n dX4_burst_32 (by decide) rfl ?_
  refine g_aload_n dX4_burst_33 rfl ?_
  refine w_getI w dX4_burst_34 fl_X4_148 rfl rfl (by first | rfl | assumption) ?_
  refine g_if_eq 50 dX4_burst_37 (by decide) (fun c_37 => ?_) (fun z => absurd hf z)
  refine g_aload_n dX4_burst_50 rfl ?_
  refine g_iconst (v := 1) dX4_burst_51 (by decide) ?_
  refine w_putI w dX4_burst_52 fl_X4_148 rfl rfl (by decide) (fun q hq => by cases hq; rfl) (by first | rfl | assumption) rfl rfl (fun h1 w1 => ?_)
  refine g_aload_n dX4_burst_55 rfl ?_
  refine w_getI w1 dX4_burst_56 fl_X4_33 rfl rfl (by first | rfl | assumption) ?_
  refine g_if_eq 69 dX4_burst_59 (by decide) (fun z => absurd z hg) (fun c_59 => ?_)
  refine g_aload_n dX4_burst_62 rfl ?_
  refine g_callV [] dX4_burst_63 mc_X4_153 mi_X4_flowLess se_X4_flowLess (c_X4_flowLess hlt w1 hs hinj (fun i hi => by rw [u3_n (by omega)]; exact hcap i hi)) (w1.k (by first | rfl | assumption)) rfl rfl (Nat.le_of_ble_eq_true rfl) (am_rm hR (by decide)) (fun _ _ z => z) (fun v hx hq hE => ?_)
  obtain ⟨x, G, rfl, w2, hcst⟩ := hq
  refine g_goto 70 dX4_burst_66 (by decide) ?_
  rw [hQ]
  refine g_iret dX4_burst_70 rfl rfl (by decide) (by decide) ?_
  exact ⟨x, G, rfl, w2, hcst⟩
set_option maxRecDepth 100000 in
set_option maxHeartbeats 4000000 in
theorem c_X4_flowAnew_0c {l : Launch} (hlt : l.stackTraces = false) {N n p : Nat} {ord : List Nat} {L : Nat → Nat → Nat} {Γ : Nat → Nat → Nat → Int32} {o : Nat} {h : am_H} (w : WI N n p ord L Γ o h) {A B : Nat → Nat} {i : Nat} (hi : i < n) (hf : ¬ Γ 5 0 5 = 0) (hst : ¬ Γ 0 i 0 = 0) (hs : SC Γ n p A B) (hcap : ∀ i, i < ord.length → 0 ≤ (Γ 2 (od ord i) 7).toInt ∧ (Γ 2 (od ord i) 7).toInt ≤ 9999) {t : Nat} (ht : t < ord.length) (hah : sp_sum (fun j => if sp_ahead Γ (ord.getD j 0) i = 0 then 0 else 1) ord.length = nI t) : am_Con l yX4_flowAnew (.code yX4_flowAnew cX4_flowAnew 4 (some .int)) 20 0 0 [.ref (L 5 0), .int (nI i)] h (fun v h' => ∃ (x : Nat → Int) (y : Int32) (G : Nat → Nat → Nat → Int32), v = some (.int y) ∧ y.toInt = x t ∧ WI N n p ord L G o h' ∧ frP Γ G ∧ SEQ (CM p A B (KC Γ)) (Γ 3 0 1).toInt (od ord) (fun i => (Γ 2 (od ord i) 7).toInt) x (t + 1)) (fun _ _ => False) := by
  refine am_body hlt (by decide +kernel) (Nat.le_of_ble_eq_true rfl) (fun k hl hR h0 hno => ?_)
  subst hl
  obtain ⟨Qf, hQ⟩ : ∃ Qf, Qf = am_Q k 0 0 (fun v h' => ∃ (x : Nat → Int) (y : Int32) (G : Nat → Nat → Nat → Int32), v = some (.int y) ∧ y.toInt = x t ∧ WI N n p ord L G o h' ∧ frP Γ G ∧ SEQ (CM p A B (KC Γ)) (Γ 3 0 1).toInt (od ord) (fun i => (Γ 2 (od ord i) 7).toInt) x (t + 1)) (fun _ _ => False) := ⟨_, rfl⟩
  rw [← hQ]
  have hm0 : wdm n p o 3 0 = true := rfl
  have hx0 : wdm n p o 5 0 = true := rfl
  have hn8 : n ≤ 8 := w.1.1
  have hp24 : p ≤ 24 := w.1.2.1
  have ho8 : ord.length ≤ 8 := w.1.2.2.2.2
  have hdi : wdm n p o 2 i = true := decide_eq_true hi
  have hdi0 : wdm n p o 0 i = true := decide_eq_true hi
  refine g_aload_n dX4_flowAnew_0 rfl ?_
  refine g_iload_n dX4_flowAnew_1 rfl ?_
  refine g_callV [_] dX4_flowAnew_2 mc_X4_75 mi_X4_isNoDistrict se_X4_isNoDistrict (c_isNoDistrict_0 hlt w (by assumption)) (w.k (by first | rfl | assumption)) rfl rfl (Nat.le_of_ble_eq_true rfl) (am_rm hR (by decide)) (fun _ _ z => z) (fun v hx hq hE => ?_)
  obtain ⟨rfl, rfl⟩ := hq
  refine g_if_eq 18 dX4_flowAnew_5 (by decide) (fun _ => ?_) (fun z => absurd z (by decide))
  refine g_aload_n dX4_flowAnew_18 rfl ?_
  refine w_getR w dX4_flowAnew_19 fl_X4_12 rfl rfl (by first | rfl | assumption) rfl ?_
  refine g_iload_n dX4_flowAnew_22 rfl ?_
  refine g_callV [_] dX4_flowAnew_23 mc_X4_103 mi_Jx4a65c_get_915e3 se_Jx4a65c_get_915e3 (c_get0 hlt w (by first | assumption | omega)) (w.k (by first | rfl | assumption)) rfl rfl (Nat.le_of_ble_eq_true rfl) (am_rm hR (by decide)) (fun _ _ z => z) (fun v hx hq hE => ?_)
  obtain ⟨rfl, rfl⟩ := hq
  refine g_castS (q := (RX1, TX1, 14)) dX4_flowAnew_26 kl_X4_66 (w.k (by first | rfl | assumption)) rfl ?_
  refine g_astore_n dX4_flowAnew_29 (by decide) rfl ?_
  refine g_aload_n dX4_flowAnew_30 rfl ?_
  refine w_getI w dX4_flowAnew_31 fl_X4_33 rfl rfl (by first | rfl | assumption) ?_
  refine g_if_eq 47 dX4_flowAnew_34 (by decide) (fun z => absurd z hf) (fun c_34 => ?_)
  refine g_aload_n dX4_flowAnew_37 rfl ?_
  refine w_getR w dX4_flowAnew_38 fl_X4_112 rfl rfl (by first | rfl | assumption) rfl ?_
  refine w_getI w dX4_flowAnew_41 fl_X4_116 rfl rfl (by first | rfl | assumption) ?_
  refine g_if_ne 49 dX4_flowAnew_44 (by decide) (fun c_44 => ?_) (fun z => absurd z hst)
  refine g_aload_n dX4_flowAnew_49 rfl ?_
  refine g_aload_n dX4_flowAnew_50 rfl ?_
  refine g_callV [_] dX4_flowAnew_51 mc_X4_198 mi_X4_bidsAheadOf se_X4_bidsAheadOf (c_X4_bidsAheadOf hlt w (by assumption)) (w.k (by first | rfl | assumption)) rfl rfl (Nat.le_of_ble_eq_true rfl) (am_rm hR (by decide)) (fun _ _ z => z) (fun v hx hq hE => ?_)
  obtain ⟨rfl, rfl⟩ := hq
  rw [hah]
  refine g_istore_n dX4_flowAnew_54 (by decide) rfl ?_
  refine g_aload_n dX4_flowAnew_55 rfl ?_
  refine g_iload_n dX4_flowAnew_56 rfl ?_
  refine g_iconst (v := 1) dX4_flowAnew_57 (by decide) ?_
  refine g_iadd dX4_flowAnew_58 ?_
  rw [nI_1]
  refine g_callV [_] dX4_flowAnew_59 mc_X4_202 mi_X4_together se_X4_together (c_X4_together hlt w hs hcap (t := t + 1) (by omega)) (w.k (by first | rfl | assumption)) rfl rfl (Nat.le_of_ble_eq_true rfl) (am_rm hR (by decide)) (fun _ _ z => z) (fun v hx hq hE => ?_)
  obtain ⟨x1, y1, G1, rfl, hy1, w1, hf1, hq1⟩ := hq
  have e71 : ∀ d, G1 2 d 7 = Γ 2 d 7 := fun d => hf1 2 d 7 (by decide) (by decide) (by omega)
  refine g_aload_n dX4_flowAnew_62 rfl ?_
  refine g_iload_n dX4_flowAnew_63 rfl ?_
  refine g_callV [_] dX4_flowAnew_64 mc_X4_202 mi_X4_together se_X4_together (c_X4_together hlt w1 (hf1.sc hs) (fun i hi => by rw [e71]; exact hcap i hi) (t := t) (by omega)) (w1.k (by first | rfl | assumption)) rfl rfl (Nat.le_of_ble_eq_true rfl) (am_rm hR (by decide)) (fun _ _ z => z) (fun v hx hq hE => ?_)
  obtain ⟨x2, y2, G2, rfl, hy2, w2, hf2, hq2⟩ := hq
  refine g_isub dX4_flowAnew_67 ?_
  rw [hQ]
  refine g_iret dX4_flowAnew_68 rfl rfl (by decide) (by decide) ?_
  have hkc : KC G1 = KC Γ := frE.kc (fun i j => hf1 4 i j (by decide) (by decide) (by omega))
  have hq3 : SEQ (CM p A B (KC Γ)) (Γ 3 0 1).toInt (od ord) (fun i => (Γ 2 (od ord i) 7).toInt) x2 t := by
    rw [hkc, hf1 3 0 1 (by decide) (by decide) (by omega)] at hq2
    exact hq2.congr (fun _ _ => rfl) (fun i hi => by show (Γ 2 (od ord i) 7).toInt = (G1 2 (od ord i) 7).toInt; rw [e71])
  have hu := SEQ.uniq t (fun i hi => hq1 i (by omega)) hq3
  have hz := zs_congr t hu
  have hp1 := SEQ.pos hs.2.2.1 (t + 1) hq1
  have hp2 := SEQ.pos hs.2.2.1 t hq3
  have hgv := hs.2.2.2
  have hz1 : zs x1 (t + 1) = zs x1 t + x1 t := rfl
  exact ⟨x1, y1 - y2, G2, rfl, (by rw [tI_sub (by omega) (by omega)]; omega), w2, fun c i j z1 z2 z3 => (hf2 c i j z1 z2 z3).trans (hf1 c i j z1 z2 z3), hq1⟩
