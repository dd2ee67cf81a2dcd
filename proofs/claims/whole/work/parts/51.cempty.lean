/-- what a pipe of the class can carry -/
def KC (Γ : Nat → Nat → Nat → Int32) (j : Nat) : Int := if Γ 4 j 3 = 0 then (Γ 4 j 2).toInt else 0
def cJ (p : Nat) (A B : Nat → Nat) (Γ : Nat → Nat → Nat → Int32) : Prop := ∀ j, j < p → Γ 4 j 0 = nI (A j) ∧ A j < 9 ∧ Γ 4 j 1 = nI (B j) ∧ B j < 9 ∧ 0 ≤ KC Γ j ∧ KC Γ j ≤ 999
def frE (Γ G : Nat → Nat → Nat → Int32) : Prop := ∀ c i j, ¬ c = 9 → ¬ (c = 3 ∧ j = 2) → G c i j = Γ c i j
theorem CM_b {K : Nat → Int} {A B : Nat → Nat} : ∀ p, (∀ j, j < p → 0 ≤ K j ∧ K j ≤ 999) → ∀ a b, 0 ≤ CM p A B K a b ∧ CM p A B K a b ≤ 999 * p
  | 0, _, a, b => ⟨Int.le_refl _, Int.le_refl _⟩
  | p + 1, h, a, b => by
    have h1 := CM_b (A := A) (B := B) p (fun j hj => h j (by omega)) a b
    have h2 := h p (by omega)
    have e : CM (p + 1) A B K a b = CM p A B K a b + (if A p = a ∧ B p = b then K p else 0) := rfl
    rw [e]
    split <;> omega
theorem frE.kc {Γ G : Nat → Nat → Nat → Int32} (h : ∀ i j, G 4 i j = Γ 4 i j) : KC G = KC Γ := by
  funext j
  unfold KC
  rw [h, h]
set_option maxRecDepth 100000 in
set_option maxHeartbeats 4000000 in
theorem c_X2_empty {l : Launch} (hlt : l.stackTraces = false) {N n p : Nat} {ord : List Nat} {L : Nat → Nat → Nat} {Γ : Nat → Nat → Nat → Int32} {o : Int64} {h : am_H} (w : WI N n p ord L Γ o h) {A B : Nat → Nat} (hcj : cJ p A B Γ) : am_Con l yX2_empty (.code yX2_empty cX2_empty 3 none) 4 0 0 [.ref (L 3 0)] h (fun v h' => ∃ G : Nat → Nat → Nat → Int32, v = none ∧ WI N n p ord L G o h' ∧ frE Γ G ∧ G 3 0 2 = Γ 3 0 1 ∧ rmJ (CM p A B (KC Γ)) G) (fun _ _ => False) := by
  refine am_body hlt (by decide +kernel) (Nat.le_of_ble_eq_true rfl) (fun k hl hR h0 hno => ?_)
  subst hl
  obtain ⟨Qf, hQ⟩ : ∃ Qf, Qf = am_Q k 0 0 (fun v h' => ∃ G : Nat → Nat → Nat → Int32, v = none ∧ WI N n p ord L G o h' ∧ frE Γ G ∧ G 3 0 2 = Γ 3 0 1 ∧ rmJ (CM p A B (KC Γ)) G) (fun _ _ => False) := ⟨_, rfl⟩
  rw [← hQ]
  have hm0 : wdm n p 3 0 = true := rfl
  have hx0 : wdm n p 5 0 = true := rfl
  have hn8 : n ≤ 8 := w.1.1
  have hp24 : p ≤ 24 := w.1.2.1
  have ho8 : ord.length ≤ 8 := w.1.2.2.2.2
  refine g_aload_n dX2_empty_0 rfl ?_
  refine g_aload_n dX2_empty_1 rfl ?_
  refine w_getI w dX2_empty_2 fl_X2_18 rfl rfl (by first | rfl | assumption) ?_
  refine w_putI w dX2_empty_5 fl_X2_22 rfl rfl (by decide) (fun q hq => by cases hq; rfl) (by first | rfl | assumption) rfl rfl (fun h1 w1 => ?_)
  refine g_iconst (v := 0) dX2_empty_8 (by decide) ?_
  refine g_istore_n dX2_empty_9 (by decide) rfl ?_
  have lp_10 : ∀ (f : Nat) (a : Nat) (G : Nat → Nat → Nat → Int32) (h' : am_H), a ≤ 9 → 9 - a < f → WI N n p ord L G o h' → frE Γ G → G 3 0 2 = Γ 3 0 1 → (∀ x y, x < a → y < 9 → G 9 x y = 0) → am_G k RX2 yX2_empty.name cX2_empty 3 none 0 0 Qf 10 [(1, .int (nI a)), (0, .ref (L 3 0))] [] h' := by
    intro f
    induction f with
    | zero => intro a G h' ha hf w' hfr hg hz; omega
    | succ f ih1 =>
      intro a G h' ha hf w' hfr hg hz
      refine g_iload_n dX2_empty_10 rfl ?_
      refine g_bipush (v := nI 9) dX2_empty_11 (by decide) ?_
      refine gN_ge 45 dX2_empty_13 (by decide) (by omega) (by omega) (fun c_13 => ?_) (fun c_13 => ?_)
      · skip
        refine g_iconst (v := 0) dX2_empty_45 (by decide) ?_
        refine g_istore_n dX2_empty_46 (by decide) rfl ?_
        have lp_47 : ∀ (f : Nat) (j : Nat) (G : Nat → Nat → Nat → Int32) (h' : am_H), j ≤ p → p - j < f → WI N n p ord L G o h' → frE Γ G → G 3 0 2 = Γ 3 0 1 → rmJ (CM j A B (KC Γ)) G → am_G k RX2 yX2_empty.name cX2_empty 3 none 0 0 Qf 47 [(1, .int (nI j)), (0, .ref (L 3 0))] [] h' := by
          intro f
          induction f with
          | zero => intro j G h' hj hf w' hfr hg hrm; omega
          | succ f ih =>
            intro j G h' hj hf w' hfr hg hrm
            refine g_iload_n dX2_empty_47 rfl ?_
            refine g_aload_n dX2_empty_48 rfl ?_
            refine w_getR w' dX2_empty_49 fl_X2_12 rfl rfl (by first | rfl | assumption) rfl ?_
            refine g_callV [] dX2_empty_52 mc_X2_40 mi_Jx4a65c_size_8abf5 se_Jx4a65c_size_8abf5 (c_size2 hlt w') (w'.k (by first | rfl | assumption)) rfl rfl (Nat.le_of_ble_eq_true rfl) (am_rm hR (by decide)) (fun _ _ z => z) (fun v hx hq hE => ?_)
            obtain ⟨rfl, rfl⟩ := hq
            refine gN_ge 124 dX2_empty_55 (by decide) (by omega) (by omega) (fun c_55 => ?_) (fun c_55 => ?_)
            · skip
              rw [hQ]
              refine g_vret dX2_empty_124 rfl (by decide) (by decide) ?_
              have ej : j = p := by omega
              rw [ej] at hrm
              exact ⟨G, rfl, w', hfr, hg, hrm⟩
            · skip
              refine g_aload_n dX2_empty_58 rfl ?_
              refine w_getR w' dX2_empty_59 fl_X2_12 rfl rfl (by first | rfl | assumption) rfl ?_
              refine g_iload_n dX2_empty_62 rfl ?_
              refine g_callV [_] dX2_empty_63 mc_X2_44 mi_Jx4a65c_get_915e3 se_Jx4a65c_get_915e3 (c_get2 hlt w' (by first | assumption | omega)) (w'.k (by first | rfl | assumption)) rfl rfl (Nat.le_of_ble_eq_true rfl) (am_rm hR (by decide)) (fun _ _ z => z) (fun v hx hq hE => ?_)
              obtain ⟨rfl, rfl⟩ := hq
              refine g_castS (q := (RX3, TX3, 4)) dX2_empty_66 kl_X2_48 (w'.k (show wdm n p 4 j = true from decide_eq_true c_55)) rfl ?_
              have hdj : wdm n p 4 j = true := decide_eq_true c_55
              obtain ⟨pA, pA9, pB, pB9, pK⟩ := hcj j c_55
              have hwA : wdm n p 9 (A j) = true := decide_eq_true pA9
              refine g_astore_n dX2_empty_69 (by decide) rfl ?_
              refine g_aload_n dX2_empty_70 rfl ?_
              refine w_getI w' dX2_empty_71 fl_X2_50 rfl rfl (by first | rfl | assumption) ?_
              refine g_if_ne 118 dX2_empty_74 (by decide) (fun c_74 => ?_) (fun c_74 => ?_)
              · skip
                refine g_iinc dX2_empty_118 rfl (nI_i1 _) (by decide) rfl ?_
                refine g_goto 47 dX2_empty_121 (by decide) ?_
                have eC : ∀ x y, CM (j + 1) A B (KC Γ) x y = CM j A B (KC Γ) x y + (if A j = x ∧ B j = y then KC Γ j else 0) := fun _ _ => rfl
                refine g_ls [(1, .int (nI (j + 1))), (0, .ref (L 3 0))] ⟨rfl, rfl, trivial⟩ ?_
                have hK0 : KC Γ j = 0 := if_neg (fun z => c_74 ((hfr 4 j 3 (by decide) (by omega)).trans z))
                exact ih (j + 1) G _ (by omega) (by omega) w' hfr hg (fun x y hx hy => by rw [hrm x y hx hy, eC, hK0]; split <;> omega)
              · skip
                refine g_aload_n dX2_empty_77 rfl ?_
                refine w_getI w' dX2_empty_78 fl_X2_54 rfl rfl (by first | rfl | assumption) ?_
                rw [(hfr 4 j 0 (by decide) (by omega)).trans pA]
                refine g_callS [_] dX2_empty_81 mc_X2_57 ms_X2_isNode (c_isNode hlt (t := A j) pA9) rfl (Nat.le_of_ble_eq_true rfl) (am_rm hR (by decide)) (fun _ _ z => z) (fun v hx hq hE => ?_)
                obtain ⟨rfl, rfl⟩ := hq
                refine g_if_eq 118 dX2_empty_84 (by decide) (fun z => absurd z (by decide)) (fun _ => ?_)
                refine g_aload_n dX2_empty_87 rfl ?_
                refine w_getI w' dX2_empty_88 fl_X2_61 rfl rfl (by first | rfl | assumption) ?_
                rw [(hfr 4 j 1 (by decide) (by omega)).trans pB]
                refine g_callS [_] dX2_empty_91 mc_X2_57 ms_X2_isNode (c_isNode hlt (t := B j) pB9) rfl (Nat.le_of_ble_eq_true rfl) (am_rm hR (by decide)) (fun _ _ z => z) (fun v hx hq hE => ?_)
                obtain ⟨rfl, rfl⟩ := hq
                refine g_if_eq 118 dX2_empty_94 (by decide) (fun z => absurd z (by decide)) (fun _ => ?_)
                refine g_aload_n dX2_empty_97 rfl ?_
                refine w_getR w' dX2_empty_98 fl_X2_27 rfl rfl (by first | rfl | assumption) rfl ?_
                refine g_aload_n dX2_empty_101 rfl ?_
                refine w_getI w' dX2_empty_102 fl_X2_54 rfl rfl (by first | rfl | assumption) ?_
                rw [(hfr 4 j 0 (by decide) (by omega)).trans pA]
                refine w_row w' dX2_empty_105 (by first | assumption | omega | (show _ < 8; omega) | (show _ < 24; omega) | (show _ < 9; omega)) ?_
                refine g_aload_n dX2_empty_106 rfl ?_
                refine w_getI w' dX2_empty_107 fl_X2_61 rfl rfl (by first | rfl | assumption) ?_
                rw [(hfr 4 j 1 (by decide) (by omega)).trans pB]
                refine g_dup2 dX2_empty_110 rfl rfl ?_
                refine w_ald w' dX2_empty_111 (by decide) (by first | rfl | assumption) (by first | assumption | omega | (show _ < 8; omega) | (show _ < 24; omega) | (show _ < 9; omega)) ?_
                refine g_aload_n dX2_empty_112 rfl ?_
                refine w_getI w' dX2_empty_113 fl_X2_64 rfl rfl (by first | rfl | assumption) ?_
                refine g_iadd dX2_empty_116 ?_
                refine w_ast w' dX2_empty_117 (by decide) (by first | rfl | assumption) (by first | assumption | omega | (show _ < 8; omega) | (show _ < 24; omega) | (show _ < 9; omega)) (fun h42 w42 => ?_)
                refine g_iinc dX2_empty_118 rfl (nI_i1 _) (by decide) rfl ?_
                refine g_goto 47 dX2_empty_121 (by decide) ?_
                have eC : ∀ x y, CM (j + 1) A B (KC Γ) x y = CM j A B (KC Γ) x y + (if A j = x ∧ B j = y then KC Γ j else 0) := fun _ _ => rfl
                refine g_ls [(1, .int (nI (j + 1))), (0, .ref (L 3 0))] ⟨rfl, rfl, trivial⟩ ?_
                have hK1 : KC Γ j = (G 4 j 2).toInt := by unfold KC; rw [if_pos ((hfr 4 j 3 (by decide) (by omega)).symm.trans c_74), hfr 4 j 2 (by decide) (by omega)]
                refine ih (j + 1) _ _ (by omega) (by omega) w42 (fun c i j z1 z2 => (u3_n (fun q => z1 q.1)).trans (hfr c i j z1 z2)) ((u3_n (by omega)).trans hg) (fun x y hx hy => ?_)
                rw [eC]
                have hb := CM_b (A := A) (B := B) j (fun i hi => (hcj i (by omega)).2.2.2.2) (A j) (B j)
                by_cases z : A j = x ∧ B j = y
                · obtain ⟨rfl, rfl⟩ := z
                  rw [if_pos ⟨rfl, rfl⟩, u3_s, tI_add (by rw [hrm _ _ pA9 pB9, ← hK1]; omega) (by rw [hrm _ _ pA9 pB9, ← hK1]; omega), hrm _ _ pA9 pB9, hK1]
                · rw [if_neg z, u3_n (by omega), hrm x y hx hy]
                  omega
        refine g_ls [(1, .int (nI 0)), (0, .ref (L 3 0))] ⟨rfl, rfl, trivial⟩ ?_
        exact lp_47 (p + 1) 0 G _ (by omega) (by omega) w' hfr hg (fun x y hx hy => by rw [hz x y (by omega) hy]; exact tI_0)
      · skip
        refine g_iconst (v := 0) dX2_empty_16 (by decide) ?_
        refine g_istore_n dX2_empty_17 (by decide) rfl ?_
        have lp_18 : ∀ (f : Nat) (b : Nat) (G : Nat → Nat → Nat → Int32) (h' : am_H), b ≤ 9 → 9 - b < f → WI N n p ord L G o h' → frE Γ G → G 3 0 2 = Γ 3 0 1 → (∀ x y, x < a → y < 9 → G 9 x y = 0) → (∀ y, y < b → G 9 a y = 0) → am_G k RX2 yX2_empty.name cX2_empty 3 none 0 0 Qf 18 [(2, .int (nI b)), (1, .int (nI a)), (0, .ref (L 3 0))] [] h' := by
          intro f
          induction f with
          | zero => intro b G h' hb hf w' hfr hg hz hz2; omega
          | succ f ih2 =>
            intro b G h' hb hf w' hfr hg hz hz2
            refine g_iload_n dX2_empty_18 rfl ?_
            refine g_bipush (v := nI 9) dX2_empty_19 (by decide) ?_
            refine gN_ge 39 dX2_empty_21 (by decide) (by omega) (by omega) (fun c_21 => ?_) (fun c_21 => ?_)
            · skip
              refine g_iinc dX2_empty_39 rfl (nI_i1 _) (by decide) rfl ?_
              refine g_goto 10 dX2_empty_42 (by decide) ?_
              refine g_ls [(1, .int (nI (a + 1))), (0, .ref (L 3 0))] ⟨rfl, rfl, trivial⟩ ?_
              exact ih1 (a + 1) G _ (by omega) (by omega) w' hfr hg (fun x y hx hy => by
                by_cases z : x = a
                · rw [z]
                  exact hz2 y (by omega)
                · exact hz x y (by omega) hy)
            · skip
              have hwa : wdm n p 9 a = true := decide_eq_true (by omega)
              refine g_aload_n dX2_empty_24 rfl ?_
              refine w_getR w' dX2_empty_25 fl_X2_27 rfl rfl (by first | rfl | assumption) rfl ?_
              refine g_iload_n dX2_empty_28 rfl ?_
              refine w_row w' dX2_empty_29 (by first | assumption | omega | (show _ < 8; omega) | (show _ < 24; omega) | (show _ < 9; omega)) ?_
              refine g_iload_n dX2_empty_30 rfl ?_
              refine g_iconst (v := 0) dX2_empty_31 (by decide) ?_
              refine w_ast w' dX2_empty_32 (by decide) (by first | rfl | assumption) (by first | assumption | omega | (show _ < 8; omega) | (show _ < 24; omega) | (show _ < 9; omega)) (fun h42 w42 => ?_)
              refine g_iinc dX2_empty_33 rfl (nI_i1 _) (by decide) rfl ?_
              refine g_goto 18 dX2_empty_36 (by decide) ?_
              refine g_ls [(2, .int (nI (b + 1))), (1, .int (nI a)), (0, .ref (L 3 0))] ⟨rfl, rfl, rfl, trivial⟩ ?_
              exact ih2 (b + 1) _ _ (by omega) (by omega) w42 (fun c i j z1 z2 => (u3_n (fun q => z1 q.1)).trans (hfr c i j z1 z2)) ((u3_n (by omega)).trans hg) (fun x y hx hy => (u3_n (by omega)).trans (hz x y hx hy)) (fun y hy => by
                by_cases z : y = b
                · rw [z, u3_s]
                · rw [u3_n (by omega)]
                  exact hz2 y (by omega))
        refine g_ls [(2, .int (nI 0)), (1, .int (nI a)), (0, .ref (L 3 0))] ⟨rfl, rfl, rfl, trivial⟩ ?_
        exact lp_18 10 0 G _ (by omega) (by omega) w' hfr hg hz (fun y hy => absurd hy (Nat.not_lt_zero _))
  refine g_ls [(1, .int (nI 0)), (0, .ref (L 3 0))] ⟨rfl, rfl, trivial⟩ ?_
  exact lp_10 10 0 _ _ (by omega) (by omega) w1 (fun c i j z1 z2 => u3_n (fun q => z2 ⟨q.1, q.2.2⟩)) u3_s (fun x y hx => absurd hx (Nat.not_lt_zero _))
