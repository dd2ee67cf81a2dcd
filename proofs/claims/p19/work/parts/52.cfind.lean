def od (ord : List Nat) (i : Nat) : Nat := ord.getD i 0
theorem od_lt {ord : List Nat} {n : Nat} (h : ∀ e ∈ ord, e < n) {j : Nat} (hj : j < ord.length) : od ord j < n := h _ (by unfold od; rw [List.getD_eq_getElem?_getD, List.getElem?_eq_getElem hj]; exact List.getElem_mem _)
/-- what the class's flows want -/
def SC (Γ : Nat → Nat → Nat → Int32) (n p : Nat) (A B : Nat → Nat) : Prop := cJ p A B Γ ∧ (∀ d, d < n → Γ 2 d 0 = nI (d + 1)) ∧ 0 ≤ (Γ 3 0 1).toInt ∧ (Γ 3 0 1).toInt ≤ 9999
theorem SC.congr {Γ G : Nat → Nat → Nat → Int32} {n p : Nat} {A B : Nat → Nat} (h : SC Γ n p A B) (e4 : ∀ i j, G 4 i j = Γ 4 i j) (e2 : ∀ d, G 2 d 0 = Γ 2 d 0) (e3 : G 3 0 1 = Γ 3 0 1) : SC G n p A B := by
  obtain ⟨h1, h2, h3, h4⟩ := h
  refine ⟨fun j hj => ?_, fun d hd => by rw [e2]; exact h2 d hd, by rw [e3]; exact h3, by rw [e3]; exact h4⟩
  rw [e4, e4, frE.kc (Γ := Γ) e4]
  exact h1 j hj
theorem RJ.init {Γ G : Nat → Nat → Nat → Int32} {p : Nat} {A B : Nat → Nat} (h : cJ p A B Γ) (hr : rmJ (CM p A B (KC Γ)) G) : RJ (CM p A B (KC Γ)) (fun _ _ => 0) (fun _ => 0) G :=
  ⟨fun _ _ _ _ => rfl, fun a b ha hb => by rw [hr a b ha hb]; exact (Int.sub_zero _).symm, fun a b _ _ => (CM_b p (fun j hj => (h j hj).2.2.2.2) a b).1, fun v _ _ => zs_0 9⟩
theorem cJ.C {Γ : Nat → Nat → Nat → Int32} {p : Nat} {A B : Nat → Nat} (hp : p ≤ 24) (h : cJ p A B Γ) (a b : Nat) (_ : a < 9) (_ : b < 9) : 0 ≤ CM p A B (KC Γ) a b ∧ CM p A B (KC Γ) a b ≤ 100000 := by
  have := CM_b (A := A) (B := B) p (fun j hj => (h j hj).2.2.2.2) a b
  omega
def frX (Γ G : Nat → Nat → Nat → Int32) (ord : List Nat) (k : Nat) : Prop := ∀ c i j, ¬ c = 9 → ¬ c = 10 → ¬ (c = 3 ∧ j = 2) → (c = 2 → j = 8 → ∀ y, y < k → i ≠ od ord y) → G c i j = Γ c i j
set_option maxRecDepth 100000 in
set_option maxHeartbeats 4000000 in
theorem c_X4_findFlows {l : Launch} (hlt : l.stackTraces = false) {N n p : Nat} {ord : List Nat} {L : Nat → Nat → Nat} {Γ : Nat → Nat → Nat → Int32} {o : Nat} {h : am_H} (w : WI N n p ord L Γ o h) {A B : Nat → Nat} (hs : SC Γ n p A B) (hinj : ∀ i k, i < ord.length → k < ord.length → od ord i = od ord k → i = k) (hcap : ∀ i, i < ord.length → 0 ≤ (Γ 2 (od ord i) 7).toInt ∧ (Γ 2 (od ord i) 7).toInt ≤ 9999) : am_Con l yX4_findFlows (.code yX4_findFlows cX4_findFlows 3 none) 5 0 0 [.ref (L 5 0)] h (fun v h' => ∃ (x : Nat → Int) (G : Nat → Nat → Nat → Int32), v = none ∧ WI N n p ord L G o h' ∧ frX Γ G ord ord.length ∧ (∀ i, i < ord.length → (G 2 (od ord i) 8).toInt = x i) ∧ SEQ (CM p A B (KC Γ)) (Γ 3 0 1).toInt (od ord) (fun i => (Γ 2 (od ord i) 7).toInt) x ord.length) (fun _ _ => False) := by
  refine am_body hlt (by decide +kernel) (Nat.le_of_ble_eq_true rfl) (fun k hl hR h0 hno => ?_)
  subst hl
  obtain ⟨Qf, hQ⟩ : ∃ Qf, Qf = am_Q k 0 0 (fun v h' => ∃ (x : Nat → Int) (G : Nat → Nat → Nat → Int32), v = none ∧ WI N n p ord L G o h' ∧ frX Γ G ord ord.length ∧ (∀ i, i < ord.length → (G 2 (od ord i) 8).toInt = x i) ∧ SEQ (CM p A B (KC Γ)) (Γ 3 0 1).toInt (od ord) (fun i => (Γ 2 (od ord i) 7).toInt) x ord.length) (fun _ _ => False) := ⟨_, rfl⟩
  rw [← hQ]
  have hm0 : wdm n p o 3 0 = true := rfl
  have hx0 : wdm n p o 5 0 = true := rfl
  have hn8 : n ≤ 8 := w.1.1
  have hp24 : p ≤ 24 := w.1.2.1
  have ho8 : ord.length ≤ 8 := w.1.2.2.2.2
  obtain ⟨s1, s2, s3, s4⟩ := id hs
  refine g_aload_n dX4_findFlows_0 rfl ?_
  refine w_getR w dX4_findFlows_1 fl_X4_19 rfl rfl (by first | rfl | assumption) rfl ?_
  refine g_callV [] dX4_findFlows_4 mc_X4_208 mi_X2_empty se_X2_empty (c_X2_empty hlt w s1) (w.k (by first | rfl | assumption)) rfl rfl (Nat.le_of_ble_eq_true rfl) (am_rm hR (by decide)) (fun _ _ z => z) (fun v hx hq hE => ?_)
  obtain ⟨G0, rfl, w1, hfe, hge, hrm⟩ := hq
  have hRJ0 := RJ.init s1 hrm
  refine g_iconst (v := 0) dX4_findFlows_7 (by decide) ?_
  refine g_istore_n dX4_findFlows_8 (by decide) rfl ?_
  have lp_9 : ∀ (f : Nat) (j : Nat) (xs : Nat → Int) (N1 : Nat → Nat → Int) (G : Nat → Nat → Nat → Int32) (h' : am_H), j ≤ ord.length → ord.length - j < f → WI N n p ord L G o h' → frX Γ G ord j → (G 3 0 2).toInt = (Γ 3 0 1).toInt - zs xs j → RJ (CM p A B (KC Γ)) N1 (gS (od ord) xs j) G → (∀ i, i < j → (G 2 (od ord i) 8).toInt = xs i) → SEQ (CM p A B (KC Γ)) (Γ 3 0 1).toInt (od ord) (fun i => (Γ 2 (od ord i) 7).toInt) xs j → am_G k RX4 yX4_findFlows.name cX4_findFlows 3 none 0 0 Qf 9 [(1, .int (nI j)), (0, .ref (L 5 0))] [] h' := by
    intro f
    induction f with
    | zero => intro j xs N1 G h' hj hf w' hfr hgi hRJ hgt hsq; omega
    | succ f ih =>
      intro j xs N1 G h' hj hf w' hfr hgi hRJ hgt hsq
      have hsp := SEQ.pos s3 j hsq
      refine g_iload_n dX4_findFlows_9 rfl ?_
      refine g_aload_n dX4_findFlows_10 rfl ?_
      refine w_getR w' dX4_findFlows_11 fl_X4_23 rfl rfl (by first | rfl | assumption) rfl ?_
      refine g_callV [] dX4_findFlows_14 mc_X4_57 mi_Jx4a65c_size_8abf5 se_Jx4a65c_size_8abf5 (c_size1 hlt w') (w'.k (by first | rfl | assumption)) rfl rfl (Nat.le_of_ble_eq_true rfl) (am_rm hR (by decide)) (fun _ _ z => z) (fun v hx hq hE => ?_)
      obtain ⟨rfl, rfl⟩ := hq
      refine gN_ge 57 dX4_findFlows_17 (by decide) (by omega) (by omega) (fun c_17 => ?_) (fun c_17 => ?_)
      · skip
        rw [hQ]
        refine g_vret dX4_findFlows_57 rfl (by decide) (by decide) ?_
        have ej : j = ord.length := by omega
        rw [ej] at hfr hgt hsq
        exact ⟨xs, G, rfl, w', hfr, hgt, hsq⟩
      · skip
        have hodn : od ord j < n := od_lt w.1.2.2.2.1 c_17
        have hdj : wdm n p o 2 (od ord j) = true := decide_eq_true hodn
        have hdj1 : wdm n p o 2 (ord.getD j 0) = true := hdj
        refine g_aload_n dX4_findFlows_20 rfl ?_
        refine w_getR w' dX4_findFlows_21 fl_X4_23 rfl rfl (by first | rfl | assumption) rfl ?_
        refine g_iload_n dX4_findFlows_24 rfl ?_
        refine g_callV [_] dX4_findFlows_25 mc_X4_103 mi_Jx4a65c_get_915e3 se_Jx4a65c_get_915e3 (c_get1 hlt w' (by first | assumption | omega)) (w'.k (by first | rfl | assumption)) rfl rfl (Nat.le_of_ble_eq_true rfl) (am_rm hR (by decide)) (fun _ _ z => z) (fun v hx hq hE => ?_)
        obtain ⟨rfl, rfl⟩ := hq
        refine g_castS (q := (RX1, TX1, 14)) dX4_findFlows_28 kl_X4_66 (w'.k (by first | rfl | assumption)) rfl ?_
        rw [show ord.getD j 0 = od ord j from rfl]
        refine g_astore_n dX4_findFlows_31 (by decide) rfl ?_
        refine g_aload_n dX4_findFlows_32 rfl ?_
        refine g_aload_n dX4_findFlows_33 rfl ?_
        refine w_getR w' dX4_findFlows_34 fl_X4_19 rfl rfl (by first | rfl | assumption) rfl ?_
        refine g_aload_n dX4_findFlows_37 rfl ?_
        refine w_getI w' dX4_findFlows_38 fl_X4_211 rfl rfl (by first | rfl | assumption) ?_
        rw [(hfr 2 (od ord j) 0 (by decide) (by decide) (by omega) (by omega)).trans (s2 _ hodn)]
        refine g_aload_n dX4_findFlows_41 rfl ?_
        refine w_getI w' dX4_findFlows_42 fl_X4_237 rfl rfl (by first | rfl | assumption) ?_
        refine g_callV [_, _] dX4_findFlows_45 mc_X4_214 mi_X2_pour se_X2_pour (c_X2_pour hlt w' hRJ (cJ.C hp24 s1) (t := od ord j + 1) (by omega) (by omega) (u := G 2 (od ord j) 7) (by rw [hfr 2 _ 7 (by decide) (by decide) (by omega) (by omega)]; exact (hcap j c_17).1) (by rw [hfr 2 _ 7 (by decide) (by decide) (by omega) (by omega)]; exact (hcap j c_17).2) (by omega) (by omega)) (w'.k (by first | rfl | assumption)) rfl rfl (Nat.le_of_ble_eq_true rfl) (am_rm hR (by decide)) (fun _ _ z => z) (fun v hx hq hE => ?_)
        obtain ⟨xa, G1, N2, rfl, w22, hfp, hgi1, hRJ1, hamt⟩ := hq
        refine w_putI w22 dX4_findFlows_48 fl_X4_160 rfl rfl (by decide) (fun q hq => by cases hq; rfl) (by first | rfl | assumption) rfl rfl (fun h23 w23 => ?_)
        refine g_iinc dX4_findFlows_51 rfl (nI_i1 _) (by decide) rfl ?_
        refine g_goto 9 dX4_findFlows_54 (by decide) ?_
        have e7 : G 2 (od ord j) 7 = Γ 2 (od ord j) 7 := hfr 2 _ 7 (by decide) (by decide) (by omega) (by omega)
        rw [e7, hgi] at hamt
        refine g_ls [(1, .int (nI (j + 1))), (0, .ref (L 5 0))] ⟨rfl, rfl, trivial⟩ ?_
        refine ih (j + 1) (fun i => if i = j then xa.toInt else xs i) N2 _ _ (by omega) (by omega) w23 (fun c i y z1 z2 z3 z4 => ?_) ?_ ?_ (fun i hi => ?_) (SEQ.snoc hsq hamt)
        · rw [u3_n (fun z => z4 z.1 z.2.2 j (by omega) z.2.1), hfp c i y z1 z2 z3]
          exact hfr c i y z1 z2 z3 (fun y1 y2 q hq => z4 y1 y2 q (by omega))
        · rw [SEQ.zs_snoc, u3_n (by omega), hgi1, hgi]
          omega
        · rw [SEQ.gS_snoc]
          exact hRJ1.congr (fun a b => u3_n (by omega))
        · show _ = (if i = j then xa.toInt else xs i)
          by_cases c : i = j
          · rw [if_pos c, c, u3_s]
          · rw [if_neg c, u3_n (fun z => c (hinj i j (by omega) (by omega) z.2.1)), hfp 2 _ 8 (by decide) (by decide) (by omega)]
            exact hgt i (by omega)
  refine g_ls [(1, .int (nI 0)), (0, .ref (L 5 0))] ⟨rfl, rfl, trivial⟩ ?_
  exact lp_9 (ord.length + 1) 0 (fun _ => 0) _ _ _ (by omega) (by omega) w1 (fun c i j z1 z2 z3 _ => hfe c i j z1 z3) (by rw [hge]; exact (Int.sub_zero _).symm) hRJ0 (fun i hi => absurd hi (Nat.not_lt_zero _)) (fun i hi => absurd hi (Nat.not_lt_zero _))
set_option maxRecDepth 100000 in
set_option maxHeartbeats 4000000 in
theorem c_X4_together {l : Launch} (hlt : l.stackTraces = false) {N n p : Nat} {ord : List Nat} {L : Nat → Nat → Nat} {Γ : Nat → Nat → Nat → Int32} {o : Nat} {h : am_H} (w : WI N n p ord L Γ o h) {A B : Nat → Nat} (hs : SC Γ n p A B) (hcap : ∀ i, i < ord.length → 0 ≤ (Γ 2 (od ord i) 7).toInt ∧ (Γ 2 (od ord i) 7).toInt ≤ 9999) {t : Nat} (ht : t ≤ ord.length) : am_Con l yX4_together (.code yX4_together cX4_together 5 (some .int)) 5 0 0 [.ref (L 5 0), .int (nI t)] h (fun v h' => ∃ (x : Nat → Int) (y : Int32) (G : Nat → Nat → Nat → Int32), v = some (.int y) ∧ y.toInt = zs x t ∧ WI N n p ord L G o h' ∧ frP Γ G ∧ SEQ (CM p A B (KC Γ)) (Γ 3 0 1).toInt (od ord) (fun i => (Γ 2 (od ord i) 7).toInt) x t) (fun _ _ => False) := by
  refine am_body hlt (by decide +kernel) (Nat.le_of_ble_eq_true rfl) (fun k hl hR h0 hno => ?_)
  subst hl
  obtain ⟨Qf, hQ⟩ : ∃ Qf, Qf = am_Q k 0 0 (fun v h' => ∃ (x : Nat → Int) (y : Int32) (G : Nat → Nat → Nat → Int32), v = some (.int y) ∧ y.toInt = zs x t ∧ WI N n p ord L G o h' ∧ frP Γ G ∧ SEQ (CM p A B (KC Γ)) (Γ 3 0 1).toInt (od ord) (fun i => (Γ 2 (od ord i) 7).toInt) x t) (fun _ _ => False) := ⟨_, rfl⟩
  rw [← hQ]
  have hm0 : wdm n p o 3 0 = true := rfl
  have hx0 : wdm n p o 5 0 = true := rfl
  have hn8 : n ≤ 8 := w.1.1
  have hp24 : p ≤ 24 := w.1.2.1
  have ho8 : ord.length ≤ 8 := w.1.2.2.2.2
  obtain ⟨s1, s2, s3, s4⟩ := id hs
  refine g_aload_n dX4_together_0 rfl ?_
  refine w_getR w dX4_together_1 fl_X4_19 rfl rfl (by first | rfl | assumption) rfl ?_
  refine g_callV [] dX4_together_4 mc_X4_208 mi_X2_empty se_X2_empty (c_X2_empty hlt w s1) (w.k (by first | rfl | assumption)) rfl rfl (Nat.le_of_ble_eq_true rfl) (am_rm hR (by decide)) (fun _ _ z => z) (fun v hx hq hE => ?_)
  obtain ⟨G0, rfl, w1, hfe, hge, hrm⟩ := hq
  have hRJ0 := RJ.init s1 hrm
  refine g_iconst (v := 0) dX4_together_7 (by decide) ?_
  refine g_istore_n dX4_together_8 (by decide) rfl ?_
  refine g_iconst (v := 0) dX4_together_9 (by decide) ?_
  refine g_istore_n dX4_together_10 (by decide) rfl ?_
  have lp_11 : ∀ (f : Nat) (j : Nat) (y : Int32) (xs : Nat → Int) (N1 : Nat → Nat → Int) (G : Nat → Nat → Nat → Int32) (h' : am_H), j ≤ t → t - j < f → WI N n p ord L G o h' → frP Γ G → (G 3 0 2).toInt = (Γ 3 0 1).toInt - zs xs j → RJ (CM p A B (KC Γ)) N1 (gS (od ord) xs j) G → y.toInt = zs xs j → SEQ (CM p A B (KC Γ)) (Γ 3 0 1).toInt (od ord) (fun i => (Γ 2 (od ord i) 7).toInt) xs j → am_G k RX4 yX4_together.name cX4_together 5 (some .int) 0 0 Qf 11 [(3, .int (nI j)), (2, .int y), (1, .int (nI t)), (0, .ref (L 5 0))] [] h' := by
    intro f
    induction f with
    | zero => intro j y xs N1 G h' hj hf w' hfr hgi hRJ hyx hsq; omega
    | succ f ih =>
      intro j y xs N1 G h' hj hf w' hfr hgi hRJ hyx hsq
      have hsp := SEQ.pos s3 j hsq
      refine g_iload_n dX4_together_11 rfl ?_
      refine g_iload_n dX4_together_12 rfl ?_
      refine gN_ge 66 dX4_together_13 (by decide) (by omega) (by omega) (fun c_13 => ?_) (fun c_13 => ?_)
      · skip
        refine g_iload_n dX4_together_66 rfl ?_
        rw [hQ]
        refine g_iret dX4_together_67 rfl rfl (by decide) (by decide) ?_
        have ej : j = t := by omega
        rw [ej] at hsq hyx
        exact ⟨xs, y, G, rfl, hyx, w', hfr, hsq⟩
      · skip
        refine g_iload_n dX4_together_16 rfl ?_
        refine g_aload_n dX4_together_17 rfl ?_
        refine w_getR w' dX4_together_18 fl_X4_23 rfl rfl (by first | rfl | assumption) rfl ?_
        refine g_callV [] dX4_together_21 mc_X4_57 mi_Jx4a65c_size_8abf5 se_Jx4a65c_size_8abf5 (c_size1 hlt w') (w'.k (by first | rfl | assumption)) rfl rfl (Nat.le_of_ble_eq_true rfl) (am_rm hR (by decide)) (fun _ _ z => z) (fun v hx hq hE => ?_)
        obtain ⟨rfl, rfl⟩ := hq
        refine gN_ge 66 dX4_together_24 (by decide) (by omega) (by omega) (fun z => absurd z (by omega)) (fun c_24 => ?_)
        have hodn : od ord j < n := od_lt w.1.2.2.2.1 c_24
        have hdj : wdm n p o 2 (od ord j) = true := decide_eq_true hodn
        have hdj1 : wdm n p o 2 (ord.getD j 0) = true := hdj
        refine g_aload_n dX4_together_27 rfl ?_
        refine w_getR w' dX4_together_28 fl_X4_23 rfl rfl (by first | rfl | assumption) rfl ?_
        refine g_iload_n dX4_together_31 rfl ?_
        refine g_callV [_] dX4_together_32 mc_X4_103 mi_Jx4a65c_get_915e3 se_Jx4a65c_get_915e3 (c_get1 hlt w' (by first | assumption | omega)) (w'.k (by first | rfl | assumption)) rfl rfl (Nat.le_of_ble_eq_true rfl) (am_rm hR (by decide)) (fun _ _ z => z) (fun v hx hq hE => ?_)
        obtain ⟨rfl, rfl⟩ := hq
        refine g_castS (q := (RX1, TX1, 14)) dX4_together_35 kl_X4_66 (w'.k (by first | rfl | assumption)) rfl ?_
        rw [show ord.getD j 0 = od ord j from rfl]
        refine g_astore dX4_together_38 (by decide) rfl ?_
        refine g_iload_n dX4_together_40 rfl ?_
        refine g_aload_n dX4_together_41 rfl ?_
        refine w_getR w' dX4_together_42 fl_X4_19 rfl rfl (by first | rfl | assumption) rfl ?_
        refine g_aload dX4_together_45 rfl ?_
        refine w_getI w' dX4_together_47 fl_X4_211 rfl rfl (by first | rfl | assumption) ?_
        rw [(hfr 2 (od ord j) 0 (by decide) (by decide) (by omega)).trans (s2 _ hodn)]
        refine g_aload dX4_together_50 rfl ?_
        refine w_getI w' dX4_together_52 fl_X4_237 rfl rfl (by first | rfl | assumption) ?_
        refine g_callV [_, _] dX4_together_55 mc_X4_214 mi_X2_pour se_X2_pour (c_X2_pour hlt w' hRJ (cJ.C hp24 s1) (t := od ord j + 1) (by omega) (by omega) (u := G 2 (od ord j) 7) (by rw [hfr 2 _ 7 (by decide) (by decide) (by omega)]; exact (hcap j c_24).1) (by rw [hfr 2 _ 7 (by decide) (by decide) (by omega)]; exact (hcap j c_24).2) (by omega) (by omega)) (w'.k (by first | rfl | assumption)) rfl rfl (Nat.le_of_ble_eq_true rfl) (am_rm hR (by decide)) (fun _ _ z => z) (fun v hx hq hE => ?_)
        obtain ⟨xa, G1, N2, rfl, w22, hfp, hgi1, hRJ1, hamt⟩ := hq
        refine g_iadd dX4_together_58 ?_
        refine g_istore_n dX4_together_59 (by decide) rfl ?_
        refine g_iinc dX4_together_60 rfl (nI_i1 _) (by decide) rfl ?_
        refine g_goto 11 dX4_together_63 (by decide) ?_
        have e7 : G 2 (od ord j) 7 = Γ 2 (od ord j) 7 := hfr 2 _ 7 (by decide) (by decide) (by omega)
        rw [e7, hgi] at hamt
        have hxa := hamt.1
        have hxb := hamt.2.1
        refine g_ls [(3, .int (nI (j + 1))), (2, .int (y + xa)), (1, .int (nI t)), (0, .ref (L 5 0))] ⟨rfl, rfl, rfl, rfl, trivial⟩ ?_
        refine ih (j + 1) (y + xa) (fun i => if i = j then xa.toInt else xs i) N2 _ _ (by omega) (by omega) w22 (fun c i y z1 z2 z3 => (hfp c i y z1 z2 z3).trans (hfr c i y z1 z2 z3)) ?_ ?_ ?_ (SEQ.snoc hsq hamt)
        · rw [SEQ.zs_snoc, hgi1, hgi]
          omega
        · rw [SEQ.gS_snoc]
          exact hRJ1
        · rw [SEQ.zs_snoc, tI_add (by omega) (by omega), hyx]
  refine g_ls [(3, .int (nI 0)), (2, .int 0), (1, .int (nI t)), (0, .ref (L 5 0))] ⟨rfl, rfl, rfl, rfl, trivial⟩ ?_
  exact lp_11 (t + 1) 0 0 (fun _ => 0) _ _ _ (by omega) (by omega) w1 (fun c i j z1 z2 z3 => hfe c i j z1 z3) (by rw [hge]; exact (Int.sub_zero _).symm) hRJ0 tI_0 (fun i hi => absurd hi (Nat.not_lt_zero _))
set_option maxRecDepth 100000 in
set_option maxHeartbeats 4000000 in
theorem c_X4_most_1 {l : Launch} (hlt : l.stackTraces = false) {N n p : Nat} {ord : List Nat} {L : Nat → Nat → Nat} {Γ : Nat → Nat → Nat → Int32} {o : Nat} {h : am_H} (w : WI N n p ord L Γ o h) {a : Int32} (ha : a < 0 ∨ (1 : Int32) <<< (nI n &&& 31) ≤ a) : am_Con l yX4_most (.code yX4_most cX4_most 4 (some .int)) 20 1 6 [.ref (L 5 0), .int a] h (fun v h' => False) (fun E h' => E = "java/lang/IllegalArgumentException" ∧ h' = h) := by
  refine am_body hlt (by decide +kernel) (Nat.le_of_ble_eq_true rfl) (fun k hl hR h0 hno => ?_)
  subst hl
  obtain ⟨Qf, hQ⟩ : ∃ Qf, Qf = am_Q k 1 6 (fun v h' => False) (fun E h' => E = "java/lang/IllegalArgumentException" ∧ h' = h) := ⟨_, rfl⟩
  rw [← hQ]
  have hm0 : wdm n p o 3 0 = true := rfl
  have hx0 : wdm n p o 5 0 = true := rfl
  have hn8 : n ≤ 8 := w.1.1
  have hp24 : p ≤ 24 := w.1.2.1
  have ho8 : ord.length ≤ 8 := w.1.2.2.2.2
  refine g_iload_n dX4_most_0 rfl ?_
  refine g_if_lt 17 dX4_most_1 (by decide) (fun c_1 => ?_) (fun c_1 => ?_)
  · skip
    rw [hQ]
    refine g_throw (text := "set is below 0, or has a district that there is not") dX4_most_17 dX4_most_20 dX4_most_21 dX4_most_23 dX4_most_26 tw_50 (by simp [am_strs]) hno (by rw [hR]; decide) (by rw [hR]; exact Nat.le_of_ble_eq_true rfl) (by rw [hR]; decide) (by rw [hR]; decide) (by decide) (by decide) ?_
    exact ⟨rfl, rfl⟩
  · skip
    refine g_iload_n dX4_most_4 rfl ?_
    refine g_iconst (v := 1) dX4_most_5 (by decide) ?_
    refine g_aload_n dX4_most_6 rfl ?_
    refine w_getR w dX4_most_7 fl_X4_12 rfl rfl (by first | rfl | assumption) rfl ?_
    refine g_callV [] dX4_most_10 mc_X4_57 mi_Jx4a65c_size_8abf5 se_Jx4a65c_size_8abf5 (c_size0 hlt w) (w.k (by first | rfl | assumption)) rfl rfl (Nat.le_of_ble_eq_true rfl) (am_rm hR (by decide)) (fun _ _ z => z) (fun v hx hq hE => ?_)
    obtain ⟨rfl, rfl⟩ := hq
    refine g_ishl dX4_most_13 ?_
    refine g_icmp_lt 27 dX4_most_14 (by decide) (fun c_14 => ?_) (fun c_14 => ?_)
    · skip
      exact absurd ha (by intro z; rcases z with z | z; exact c_1 z; exact absurd c_14 (Int32.not_lt.mpr z))
    · skip
      rw [hQ]
      refine g_throw (text := "set is below 0, or has a district that there is not") dX4_most_17 dX4_most_20 dX4_most_21 dX4_most_23 dX4_most_26 tw_50 (by simp [am_strs]) hno (by rw [hR]; decide) (by rw [hR]; exact Nat.le_of_ble_eq_true rfl) (by rw [hR]; decide) (by rw [hR]; decide) (by decide) (by decide) ?_
      exact ⟨rfl, rfl⟩
set_option maxRecDepth 100000 in
set_option maxHeartbeats 4000000 in
theorem c_X4_most_0 {l : Launch} (hlt : l.stackTraces = false) {N n p : Nat} {ord : List Nat} {L : Nat → Nat → Nat} {Γ : Nat → Nat → Nat → Int32} {o : Nat} {h : am_H} (w : WI N n p ord L Γ o h) {A B : Nat → Nat} (hs : SC Γ n p A B) {a : Int32} (ha1 : ¬ a < 0) (ha2 : a < (1 : Int32) <<< (nI n &&& 31)) : am_Con l yX4_most (.code yX4_most cX4_most 4 (some .int)) 20 0 0 [.ref (L 5 0), .int a] h (fun v h' => ∃ (x : Nat → Int) (y : Int32) (G : Nat → Nat → Nat → Int32), v = some (.int y) ∧ y.toInt = zs x n ∧ WI N n p ord L G o h' ∧ frP Γ G ∧ SEQ (CM p A B (KC Γ)) (Γ 3 0 1).toInt (fun i => i) (sp_bit a) x n) (fun _ _ => False) := by
  refine am_body hlt (by decide +kernel) (Nat.le_of_ble_eq_true rfl) (fun k hl hR h0 hno => ?_)
  subst hl
  obtain ⟨Qf, hQ⟩ : ∃ Qf, Qf = am_Q k 0 0 (fun v h' => ∃ (x : Nat → Int) (y : Int32) (G : Nat → Nat → Nat → Int32), v = some (.int y) ∧ y.toInt = zs x n ∧ WI N n p ord L G o h' ∧ frP Γ G ∧ SEQ (CM p A B (KC Γ)) (Γ 3 0 1).toInt (fun i => i) (sp_bit a) x n) (fun _ _ => False) := ⟨_, rfl⟩
  rw [← hQ]
  have hm0 : wdm n p o 3 0 = true := rfl
  have hx0 : wdm n p o 5 0 = true := rfl
  have hn8 : n ≤ 8 := w.1.1
  have hp24 : p ≤ 24 := w.1.2.1
  have ho8 : ord.length ≤ 8 := w.1.2.2.2.2
  obtain ⟨s1, s2, s3, s4⟩ := id hs
  refine g_iload_n dX4_most_0 rfl ?_
  refine g_if_lt 17 dX4_most_1 (by decide) (fun z => absurd z ha1) (fun c_1 => ?_)
  refine g_iload_n dX4_most_4 rfl ?_
  refine g_iconst (v := 1) dX4_most_5 (by decide) ?_
  refine g_aload_n dX4_most_6 rfl ?_
  refine w_getR w dX4_most_7 fl_X4_12 rfl rfl (by first | rfl | assumption) rfl ?_
  refine g_callV [] dX4_most_10 mc_X4_57 mi_Jx4a65c_size_8abf5 se_Jx4a65c_size_8abf5 (c_size0 hlt w) (w.k (by first | rfl | assumption)) rfl rfl (Nat.le_of_ble_eq_true rfl) (am_rm hR (by decide)) (fun _ _ z => z) (fun v hx hq hE => ?_)
  obtain ⟨rfl, rfl⟩ := hq
  refine g_ishl dX4_most_13 ?_
  refine g_icmp_lt 27 dX4_most_14 (by decide) (fun c_14 => ?_) (fun z => absurd ha2 z)
  refine g_aload_n dX4_most_27 rfl ?_
  refine w_getR w dX4_most_28 fl_X4_19 rfl rfl (by first | rfl | assumption) rfl ?_
  refine g_callV [] dX4_most_31 mc_X4_208 mi_X2_empty se_X2_empty (c_X2_empty hlt w s1) (w.k (by first | rfl | assumption)) rfl rfl (Nat.le_of_ble_eq_true rfl) (am_rm hR (by decide)) (fun _ _ z => z) (fun v hx hq hE => ?_)
  obtain ⟨G0, rfl, w1, hfe, hge, hrm⟩ := hq
  have hRJ0 := RJ.init s1 hrm
  refine g_iconst (v := 0) dX4_most_34 (by decide) ?_
  refine g_istore_n dX4_most_35 (by decide) rfl ?_
  refine g_iconst (v := 0) dX4_most_36 (by decide) ?_
  refine g_istore_n dX4_most_37 (by decide) rfl ?_
  have lp_38 : ∀ (f : Nat) (j : Nat) (y : Int32) (xs : Nat → Int) (N1 : Nat → Nat → Int) (G : Nat → Nat → Nat → Int32) (h' : am_H), j ≤ n → n - j < f → WI N n p ord L G o h' → frP Γ G → (G 3 0 2).toInt = (Γ 3 0 1).toInt - zs xs j → RJ (CM p A B (KC Γ)) N1 (gS (fun i => i) xs j) G → y.toInt = zs xs j → SEQ (CM p A B (KC Γ)) (Γ 3 0 1).toInt (fun i => i) (sp_bit a) xs j → am_G k RX4 yX4_most.name cX4_most 4 (some .int) 0 0 Qf 38 [(3, .int (nI j)), (2, .int y), (1, .int a), (0, .ref (L 5 0))] [] h' := by
    intro f
    induction f with
    | zero => intro j y xs N1 G h' hj hf w' hfr hgi hRJ hyx hsq; omega
    | succ f ih =>
      intro j y xs N1 G h' hj hf w' hfr hgi hRJ hyx hsq
      have hsp := SEQ.pos s3 j hsq
      refine g_iload_n dX4_most_38 rfl ?_
      refine g_aload_n dX4_most_39 rfl ?_
      refine w_getR w' dX4_most_40 fl_X4_12 rfl rfl (by first | rfl | assumption) rfl ?_
      refine g_callV [] dX4_most_43 mc_X4_57 mi_Jx4a65c_size_8abf5 se_Jx4a65c_size_8abf5 (c_size0 hlt w') (w'.k (by first | rfl | assumption)) rfl rfl (Nat.le_of_ble_eq_true rfl) (am_rm hR (by decide)) (fun _ _ z => z) (fun v hx hq hE => ?_)
      obtain ⟨rfl, rfl⟩ := hq
      refine gN_ge 91 dX4_most_46 (by decide) (by omega) (by omega) (fun c_46 => ?_) (fun c_46 => ?_)
      · skip
        refine g_iload_n dX4_most_91 rfl ?_
        rw [hQ]
        refine g_iret dX4_most_92 rfl rfl (by decide) (by decide) ?_
        have ej : j = n := by omega
        rw [ej] at hsq hyx
        exact ⟨xs, y, G, rfl, hyx, w', hfr, hsq⟩
      · skip
        have hdj : wdm n p o 2 j = true := decide_eq_true c_46
        refine g_iload_n dX4_most_49 rfl ?_
        refine g_iload_n dX4_most_50 rfl ?_
        refine g_ishr dX4_most_51 ?_
        refine g_iconst (v := 1) dX4_most_52 (by decide) ?_
        refine g_iand dX4_most_53 ?_
        refine g_iconst (v := 1) dX4_most_54 (by decide) ?_
        refine g_icmp_ne 85 dX4_most_55 (by decide) (fun c_55 => ?_) (fun c_55 => ?_)
        · skip
          refine g_iinc dX4_most_85 rfl (nI_i1 _) (by decide) rfl ?_
          refine g_goto 38 dX4_most_88 (by decide) ?_
          have hbit : sp_bit a j = 0 := if_neg c_55
          have hamt2 : Amt (CM p A B (KC Γ)) (gS (fun i => i) xs j) (j + 1) (min (sp_bit a j) ((Γ 3 0 1).toInt - zs xs j)) 0 := Amt.zero hRJ.feas (by omega)
          refine g_ls [(3, .int (nI (j + 1))), (2, .int y), (1, .int a), (0, .ref (L 5 0))] ⟨rfl, rfl, rfl, rfl, trivial⟩ ?_
          refine ih (j + 1) y (fun i => if i = j then 0 else xs i) N1 _ _ (by omega) (by omega) w' hfr ?_ ?_ ?_ (SEQ.snoc hsq hamt2)
          · rw [SEQ.zs_snoc, hgi]
            omega
          · rw [SEQ.gS_snoc]
            refine ⟨hRJ.1, hRJ.2.1, hRJ.2.2.1, fun v y1 y2 => ?_⟩
            rw [hRJ.2.2.2 v y1 y2]
            unfold addg
            split <;> omega
          · rw [SEQ.zs_snoc, hyx]
            omega
        · skip
          refine g_iload_n dX4_most_58 rfl ?_
          refine g_aload_n dX4_most_59 rfl ?_
          refine w_getR w' dX4_most_60 fl_X4_19 rfl rfl (by first | rfl | assumption) rfl ?_
          refine g_aload_n dX4_most_63 rfl ?_
          refine w_getR w' dX4_most_64 fl_X4_12 rfl rfl (by first | rfl | assumption) rfl ?_
          refine g_iload_n dX4_most_67 rfl ?_
          refine g_callV [_] dX4_most_68 mc_X4_103 mi_Jx4a65c_get_915e3 se_Jx4a65c_get_915e3 (c_get0 hlt w' (by first | assumption | omega)) (w'.k (by first | rfl | assumption)) rfl rfl (Nat.le_of_ble_eq_true rfl) (am_rm hR (by decide)) (fun _ _ z => z) (fun v hx hq hE => ?_)
          obtain ⟨rfl, rfl⟩ := hq
          refine g_castS (q := (RX1, TX1, 14)) dX4_most_71 kl_X4_66 (w'.k (by first | rfl | assumption)) rfl ?_
          refine w_getI w' dX4_most_74 fl_X4_211 rfl rfl (by first | rfl | assumption) ?_
          rw [(hfr 2 j 0 (by decide) (by decide) (by omega)).trans (s2 _ c_46)]
          refine g_sipush (v := 9999) dX4_most_77 (by decide) ?_
          refine g_callV [_, _] dX4_most_80 mc_X4_214 mi_X2_pour se_X2_pour (c_X2_pour hlt w' hRJ (cJ.C hp24 s1) (t := j + 1) (by omega) (by omega) (u := 9999) (by decide) (by decide) (by omega) (by omega)) (w'.k (by first | rfl | assumption)) rfl rfl (Nat.le_of_ble_eq_true rfl) (am_rm hR (by decide)) (fun _ _ z => z) (fun v hx hq hE => ?_)
          obtain ⟨xa, G1, N2, rfl, w22, hfp, hgi1, hRJ1, hamt⟩ := hq
          refine g_iadd dX4_most_83 ?_
          refine g_istore_n dX4_most_84 (by decide) rfl ?_
          refine g_iinc dX4_most_85 rfl (nI_i1 _) (by decide) rfl ?_
          refine g_goto 38 dX4_most_88 (by decide) ?_
          have hbit : sp_bit a j = 9999 := if_pos c_55
          have h9 : (9999 : Int32).toInt = 9999 := by decide
          rw [hgi, h9, ← hbit] at hamt
          have hxa := hamt.1
          have hxb := hamt.2.1
          refine g_ls [(3, .int (nI (j + 1))), (2, .int (y + xa)), (1, .int a), (0, .ref (L 5 0))] ⟨rfl, rfl, rfl, rfl, trivial⟩ ?_
          refine ih (j + 1) (y + xa) (fun i => if i = j then xa.toInt else xs i) N2 _ _ (by omega) (by omega) w22 (fun c i y z1 z2 z3 => (hfp c i y z1 z2 z3).trans (hfr c i y z1 z2 z3)) ?_ ?_ ?_ (SEQ.snoc hsq hamt)
          · rw [SEQ.zs_snoc, hgi1, hgi]
            omega
          · rw [SEQ.gS_snoc]
            exact hRJ1
          · rw [SEQ.zs_snoc, tI_add (by omega) (by omega), hyx]
  refine g_ls [(3, .int (nI 0)), (2, .int 0), (1, .int a), (0, .ref (L 5 0))] ⟨rfl, rfl, rfl, rfl, trivial⟩ ?_
  exact lp_38 (n + 1) 0 0 (fun _ => 0) _ _ _ (by omega) (by omega) w1 (fun c i j z1 z2 z3 => hfe c i j z1 z3) (by rw [hge]; exact (Int.sub_zero _).symm) hRJ0 tI_0 (fun i hi => absurd hi (Nat.not_lt_zero _))
