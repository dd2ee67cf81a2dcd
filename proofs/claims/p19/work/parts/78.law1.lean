/-! ===== the law's own methods ===== -/
theorem nz_I {n : Nat} (h : 0 < n) (h2 : n < 2 ^ 31) : ¬ nI n = 0 := fun z => by
  have := (nI_eq h2 (by decide)).mp (z.trans nI_0.symm)
  omega
theorem draw_I (V : Int32) {m : Nat} (h0 : 0 < m) (hm : m < 2 ^ 31) : ∃ y, y < m ∧ (V &&& 2147483647) - (V &&& 2147483647) / nI m * nI m = nI y := by
  obtain ⟨n, -, rfl⟩ := wb_of32 V
  have e : nI n &&& (2147483647 : Int32) = nI (n % 2 ^ 31) := fa_mask n 31
  rw [e, pk_rem (Nat.mod_lt _ (by decide)) h0 hm]
  exact ⟨_, Nat.mod_lt _ h0, rfl⟩
/-- what the law keeps of its own beside the class: c, t, m, b -/
def LT (n p : Nat) (Γ : Nat → Nat → Nat → Int32) : Prop :=
  Γ 13 0 0 = nI n ∧ Γ 13 0 1 = nI p ∧ Γ 13 0 2 = Γ 5 0 3 ∧ Γ 13 0 3 = Γ 5 0 5 ∧ Γ 13 0 4 = Γ 5 0 8 ∧
  (∀ d, d < n → Γ 13 1 (2 * d) = Γ 2 d 1 ∧ Γ 13 1 (2 * d + 1) = Γ 2 d 2 ∧ Γ 13 2 (2 * d) = Γ 2 d 9 ∧ Γ 13 2 (2 * d + 1) = Γ 2 d 10) ∧ (∀ j, j < p → Γ 13 3 j = Γ 4 j 3) ∧
  (∀ d, n ≤ d → Γ 13 2 (2 * d) = 0 ∧ Γ 13 2 (2 * d + 1) = 0) ∧ (∀ j, p ≤ j → Γ 13 3 j = 0)
theorem LT.cg {n p : Nat} {Γ G : Nat → Nat → Nat → Int32} (q : LT n p Γ) (e : ∀ c i j, (c = 13 ∧ i < 4) ∨ (c = 2 ∧ (j = 1 ∨ j = 2 ∨ j = 9 ∨ j = 10)) ∨ (c = 4 ∧ j = 3) ∨ (c = 5 ∧ (j = 3 ∨ j = 5 ∨ j = 8)) → G c i j = Γ c i j) : LT n p G := by
  obtain ⟨q0, q1, q2, q3, q4, q5, q6, q7, q8⟩ := q
  have e13 : ∀ i j, i < 4 → G 13 i j = Γ 13 i j := fun i j hi => e 13 i j (by omega)
  refine ⟨(e13 _ _ (by decide)).trans q0, (e13 _ _ (by decide)).trans q1, ?_, ?_, ?_, fun d hd => ?_, fun j hj => ?_, fun d hd => ?_, fun j hj => (e13 _ _ (by decide)).trans (q8 j hj)⟩
  · rw [e13 _ _ (by decide), e 5 0 3 (by omega)]; exact q2
  · rw [e13 _ _ (by decide), e 5 0 5 (by omega)]; exact q3
  · rw [e13 _ _ (by decide), e 5 0 8 (by omega)]; exact q4
  · rw [e13 _ _ (by decide), e13 _ _ (by decide), e13 _ _ (by decide), e13 _ _ (by decide), e 2 d 1 (by omega), e 2 d 2 (by omega), e 2 d 9 (by omega), e 2 d 10 (by omega)]; exact q5 d hd
  · rw [e13 _ _ (by decide), e 4 j 3 (by omega)]; exact q6 j hj
  · rw [e13 _ _ (by decide), e13 _ _ (by decide)]; exact q7 d hd
/-- the world behind a step of the law -/
def SS (T N : Nat) (L : Nat → Nat → Nat) (Γ : Nat → Nat → Nat → Int32) (h' : am_H) : Prop := ∃ (n p : Nat) (A B : Nat → Nat) (ord : List Nat) (L' : Nat → Nat → Nat) (Γ' : Nat → Nat → Nat → Int32), VW N n p ord L' Γ' 4 h' ∧ CI T n p A B ord Γ' ∧ LT n p Γ' ∧ (3 ≤ n ∧ 3 ≤ p) ∧ LK 4 L L' ∧ ∀ j, Γ' 15 0 j = Γ 15 0 j
set_option maxRecDepth 100000 in
set_option maxHeartbeats 4000000 in
theorem c_draw {l : Launch} (hlt : l.stackTraces = false) {N n p : Nat} {ord : List Nat} {L : Nat → Nat → Nat} {Γ : Nat → Nat → Nat → Int32} {o : Nat} {h : am_H} (w : VW N n p ord L Γ o h) {j m : Nat} (hj : j < 2 ^ 20) (hm0 : 0 < m) (hm : m < 2 ^ 31) : am_Con l yL_draw (.code yL_draw cL_draw 4 (some .int)) 1 0 0 [.ref (L 15 0), .int (nI j), .int (nI m)] h (fun v h' => ∃ y, y < m ∧ v = some (.int (nI y)) ∧ h' = h) (fun _ _ => False) := by
  refine am_body hlt (by decide +kernel) (Nat.le_of_ble_eq_true rfl) (fun k hl hR h0 hno => ?_)
  subst hl
  obtain ⟨Qf, hQ⟩ : ∃ Qf, Qf = am_Q k 0 0 (fun v h' => ∃ y, y < m ∧ v = some (.int (nI y)) ∧ h' = h) (fun _ _ => False) := ⟨_, rfl⟩
  rw [← hQ]
  have hN := w.w0.2.2.1
  refine g_iload_n dL_draw_0 rfl ?_
  refine g_aload_n dL_draw_1 rfl ?_
  refine v_alenS w dL_draw_2 ?_
  refine gN_ge 12 dL_draw_3 (by decide) (by omega) (by omega) (fun c_3 => ?_) (fun c_3 => ?_)
  · skip
    refine g_ldc dL_draw_12 cn_L_7 ?_
    refine g_iload_n dL_draw_14 rfl ?_
    refine g_sipush (v := 967) dL_draw_15 (by decide) ?_
    refine g_iadd dL_draw_18 ?_
    refine g_imul dL_draw_19 ?_
    refine g_ldc dL_draw_20 cn_L_8 ?_
    refine g_iadd dL_draw_22 ?_
    refine g_istore_n dL_draw_23 (by decide) rfl ?_
    refine g_iload_n dL_draw_24 rfl ?_
    refine g_ldc dL_draw_25 cn_L_9 ?_
    refine g_iand dL_draw_27 ?_
    refine g_iload_n dL_draw_28 rfl ?_
    refine g_irem dL_draw_29 (nz_I hm0 hm) ?_
    rw [hQ]
    refine g_iret dL_draw_30 rfl rfl (by decide) (by decide) ?_
    obtain ⟨y, hy, e⟩ := draw_I _ hm0 hm
    exact ⟨y, hy, by rw [e], rfl⟩
  · skip
    refine g_aload_n dL_draw_6 rfl ?_
    refine g_iload_n dL_draw_7 rfl ?_
    refine v_sald w dL_draw_8 (by first | assumption | omega | (show _ < 8; omega) | (show _ < 24; omega) | (show _ < 5; omega) | (show _ < 16; omega) | (show _ < 9; omega)) ?_
    refine g_goto 23 dL_draw_9 (by decide) ?_
    refine g_istore_n dL_draw_23 (by decide) rfl ?_
    refine g_iload_n dL_draw_24 rfl ?_
    refine g_ldc dL_draw_25 cn_L_9 ?_
    refine g_iand dL_draw_27 ?_
    refine g_iload_n dL_draw_28 rfl ?_
    refine g_irem dL_draw_29 (nz_I hm0 hm) ?_
    rw [hQ]
    refine g_iret dL_draw_30 rfl rfl (by decide) (by decide) ?_
    obtain ⟨y, hy, e⟩ := draw_I _ hm0 hm
    exact ⟨y, hy, by rw [e], rfl⟩
set_option maxRecDepth 100000 in
set_option maxHeartbeats 4000000 in
theorem c_bids {l : Launch} (hlt : l.stackTraces = false) {N n p : Nat} {ord : List Nat} {L : Nat → Nat → Nat} {Γ : Nat → Nat → Nat → Int32} {h : am_H} (w : VW N n p ord L Γ 4 h) {T : Nat} {A B : Nat → Nat} (hc : CI T n p A B ord Γ) (la : LT n p Γ) (h3 : 3 ≤ n ∧ 3 ≤ p) (hT : T < 1000) {x y : Nat} (hx : x < 2 ^ 31) (hy : y < 2 ^ 31) : am_Con l yL_bids (.code yL_bids cL_bids 8 (some .boolean)) 30 1 6 [.ref (L 5 0), .int (nI x), .int (nI y), .ref (L 13 0)] h (fun v h' => v = some (.int 1) ∧ SS (T + 1) N L Γ h') (fun _ _ => False) := by
  refine am_body hlt (by decide +kernel) (Nat.le_of_ble_eq_true rfl) (fun k hl hR h0 hno => ?_)
  subst hl
  obtain ⟨Qf, hQ⟩ : ∃ Qf, Qf = am_Q k 1 6 (fun v h' => v = some (.int 1) ∧ SS (T + 1) N L Γ h') (fun _ _ => False) := ⟨_, rfl⟩
  rw [← hQ]
  obtain ⟨la0, la1, la2, la3, la4, lad, lap, lan, lapn⟩ := id la
  have hn8 := w.w0.1
  have hp24 := w.w0.2.1
  have rest : ∀ (kd pr : Nat), kd < n → pr ≤ 99 → am_G k RL yL_bids.name cL_bids 8 (some .boolean) 0 0 Qf 27 [(4, .int (nI kd)), (0, .ref (L 5 0)), (1, .int (nI x)), (2, .int (nI y)), (3, .ref (L 13 0))] [.int (nI pr)] h := by
    intro kd pr hk hpr
    refine g_istore dL_bids_27 (by decide) rfl ?_
    refine g_aload_n dL_bids_29 rfl ?_
    refine g_iload dL_bids_30 rfl ?_
    refine g_iconst (v := nI 1) dL_bids_32 (by decide) ?_
    refine g_callV [_, _] dL_bids_33 mc_L_48 mi_X4_ofDistrict se_X4_ofDistrict (q_of_1 hlt w hk) (w.k (by first | rfl | assumption)) rfl rfl (Nat.le_of_ble_eq_true rfl) (am_rm hR (by decide)) (fun _ _ z => z) (fun v hx hq hE => ?_)
    obtain ⟨rfl, rfl⟩ := hq
    refine g_istore dL_bids_36 (by decide) rfl ?_
    refine g_aload_n dL_bids_38 rfl ?_
    refine g_iconst (v := 3) dL_bids_39 (by decide) ?_
    refine g_iload dL_bids_40 rfl ?_
    refine g_iload dL_bids_42 rfl ?_
    refine g_iload_n dL_bids_44 rfl ?_
    refine g_sipush (v := nI 160) dL_bids_45 (by decide) ?_
    refine g_idiv dL_bids_48 (by decide) ?_
    rw [pk_div hy (by decide) (by decide)]
    refine g_sipush (v := nI 300) dL_bids_49 (by decide) ?_
    refine g_irem dL_bids_52 (by decide) ?_
    rw [pk_rem (by omega) (by decide) (by decide)]
    refine g_callSX [_, _, _, _, _] dL_bids_53 mcw_asks (ka_bid hlt w hc hT hk hpr (u := y / 160 % 300) (by omega)) rfl (Nat.le_of_ble_eq_true rfl) (am_rm hR (by decide)) (fun _ _ z => z) (fun v hx hq hE => ?_)
    obtain ⟨i, Γ1, rfl, w1, b1, b2, b3, b4⟩ := hq
    have epr : prc Γ1 kd = prc Γ kd := by unfold prc; rw [b2 0 kd 0 (by omega), b2 0 kd 1 (by omega)]
    refine g_istore dL_bids_56 (by decide) rfl ?_
    refine g_aload_n dL_bids_58 rfl ?_
    refine g_iconst (v := nI 3) dL_bids_59 (by decide) ?_
    refine v_ald w1 dL_bids_60 (by first | rfl | assumption) (by first | assumption | omega | (show _ < 8; omega) | (show _ < 24; omega) | (show _ < 5; omega) | (show _ < 16; omega) | (show _ < 9; omega)) ?_
    rw [b2 13 0 3 (by omega), la3]
    refine g_iconst (v := 1) dL_bids_61 (by decide) ?_
    refine g_icmp_eq 72 dL_bids_62 (by decide) (fun c_62 => ?_) (fun c_62 => ?_)
    · skip
      refine g_iload dL_bids_72 rfl ?_
      refine g_ldc dL_bids_74 cn_L_59 ?_
      refine g_icmp_ne 95 dL_bids_76 (by decide) (fun z => absurd (b3 (Or.inl c_62)) z) (fun c_76 => ?_)
      refine g_aload_n dL_bids_79 rfl ?_
      refine g_iload dL_bids_80 rfl ?_
      refine g_iconst (v := nI 1) dL_bids_82 (by decide) ?_
      refine g_callV [_, _] dL_bids_83 mc_L_48 mi_X4_ofDistrict se_X4_ofDistrict (q_of_1 hlt w1 hk) (w1.k (by first | rfl | assumption)) rfl rfl (Nat.le_of_ble_eq_true rfl) (am_rm hR (by decide)) (fun _ _ z => z) (fun v hx hq hE => ?_)
      obtain ⟨rfl, rfl⟩ := hq
      refine g_iload dL_bids_86 rfl ?_
      refine g_icmp_ne 95 dL_bids_88 (by decide) (fun z => absurd epr z) (fun c_88 => ?_)
      refine g_iconst (v := 1) dL_bids_91 (by decide) ?_
      refine g_goto 96 dL_bids_92 (by decide) ?_
      rw [hQ]
      refine g_iret dL_bids_96 rfl rfl (by decide) (by decide) ?_
      exact ⟨rfl, n, p, A, B, ord, L, Γ1, w1, b1, la.cg (fun c i j z => b2 c i j (by omega)), h3, LK.rf, fun j => b2 15 0 j (by omega)⟩
    · skip
      refine g_iload dL_bids_65 rfl ?_
      refine g_iload dL_bids_67 rfl ?_
      refine g_icmp_ge 97 dL_bids_69 (by decide) (fun c_69 => ?_) (fun c_69 => ?_)
      · skip
        refine g_iload dL_bids_97 rfl ?_
        refine g_if_le 126 dL_bids_99 (by decide) (fun z => absurd z (fun q => by have := (b4 (fun y => y.elim c_62 (fun y => absurd c_69 (Int32.not_le.mpr y)))).1; have := Int32.le_iff_toInt_le.mp q; rw [tI_0] at this; omega)) (fun c_99 => ?_)
        refine g_iload dL_bids_102 rfl ?_
        refine g_aload_n dL_bids_104 rfl ?_
        refine g_iconst (v := nI 0) dL_bids_105 (by decide) ?_
        refine v_ald w1 dL_bids_106 (by first | rfl | assumption) (by first | assumption | omega | (show _ < 8; omega) | (show _ < 24; omega) | (show _ < 5; omega) | (show _ < 16; omega) | (show _ < 9; omega)) ?_
        rw [b2 13 0 0 (by omega), la0]
        refine g_icmp_gt 126 dL_bids_107 (by decide) (fun z => absurd z (fun q => by have := (b4 (fun y => y.elim c_62 (fun y => absurd c_69 (Int32.not_le.mpr y)))).2; have := Int32.lt_iff_toInt_lt.mp q; rw [nI_toInt (by omega)] at this; omega)) (fun c_107 => ?_)
        refine g_aload_n dL_bids_110 rfl ?_
        refine g_iload dL_bids_111 rfl ?_
        refine g_iconst (v := nI 1) dL_bids_113 (by decide) ?_
        refine g_callV [_, _] dL_bids_114 mc_L_48 mi_X4_ofDistrict se_X4_ofDistrict (q_of_1 hlt w1 hk) (w1.k (by first | rfl | assumption)) rfl rfl (Nat.le_of_ble_eq_true rfl) (am_rm hR (by decide)) (fun _ _ z => z) (fun v hx hq hE => ?_)
        obtain ⟨rfl, rfl⟩ := hq
        refine g_iload dL_bids_117 rfl ?_
        refine g_icmp_ne 126 dL_bids_119 (by decide) (fun z => absurd epr z) (fun c_119 => ?_)
        refine g_iconst (v := 1) dL_bids_122 (by decide) ?_
        refine g_goto 127 dL_bids_123 (by decide) ?_
        rw [hQ]
        refine g_iret dL_bids_127 rfl rfl (by decide) (by decide) ?_
        exact ⟨rfl, n, p, A, B, ord, L, Γ1, w1, b1, la.cg (fun c i j z => b2 c i j (by omega)), h3, LK.rf, fun j => b2 15 0 j (by omega)⟩
      · skip
        refine g_iload dL_bids_72 rfl ?_
        refine g_ldc dL_bids_74 cn_L_59 ?_
        refine g_icmp_ne 95 dL_bids_76 (by decide) (fun z => absurd (b3 (Or.inr (Int32.not_le.mp c_69))) z) (fun c_76 => ?_)
        refine g_aload_n dL_bids_79 rfl ?_
        refine g_iload dL_bids_80 rfl ?_
        refine g_iconst (v := nI 1) dL_bids_82 (by decide) ?_
        refine g_callV [_, _] dL_bids_83 mc_L_48 mi_X4_ofDistrict se_X4_ofDistrict (q_of_1 hlt w1 hk) (w1.k (by first | rfl | assumption)) rfl rfl (Nat.le_of_ble_eq_true rfl) (am_rm hR (by decide)) (fun _ _ z => z) (fun v hx hq hE => ?_)
        obtain ⟨rfl, rfl⟩ := hq
        refine g_iload dL_bids_86 rfl ?_
        refine g_icmp_ne 95 dL_bids_88 (by decide) (fun z => absurd epr z) (fun c_88 => ?_)
        refine g_iconst (v := 1) dL_bids_91 (by decide) ?_
        refine g_goto 96 dL_bids_92 (by decide) ?_
        rw [hQ]
        refine g_iret dL_bids_96 rfl rfl (by decide) (by decide) ?_
        exact ⟨rfl, n, p, A, B, ord, L, Γ1, w1, b1, la.cg (fun c i j z => b2 c i j (by omega)), h3, LK.rf, fun j => b2 15 0 j (by omega)⟩
  refine g_iload_n dL_bids_0 rfl ?_
  refine g_aload_n dL_bids_1 rfl ?_
  refine g_iconst (v := nI 0) dL_bids_2 (by decide) ?_
  refine v_ald w dL_bids_3 (by first | rfl | assumption) (by first | assumption | omega | (show _ < 8; omega) | (show _ < 24; omega) | (show _ < 5; omega) | (show _ < 16; omega) | (show _ < 9; omega)) ?_
  rw [la0]
  refine g_irem dL_bids_4 (nz_I (by omega) (by omega)) ?_
  rw [pk_rem hx (by omega) (by omega)]
  obtain ⟨kd, ek⟩ : ∃ kd, kd = x % n := ⟨_, rfl⟩
  have hk : kd < n := by rw [ek]; exact Nat.mod_lt _ (by omega)
  rw [← ek]
  refine g_istore dL_bids_5 (by decide) rfl ?_
  refine g_iload_n dL_bids_7 rfl ?_
  refine g_bipush (v := nI 40) dL_bids_8 (by decide) ?_
  refine g_irem dL_bids_10 (by decide) ?_
  rw [pk_rem hy (by decide) (by decide)]
  refine g_iload_n dL_bids_11 rfl ?_
  refine g_bipush (v := nI 40) dL_bids_12 (by decide) ?_
  refine g_idiv dL_bids_14 (by decide) ?_
  rw [pk_div hy (by decide) (by decide)]
  refine g_iconst (v := nI 4) dL_bids_15 (by decide) ?_
  refine g_irem dL_bids_16 (by decide) ?_
  rw [pk_rem (by omega) (by decide) (by decide)]
  refine g_if_ne 25 dL_bids_17 (by decide) (fun c_17 => ?_) (fun c_17 => ?_)
  · skip
    refine g_iconst (v := nI 0) dL_bids_25 (by decide) ?_
    refine g_iadd dL_bids_26 ?_
    rw [nI_add]
    refine g_ls [(4, .int (nI kd)), (0, .ref (L 5 0)), (1, .int (nI x)), (2, .int (nI y)), (3, .ref (L 13 0))] ⟨rfl, rfl, rfl, rfl, rfl, trivial⟩ ?_
    exact rest kd (y % 40 + 0) hk (by omega)
  · skip
    refine g_bipush (v := nI 40) dL_bids_20 (by decide) ?_
    refine g_goto 26 dL_bids_22 (by decide) ?_
    refine g_iadd dL_bids_26 ?_
    rw [nI_add]
    refine g_ls [(4, .int (nI kd)), (0, .ref (L 5 0)), (1, .int (nI x)), (2, .int (nI y)), (3, .ref (L 13 0))] ⟨rfl, rfl, rfl, rfl, rfl, trivial⟩ ?_
    exact rest kd (y % 40 + 40) hk (by omega)
