theorem EC.base {d : Nat} {Γ G W : Nat → Nat → Nat → Int32} (q : EC d G W) (h0 : ∀ j, G 0 d j = Γ 0 d j) (h2 : ∀ j, G 2 d j = Γ 2 d j) : EC d Γ W := by
  obtain ⟨a1, a2, a3, a4, a5, a6, a7⟩ := q
  have k1 : eK G d = eK Γ d := by unfold eK; rw [h2, h2, h2]
  have k2 : eW G d = eW Γ d := by unfold eW; rw [k1, h2]
  have k3 : eT G d = eT Γ d := by unfold eT; rw [k2, h2]
  rw [k2, k3] at a2
  rw [k1, h2, h2] at a3
  rw [k3, h2] at a4
  rw [k3, h2, h2] at a5
  exact ⟨a1, a2, a3, a4, a5, fun j hj => (a6 j hj).trans (h2 j), fun j hj => (a7 j hj).trans (h0 j)⟩
theorem I_acl (a b : Int32) : a + b - a = b := by rw [Int32.add_comm, Int32.add_sub_cancel]
theorem I_wat (a b c d : Int32) : a + c - d = a + b - (b - c) - d := by grind
theorem end_facts {d : Nat} {Γ : Nat → Nat → Nat → Int32} (q : CD d Γ) : 0 ≤ (Γ 2 d 8 - eK Γ d).toInt ∧ 0 ≤ (eT Γ d).toInt ∧ (¬ Γ 2 d 8 - eK Γ d = 0 → eW Γ d = Γ 2 d 1) ∧ (¬ Γ 2 d 2 - eT Γ d = 0 → eW Γ d - eT Γ d = 0) := by
  obtain ⟨i1, i2, i3, i4, i5⟩ := end_I q
  obtain ⟨-, -, -, -, a5, a6, a7, a8, -⟩ := q
  have e1 : (Γ 2 d 8 - eK Γ d).toInt = (Γ 2 d 8).toInt - (eK Γ d).toInt := tI_sub (by omega) (by omega)
  refine ⟨by omega, by omega, fun z => ?_, fun z => ?_⟩
  · have : ¬ (Γ 2 d 8 - eK Γ d).toInt = 0 := fun y => z (Int32.toInt_inj.mp (y.trans tI_0.symm))
    exact Int32.toInt_inj.mp (by omega)
  · have : ¬ (Γ 2 d 2 - eT Γ d).toInt = 0 := fun y => z (Int32.toInt_inj.mp (y.trans tI_0.symm))
    exact Int32.toInt_inj.mp (by rw [tI_0]; omega)
set_option maxRecDepth 100000 in
set_option maxHeartbeats 4000000 in
theorem c_ends {l : Launch} (hlt : l.stackTraces = false) {N n p : Nat} {ord : List Nat} {L : Nat → Nat → Nat} {Γ : Nat → Nat → Nat → Int32} {h : am_H} (w : VW N n p ord L Γ 4 h) {T : Nat} {A B : Nat → Nat} (hc : CI T n p A B ord Γ) (la : LT n p Γ) (h3 : 3 ≤ n ∧ 3 ≤ p) (hT : T < 1000) : am_Con l yL_ends (.code yL_ends cL_ends 15 (some .boolean)) 30 6 46 [.ref (L 5 0), .ref (L 13 0), .ref (L 13 1)] h (fun v h' => v = some (.int 1) ∧ SS (T + 1) N L Γ h') (fun _ _ => False) := by
  refine am_body hlt (by decide +kernel) (Nat.le_of_ble_eq_true rfl) (fun k hl hR h0 hno => ?_)
  subst hl
  obtain ⟨Qf, hQ⟩ : ∃ Qf, Qf = am_Q k 6 46 (fun v h' => v = some (.int 1) ∧ SS (T + 1) N L Γ h') (fun _ _ => False) := ⟨_, rfl⟩
  rw [← hQ]
  obtain ⟨la0, la1, la2, la3, la4, lad, lap, lan, lapn⟩ := id la
  have hn8 := w.w0.1
  have hp24 := w.w0.2.1
  refine g_bipush (v := 8) dL_ends_0 (by decide) ?_
  refine v_newT w (by decide) dL_ends_2 (K := 8) rfl rfl (by rw [hR]; exact Nat.le_of_ble_eq_true rfl) (by rw [hR]; exact Nat.le_of_ble_eq_true rfl) (fun L1 hh1 hL1 w1 => ?_)
  rw [← hL1 5 0 (by decide), ← hL1 13 0 (by decide), ← hL1 13 1 (by decide)]
  skip
  refine g_astore_n dL_ends_4 (by decide) rfl ?_
  refine g_bipush (v := 8) dL_ends_5 (by decide) ?_
  refine v_newT w1 (by decide) dL_ends_7 (K := 8) rfl rfl (by rw [hR]; exact Nat.le_of_ble_eq_true rfl) (by rw [hR]; exact Nat.le_of_ble_eq_true rfl) (fun L2 hh2 hL2 w2 => ?_)
  rw [← hL2 5 0 (by decide), ← hL2 13 0 (by decide), ← hL2 13 1 (by decide), ← hL2 13 4 (by decide)]
  skip
  refine g_astore dL_ends_9 (by decide) rfl ?_
  refine g_bipush (v := 8) dL_ends_11 (by decide) ?_
  refine v_newT w2 (by decide) dL_ends_13 (K := 8) rfl rfl (by rw [hR]; exact Nat.le_of_ble_eq_true rfl) (by rw [hR]; exact Nat.le_of_ble_eq_true rfl) (fun L3 hh3 hL3 w3 => ?_)
  rw [← hL3 5 0 (by decide), ← hL3 13 0 (by decide), ← hL3 13 1 (by decide), ← hL3 13 4 (by decide), ← hL3 13 5 (by decide)]
  skip
  refine g_astore dL_ends_15 (by decide) rfl ?_
  refine g_bipush (v := 8) dL_ends_17 (by decide) ?_
  refine v_newT w3 (by decide) dL_ends_19 (K := 8) rfl rfl (by rw [hR]; exact Nat.le_of_ble_eq_true rfl) (by rw [hR]; exact Nat.le_of_ble_eq_true rfl) (fun L4 hh4 hL4 w4 => ?_)
  rw [← hL4 5 0 (by decide), ← hL4 13 0 (by decide), ← hL4 13 1 (by decide), ← hL4 13 4 (by decide), ← hL4 13 5 (by decide), ← hL4 13 6 (by decide)]
  skip
  refine g_astore dL_ends_21 (by decide) rfl ?_
  refine g_bipush (v := 8) dL_ends_23 (by decide) ?_
  refine v_newT w4 (by decide) dL_ends_25 (K := 8) rfl rfl (by rw [hR]; exact Nat.le_of_ble_eq_true rfl) (by rw [hR]; exact Nat.le_of_ble_eq_true rfl) (fun L5 hh5 hL5 w5 => ?_)
  rw [← hL5 5 0 (by decide), ← hL5 13 0 (by decide), ← hL5 13 1 (by decide), ← hL5 13 4 (by decide), ← hL5 13 5 (by decide), ← hL5 13 6 (by decide), ← hL5 13 7 (by decide)]
  have lk0 : LK 4 L L5 := ⟨((((hL5 5 0 (by decide)).trans (hL4 5 0 (by decide))).trans (hL3 5 0 (by decide))).trans (hL2 5 0 (by decide))).trans (hL1 5 0 (by decide)), ((((hL5 15 0 (by decide)).trans (hL4 15 0 (by decide))).trans (hL3 15 0 (by decide))).trans (hL2 15 0 (by decide))).trans (hL1 15 0 (by decide)), fun i hi => ((((hL5 13 i (by omega)).trans (hL4 13 i (by omega))).trans (hL3 13 i (by omega))).trans (hL2 13 i (by omega))).trans (hL1 13 i (by omega))⟩
  obtain ⟨Γ0, eΓ0⟩ : ∃ Γ0, Γ0 = zt (zt (zt (zt (zt Γ 4) 5) 6) 7) 8 := ⟨_, rfl⟩
  have hz : ∀ c a b, ¬ (c = 13 ∧ 4 ≤ a) → Γ0 c a b = Γ c a b := fun c a b z => by rw [eΓ0, zt_n (by omega), zt_n (by omega), zt_n (by omega), zt_n (by omega), zt_n (by omega)]
  rw [← eΓ0] at w5
  skip
  refine g_astore dL_ends_27 (by decide) rfl ?_
  refine g_iconst (v := 0) dL_ends_29 (by decide) ?_
  refine g_istore dL_ends_30 (by decide) rfl ?_
  have lp_32 : ∀ (f : Nat) (j : Nat) (G : Nat → Nat → Nat → Int32) (h' : am_H), j ≤ n → n - j < f → VW N n p ord L5 G 9 h' → (∀ c a b, ¬ (c = 13 ∧ 4 ≤ a) → G c a b = Γ0 c a b) → (∀ d, d < j → G 13 4 d = Γ 2 d 3 ∧ G 13 5 d = Γ 2 d 8 ∧ G 13 6 d = Γ 2 d 11 ∧ G 13 7 d = Γ 2 d 12 ∧ G 13 8 d = Γ 2 d 13) → am_G k RL yL_ends.name cL_ends 15 (some .boolean) 5 40 Qf 32 [(8, .int (nI j)), (7, .ref (L5 13 8)), (6, .ref (L5 13 7)), (5, .ref (L5 13 6)), (4, .ref (L5 13 5)), (3, .ref (L5 13 4)), (0, .ref (L5 5 0)), (1, .ref (L5 13 0)), (2, .ref (L5 13 1))] [] h' := by
    intro f
    induction f with
    | zero => intro j G h' hj hf w' hG hM; omega
    | succ f ih =>
      intro j G h' hj hf w' hG hM
      refine g_iload dL_ends_32 rfl ?_
      refine g_aload_n dL_ends_34 rfl ?_
      refine g_iconst (v := nI 0) dL_ends_35 (by decide) ?_
      refine v_ald w' dL_ends_36 (by first | rfl | assumption) (by first | assumption | omega | (show _ < 8; omega) | (show _ < 24; omega) | (show _ < 5; omega) | (show _ < 16; omega) | (show _ < 9; omega)) ?_
      rw [(hG 13 0 0 (by omega)).trans ((hz 13 0 0 (by omega)).trans la0)]
      refine gN_ge 108 dL_ends_37 (by decide) (by omega) (by omega) (fun c_37 => ?_) (fun c_37 => ?_)
      · skip
        have ej : j = n := by omega
        rw [ej] at hM
        have hM0 := hM
        have hGz : ∀ c a b, ¬ (c = 13 ∧ 4 ≤ a) → G c a b = Γ c a b := fun c a b z => (hG c a b z).trans (hz c a b z)
        have hcG : CI T n p A B ord G := hc.congr (fun c a b z => hGz c a b (fun y => z (by unfold irr; omega)))
        have laG : LT n p G := la.cg (fun c a b z => hGz c a b (by omega))
        refine g_aload_n dL_ends_108 rfl ?_
        refine g_bipush (v := 7) dL_ends_109 (by decide) ?_
        refine g_iconst (v := 0) dL_ends_111 (by decide) ?_
        refine g_iconst (v := 0) dL_ends_112 (by decide) ?_
        refine g_iconst (v := 0) dL_ends_113 (by decide) ?_
        refine g_callSX [_, _, _, _, _] dL_ends_114 mcw_asks (ka_end hlt w' hcG hT) rfl (Nat.le_of_ble_eq_true rfl) (am_rm hR (by decide)) (fun _ _ z => z) (fun v hx hq hE => ?_)
        obtain ⟨i, ord1, L6, Γ1, rfl, lk, w26, c1, c2⟩ := hq
        rw [← lk.1, ← lk.2.2 0 (by decide), ← lk.2.2 1 (by decide), ← lk.2.2 4 (by decide), ← lk.2.2 5 (by decide), ← lk.2.2 6 (by decide), ← lk.2.2 7 (by decide), ← lk.2.2 8 (by decide)]
        have lk6 : LK 4 L L6 := lk0.tr ⟨lk.1, lk.2.1, fun i hi => lk.2.2 i (by omega)⟩
        have h05 : G 5 0 5 = Γ 5 0 5 := hGz 5 0 5 (by omega)
        have h03 : Γ1 13 0 3 = Γ 5 0 5 := by
          have : Γ1 13 0 3 = G 13 0 3 := by
            rcases c2 with ⟨-, -, e⟩ | ⟨-, -, e⟩
            · rw [e]
            · exact e.1 13 0 3 (by omega)
          rw [this, hGz 13 0 3 (by omega), la3]
        refine g_istore dL_ends_117 (by decide) rfl ?_
        refine g_aload_n dL_ends_119 rfl ?_
        refine g_iconst (v := nI 3) dL_ends_120 (by decide) ?_
        refine v_ald w26 dL_ends_121 (by first | rfl | assumption) (by first | assumption | omega | (show _ < 8; omega) | (show _ < 24; omega) | (show _ < 5; omega) | (show _ < 16; omega) | (show _ < 9; omega)) ?_
        rw [h03]
        refine g_if_ne 138 dL_ends_122 (by decide) (fun c_122 => ?_) (fun c_122 => ?_)
        · skip
          obtain ⟨hi, hen⟩ : i = sp_sum (fun k => if G 2 k 2 - eT G k ≤ 0 then 0 else 1) n ∧ EN n G Γ1 := by
            rcases c2 with ⟨e0, -⟩ | ⟨-, e1, e2⟩
            · exact absurd (h05.symm.trans e0) c_122
            · exact ⟨e1, e2⟩
          have hEC : ∀ d, d < n → EC d Γ Γ1 := fun d hd => (hen.2.2.2.2.2 d hd).base (fun b => hGz 0 d b (by omega)) (fun b => hGz 2 d b (by omega))
          have e1_13 : ∀ a b, Γ1 13 a b = G 13 a b := fun a b => hen.1 13 a b (by omega)
          refine g_aload_n dL_ends_138 rfl ?_
          refine g_iconst (v := nI 3) dL_ends_139 (by decide) ?_
          refine g_iconst (v := 0) dL_ends_140 (by decide) ?_
          refine v_ast w26 dL_ends_141 (by first | rfl | assumption) (by first | assumption | omega | (show _ < 8; omega) | (show _ < 24; omega) | (show _ < 5; omega) | (show _ < 16; omega) | (show _ < 9; omega)) (fun h27 w27 => ?_)
          refine g_aload_n dL_ends_142 rfl ?_
          refine g_iconst (v := nI 2) dL_ends_143 (by decide) ?_
          refine g_dup2 dL_ends_144 rfl rfl ?_
          refine v_ald w27 dL_ends_145 (by first | rfl | assumption) (by first | assumption | omega | (show _ < 8; omega) | (show _ < 24; omega) | (show _ < 5; omega) | (show _ < 16; omega) | (show _ < 9; omega)) ?_
          rw [u3_n (by omega)]
          refine g_iconst (v := 1) dL_ends_146 (by decide) ?_
          refine g_iadd dL_ends_147 ?_
          refine v_ast w27 dL_ends_148 (by first | rfl | assumption) (by first | assumption | omega | (show _ < 8; omega) | (show _ < 24; omega) | (show _ < 5; omega) | (show _ < 16; omega) | (show _ < 9; omega)) (fun h28 w28 => ?_)
          refine g_iconst (v := 0) dL_ends_149 (by decide) ?_
          refine g_istore dL_ends_150 (by decide) rfl ?_
          refine g_iconst (v := 1) dL_ends_152 (by decide) ?_
          refine g_istore dL_ends_153 (by decide) rfl ?_
          refine g_iconst (v := 0) dL_ends_155 (by decide) ?_
          refine g_istore dL_ends_156 (by decide) rfl ?_
          have lp_158 : ∀ (f : Nat) (j : Nat) (nn : Int32) (G2 : Nat → Nat → Nat → Int32) (h' : am_H), j ≤ n → n - j < f → VW N n p ord1 L6 G2 9 h' → (∀ c a b, ¬ (c = 13 ∧ a = 0 ∧ b = 4) → G2 c a b = u3 (u3 Γ1 13 0 3 0) 13 0 2 (Γ1 13 0 2 + 1) c a b) → G2 13 0 4 = Γ 5 0 8 + sp_sum (fun d => Γ 2 d 8) j → nn = sp_sum (fun d => if Γ 2 d 2 - eT Γ d ≤ 0 then 0 else 1) j → am_G k RL yL_ends.name cL_ends 15 (some .boolean) 6 46 Qf 158 [(11, .int (nI j)), (10, .int 1), (9, .int nn), (8, .int i), (7, .ref (L6 13 8)), (6, .ref (L6 13 7)), (5, .ref (L6 13 6)), (4, .ref (L6 13 5)), (3, .ref (L6 13 4)), (0, .ref (L6 5 0)), (1, .ref (L6 13 0)), (2, .ref (L6 13 1))] [] h' := by
            intro f
            induction f with
            | zero => intro j nn G2 h' hj hf w' hG2 h4 hnn; omega
            | succ f ih2 =>
              intro j nn G2 h' hj hf w' hG2 h4 hnn
              have g0 : G2 13 0 0 = nI n := (hG2 13 0 0 (by omega)).trans ((u3_n (by omega)).trans ((u3_n (by omega)).trans ((e1_13 0 0).trans ((hGz 13 0 0 (by omega)).trans la0))))
              have eo1 : ∀ c a b, ¬ (c = 13 ∧ a = 0) → G2 c a b = Γ1 c a b := fun c a b z => (hG2 c a b (by omega)).trans ((u3_n (by omega)).trans (u3_n (by omega)))
              refine g_iload dL_ends_158 rfl ?_
              refine g_aload_n dL_ends_160 rfl ?_
              refine g_iconst (v := nI 0) dL_ends_161 (by decide) ?_
              refine v_ald w' dL_ends_162 (by first | rfl | assumption) (by first | assumption | omega | (show _ < 8; omega) | (show _ < 24; omega) | (show _ < 5; omega) | (show _ < 16; omega) | (show _ < 9; omega)) ?_
              rw [g0]
              refine gN_ge 359 dL_ends_163 (by decide) (by omega) (by omega) (fun c_163 => ?_) (fun c_163 => ?_)
              · skip
                have ej : j = n := by omega
                have e5 : ∀ a b, G2 5 a b = Γ1 5 a b := fun a b => (hG2 5 a b (by omega)).trans ((u3_n (by omega)).trans (u3_n (by omega)))
                have eo : ∀ c a b, ¬ c = 13 → G2 c a b = Γ1 c a b := fun c a b z => (hG2 c a b (by omega)).trans ((u3_n (by omega)).trans (u3_n (by omega)))
                have e13 : ∀ a b, ¬ a = 0 → a < 4 → G2 13 a b = Γ 13 a b := fun a b z z2 => (hG2 13 a b (by omega)).trans ((u3_n (by omega)).trans ((u3_n (by omega)).trans ((e1_13 a b).trans (hGz 13 a b (by omega)))))
                have hcg : CI (T + 1) n p A B ord1 G2 := c1.congr (fun c a b z => eo c a b (fun y => z (by unfold irr; omega)))
                have hla : LT n p G2 := by
                  refine ⟨g0, ?_, ?_, ?_, ?_, fun d hd => ?_, fun q hq => ?_, fun d hd => ?_, fun q hq => (e13 3 q (by omega) (by omega)).trans (lapn q hq)⟩
                  · rw [hG2 13 0 1 (by omega), u3_n (by omega), u3_n (by omega), e1_13, hGz 13 0 1 (by omega)]; exact la1
                  · rw [hG2 13 0 2 (by omega), u3_s, e1_13, hGz 13 0 2 (by omega), la2, e5, hen.2.2.2.1, hGz 5 0 3 (by omega)]
                  · rw [hG2 13 0 3 (by omega), u3_n (by omega), u3_s, e5]; exact hen.2.1.symm
                  · rw [h4, ej, e5, hen.2.2.2.2.1, hGz 5 0 8 (by omega)]
                    congr 1
                    exact sp_sum_congr n fun d _ => (hGz 2 d 8 (by omega)).symm
                  · obtain ⟨d1, d2, d3, d4⟩ := lad d hd
                    have q6 := (hEC d hd).2.2.2.2.2.1
                    rw [e13 1 _ (by omega) (by omega), e13 1 _ (by omega) (by omega), e13 2 _ (by omega) (by omega), e13 2 _ (by omega) (by omega), eo 2 d 1 (by omega), eo 2 d 2 (by omega), eo 2 d 9 (by omega), eo 2 d 10 (by omega), q6 1 (by omega), q6 2 (by omega), q6 9 (by omega), q6 10 (by omega)]
                    exact ⟨d1, d2, d3, d4⟩
                  · rw [e13 3 q (by omega) (by omega), eo 4 q 3 (by omega), hen.1 4 q 3 (by omega), hGz 4 q 3 (by omega)]
                    exact lap q hq
                  · rw [e13 2 _ (by omega) (by omega), e13 2 _ (by omega) (by omega)]
                    exact lan d hd
                have e15 : ∀ q, G2 15 0 q = Γ 15 0 q := fun q => (eo 15 0 q (by omega)).trans ((hen.1 15 0 q (by omega)).trans (hGz 15 0 q (by omega)))
                have enn : nn = i := by
                  rw [hnn, ej, hi]
                  refine sp_sum_congr n fun d hd => ?_
                  have k3 : eT G d = eT Γ d := by unfold eT eW eK; rw [hGz 2 d 8 (by omega), hGz 2 d 1 (by omega), hGz 2 d 3 (by omega), hGz 2 d 2 (by omega)]
                  rw [k3, hGz 2 d 2 (by omega)]
                refine g_iload dL_ends_359 rfl ?_
                refine g_if_eq 382 dL_ends_361 (by decide) (fun z => absurd z (by decide)) (fun _ => ?_)
                refine g_iload dL_ends_364 rfl ?_
                refine g_iload dL_ends_366 rfl ?_
                refine g_icmp_ne 382 dL_ends_368 (by decide) (fun z => absurd enn.symm z) (fun c_368 => ?_)
                refine g_aload_n dL_ends_371 rfl ?_
                refine g_callV [] dL_ends_372 mc_L_63 mi_X4_round se_X4_round (q_round hlt w') (w'.k (by first | rfl | assumption)) rfl rfl (Nat.le_of_ble_eq_true rfl) (am_rm hR (by decide)) (fun _ _ z => z) (fun v hx hq hE => ?_)
                obtain ⟨rfl, rfl⟩ := hq
                refine g_if_ne 382 dL_ends_375 (by decide) (fun z => absurd (by rw [if_pos (show G2 5 0 5 = 0 by rw [e5]; exact hen.2.1), e5]; exact hen.2.2.1) z) (fun c_375 => ?_)
                refine g_iconst (v := 1) dL_ends_378 (by decide) ?_
                refine g_goto 383 dL_ends_379 (by decide) ?_
                rw [hQ]
                refine g_iret dL_ends_383 rfl rfl (by decide) (by decide) ?_
                exact ⟨rfl, n, p, A, B, ord1, L6, G2, w'.drop (by decide), hcg, hla, h3, lk6, e15⟩
              · skip
                refine g_iload dL_ends_166 rfl ?_
                refine g_if_eq 359 dL_ends_168 (by decide) (fun z => absurd z (by decide)) (fun _ => ?_)
                have hjn : j < n := c_163
                obtain ⟨⟨gst', -⟩, gwa', glo', gto', gla', -, -⟩ := hEC j hjn
                have gst : G2 0 j 0 = 0 := (eo1 0 j 0 (by omega)).trans gst'
                have gwa : G2 2 j 3 = eW Γ j - eT Γ j := (eo1 2 j 3 (by omega)).trans gwa'
                have old : ∀ a, 4 ≤ a → G2 13 a j = G 13 a j := fun a ha => (eo1 13 a j (by omega)).trans (e1_13 a j)
                obtain ⟨m4, m5, m6, m7, m8⟩ := hM0 j hjn
                have gi : G2 13 4 j = Γ 2 j 3 := (old 4 (by omega)).trans m4
                have gg : G2 13 5 j = Γ 2 j 8 := (old 5 (by omega)).trans m5
                have ego : G2 2 j 13 - G2 13 8 j = Γ 2 j 8 - eK Γ j := by rw [eo1 2 j 13 (by omega), glo', old 8 (by omega), m8, I_acl]
                have eto : G2 2 j 11 - G2 13 6 j = eT Γ j := by rw [eo1 2 j 11 (by omega), gto', old 6 (by omega), m6, I_acl]
                have ela : G2 2 j 12 - G2 13 7 j = Γ 2 j 2 - eT Γ j := by rw [eo1 2 j 12 (by omega), gla', old 7 (by omega), m7, I_acl]
                have gt1 : G2 13 1 (2 * j + 1) = Γ 2 j 2 := (eo1 13 1 _ (by omega)).trans ((e1_13 1 _).trans ((hGz 13 1 _ (by omega)).trans (lad j hjn).2.1))
                have gt0 : G2 13 1 (2 * j) = Γ 2 j 1 := (eo1 13 1 _ (by omega)).trans ((e1_13 1 _).trans ((hGz 13 1 _ (by omega)).trans (lad j hjn).1))
                obtain ⟨ef1, ef2, ef3, ef4⟩ := end_facts (hc.2.1 j hjn)
                refine g_aload_n dL_ends_171 rfl ?_
                refine g_iload dL_ends_172 rfl ?_
                refine g_bipush (v := nI 8) dL_ends_174 (by decide) ?_
                refine g_callV [_, _] dL_ends_176 mc_L_48 mi_X4_ofDistrict se_X4_ofDistrict (q_of_8 hlt w' c_163) (w'.k (by first | rfl | assumption)) rfl rfl (Nat.le_of_ble_eq_true rfl) (am_rm hR (by decide)) (fun _ _ z => z) (fun v hx hq hE => ?_)
                obtain ⟨rfl, rfl⟩ := hq
                refine g_aload dL_ends_179 rfl ?_
                refine g_iload dL_ends_181 rfl ?_
                refine v_ald w' dL_ends_183 (by first | rfl | assumption) (by first | assumption | omega | (show _ < 8; omega) | (show _ < 24; omega) | (show _ < 5; omega) | (show _ < 16; omega) | (show _ < 9; omega)) ?_
                refine g_isub dL_ends_184 ?_
                rw [ego]
                refine g_istore dL_ends_185 (by decide) rfl ?_
                refine g_aload_n dL_ends_187 rfl ?_
                refine g_iload dL_ends_188 rfl ?_
                refine g_bipush (v := nI 6) dL_ends_190 (by decide) ?_
                refine g_callV [_, _] dL_ends_192 mc_L_48 mi_X4_ofDistrict se_X4_ofDistrict (q_of_6 hlt w' c_163) (w'.k (by first | rfl | assumption)) rfl rfl (Nat.le_of_ble_eq_true rfl) (am_rm hR (by decide)) (fun _ _ z => z) (fun v hx hq hE => ?_)
                obtain ⟨rfl, rfl⟩ := hq
                refine g_aload dL_ends_195 rfl ?_
                refine g_iload dL_ends_197 rfl ?_
                refine v_ald w' dL_ends_199 (by first | rfl | assumption) (by first | assumption | omega | (show _ < 8; omega) | (show _ < 24; omega) | (show _ < 5; omega) | (show _ < 16; omega) | (show _ < 9; omega)) ?_
                refine g_isub dL_ends_200 ?_
                rw [eto]
                refine g_istore dL_ends_201 (by decide) rfl ?_
                refine g_aload_n dL_ends_203 rfl ?_
                refine g_iload dL_ends_204 rfl ?_
                refine g_bipush (v := nI 7) dL_ends_206 (by decide) ?_
                refine g_callV [_, _] dL_ends_208 mc_L_48 mi_X4_ofDistrict se_X4_ofDistrict (q_of_7 hlt w' c_163) (w'.k (by first | rfl | assumption)) rfl rfl (Nat.le_of_ble_eq_true rfl) (am_rm hR (by decide)) (fun _ _ z => z) (fun v hx hq hE => ?_)
                obtain ⟨rfl, rfl⟩ := hq
                refine g_aload dL_ends_211 rfl ?_
                refine g_iload dL_ends_213 rfl ?_
                refine v_ald w' dL_ends_215 (by first | rfl | assumption) (by first | assumption | omega | (show _ < 8; omega) | (show _ < 24; omega) | (show _ < 5; omega) | (show _ < 16; omega) | (show _ < 9; omega)) ?_
                refine g_isub dL_ends_216 ?_
                rw [ela]
                refine g_istore dL_ends_217 (by decide) rfl ?_
                refine g_iload dL_ends_219 rfl ?_
                refine g_iload dL_ends_221 rfl ?_
                refine g_if_le 230 dL_ends_223 (by decide) (fun c_223 => ?_) (fun c_223 => ?_)
                · skip
                  refine g_iconst (v := 0) dL_ends_230 (by decide) ?_
                  refine g_iadd dL_ends_231 ?_
                  refine g_istore dL_ends_232 (by decide) rfl ?_
                  refine g_aload_n dL_ends_234 rfl ?_
                  refine g_iconst (v := nI 4) dL_ends_235 (by decide) ?_
                  refine g_dup2 dL_ends_236 rfl rfl ?_
                  refine v_ald w' dL_ends_237 (by first | rfl | assumption) (by first | assumption | omega | (show _ < 8; omega) | (show _ < 24; omega) | (show _ < 5; omega) | (show _ < 16; omega) | (show _ < 9; omega)) ?_
                  refine g_aload dL_ends_238 rfl ?_
                  refine g_iload dL_ends_240 rfl ?_
                  refine v_ald w' dL_ends_242 (by first | rfl | assumption) (by first | assumption | omega | (show _ < 8; omega) | (show _ < 24; omega) | (show _ < 5; omega) | (show _ < 16; omega) | (show _ < 9; omega)) ?_
                  rw [gg]
                  refine g_iadd dL_ends_243 ?_
                  refine v_ast w' dL_ends_244 (by first | rfl | assumption) (by first | assumption | omega | (show _ < 8; omega) | (show _ < 24; omega) | (show _ < 5; omega) | (show _ < 16; omega) | (show _ < 9; omega)) (fun h49 w49 => ?_)
                  refine g_iload dL_ends_245 rfl ?_
                  refine g_if_lt 350 dL_ends_247 (by decide) (fun z => absurd z (fun q => by have := Int32.lt_iff_toInt_lt.mp q; rw [tI_0] at this; omega)) (fun c_247 => ?_)
                  refine g_iload dL_ends_250 rfl ?_
                  refine g_if_lt 350 dL_ends_252 (by decide) (fun z => absurd z (fun q => by have := Int32.lt_iff_toInt_lt.mp q; rw [tI_0] at this; omega)) (fun c_252 => ?_)
                  refine g_iload dL_ends_255 rfl ?_
                  refine g_iload dL_ends_257 rfl ?_
                  refine g_iadd dL_ends_259 ?_
                  refine g_aload_n dL_ends_260 rfl ?_
                  refine g_iconst (v := nI 2) dL_ends_261 (by decide) ?_
                  refine g_iload dL_ends_262 rfl ?_
                  refine g_imul dL_ends_264 ?_
                  rw [pk_mul]
                  refine g_iconst (v := nI 1) dL_ends_265 (by decide) ?_
                  refine g_iadd dL_ends_266 ?_
                  rw [nI_add]
                  refine v_ald w49 dL_ends_267 (by first | rfl | assumption) (by first | assumption | omega | (show _ < 8; omega) | (show _ < 24; omega) | (show _ < 5; omega) | (show _ < 16; omega) | (show _ < 9; omega)) ?_
                  rw [u3_n (by omega), gt1]
                  refine g_icmp_ne 350 dL_ends_268 (by decide) (fun z => absurd (by rw [Int32.add_comm, Int32.sub_add_cancel]) z) (fun c_268 => ?_)
                  refine g_aload_n dL_ends_271 rfl ?_
                  refine g_iload dL_ends_272 rfl ?_
                  refine g_iconst (v := nI 0) dL_ends_274 (by decide) ?_
                  refine g_callV [_, _] dL_ends_275 mc_L_48 mi_X4_ofDistrict se_X4_ofDistrict (q_of_0 hlt w49 c_163) (w49.k (by first | rfl | assumption)) rfl rfl (Nat.le_of_ble_eq_true rfl) (am_rm hR (by decide)) (fun _ _ z => z) (fun v hx hq hE => ?_)
                  obtain ⟨rfl, rfl⟩ := hq
                  refine g_aload_n dL_ends_278 rfl ?_
                  refine g_iload dL_ends_279 rfl ?_
                  refine v_ald w49 dL_ends_281 (by first | rfl | assumption) (by first | assumption | omega | (show _ < 8; omega) | (show _ < 24; omega) | (show _ < 5; omega) | (show _ < 16; omega) | (show _ < 9; omega)) ?_
                  refine g_aload dL_ends_282 rfl ?_
                  refine g_iload dL_ends_284 rfl ?_
                  refine v_ald w49 dL_ends_286 (by first | rfl | assumption) (by first | assumption | omega | (show _ < 8; omega) | (show _ < 24; omega) | (show _ < 5; omega) | (show _ < 16; omega) | (show _ < 9; omega)) ?_
                  refine g_iadd dL_ends_287 ?_
                  refine g_iload dL_ends_288 rfl ?_
                  refine g_isub dL_ends_290 ?_
                  refine g_iload dL_ends_291 rfl ?_
                  refine g_isub dL_ends_293 ?_
                  rw [show u3 G2 13 0 4 (G2 13 0 4 + Γ 2 j 8) 2 j 3 = eW Γ j - eT Γ j from (u3_n (by omega)).trans gwa, show u3 G2 13 0 4 (G2 13 0 4 + Γ 2 j 8) 13 4 j = Γ 2 j 3 from (u3_n (by omega)).trans gi, show u3 G2 13 0 4 (G2 13 0 4 + Γ 2 j 8) 13 5 j = Γ 2 j 8 from (u3_n (by omega)).trans gg]
                  refine g_icmp_ne 350 dL_ends_294 (by decide) (fun z => absurd (I_wat _ _ _ _) z) (fun c_294 => ?_)
                  refine g_iload dL_ends_297 rfl ?_
                  refine g_if_eq 321 dL_ends_299 (by decide) (fun c_299 => ?_) (fun c_299 => ?_)
                  · skip
                    refine g_iload dL_ends_321 rfl ?_
                    refine g_if_eq 336 dL_ends_323 (by decide) (fun c_323 => ?_) (fun c_323 => ?_)
                    · skip
                      refine g_aload_n dL_ends_336 rfl ?_
                      refine g_iload dL_ends_337 rfl ?_
                      refine g_callV [_] dL_ends_339 mc_L_73 mi_X4_place se_X4_place (q_place hlt w49 c_163) (w49.k (by first | rfl | assumption)) rfl rfl (Nat.le_of_ble_eq_true rfl) (am_rm hR (by decide)) (fun _ _ z => z) (fun v hx hq hE => ?_)
                      obtain ⟨rfl, rfl⟩ := hq
                      refine g_iconst (v := (-1)) dL_ends_342 (by decide) ?_
                      rw [plc_no (show u3 G2 13 0 4 (G2 13 0 4 + Γ 2 j 8) 0 j 0 = 0 from (u3_n (by omega)).trans gst)]
                      refine g_icmp_ne 350 dL_ends_343 (by decide) (fun z => absurd rfl z) (fun c_343 => ?_)
                      refine g_iconst (v := 1) dL_ends_346 (by decide) ?_
                      refine g_goto 351 dL_ends_347 (by decide) ?_
                      refine g_istore dL_ends_351 (by decide) rfl ?_
                      refine g_iinc dL_ends_353 rfl (nI_i1 _) (by decide) rfl ?_
                      refine g_goto 158 dL_ends_356 (by decide) ?_
                      refine g_ls [(11, .int (nI (j + 1))), (10, .int 1), (9, .int (nn + 0)), (8, .int i), (7, .ref (L6 13 8)), (6, .ref (L6 13 7)), (5, .ref (L6 13 6)), (4, .ref (L6 13 5)), (3, .ref (L6 13 4)), (0, .ref (L6 5 0)), (1, .ref (L6 13 0)), (2, .ref (L6 13 1))] ⟨rfl, rfl, rfl, rfl, rfl, rfl, rfl, rfl, rfl, rfl, rfl, rfl, trivial⟩ ?_
                      refine ih2 (j + 1) _ _ _ (by omega) (by omega) w49 (fun c a b z => (u3_n (by omega)).trans (hG2 c a b z)) ?_ ?_
                      · rw [u3_s, h4, Int32.add_assoc]
                        rfl
                      · rw [hnn]
                        show _ = sp_sum (fun d => if Γ 2 d 2 - eT Γ d ≤ 0 then 0 else 1) j + (if Γ 2 j 2 - eT Γ j ≤ 0 then 0 else 1)
                        rw [if_pos c_223]
                    · skip
                      refine g_aload_n dL_ends_326 rfl ?_
                      refine g_iload dL_ends_327 rfl ?_
                      refine g_iconst (v := nI 0) dL_ends_329 (by decide) ?_
                      refine g_callV [_, _] dL_ends_330 mc_L_48 mi_X4_ofDistrict se_X4_ofDistrict (q_of_0 hlt w49 c_163) (w49.k (by first | rfl | assumption)) rfl rfl (Nat.le_of_ble_eq_true rfl) (am_rm hR (by decide)) (fun _ _ z => z) (fun v hx hq hE => ?_)
                      obtain ⟨rfl, rfl⟩ := hq
                      rw [show u3 G2 13 0 4 (G2 13 0 4 + Γ 2 j 8) 2 j 3 = eW Γ j - eT Γ j from (u3_n (by omega)).trans gwa]
                      refine g_if_ne 350 dL_ends_333 (by decide) (fun z => absurd (ef4 c_323) z) (fun c_333 => ?_)
                      refine g_aload_n dL_ends_336 rfl ?_
                      refine g_iload dL_ends_337 rfl ?_
                      refine g_callV [_] dL_ends_339 mc_L_73 mi_X4_place se_X4_place (q_place hlt w49 c_163) (w49.k (by first | rfl | assumption)) rfl rfl (Nat.le_of_ble_eq_true rfl) (am_rm hR (by decide)) (fun _ _ z => z) (fun v hx hq hE => ?_)
                      obtain ⟨rfl, rfl⟩ := hq
                      refine g_iconst (v := (-1)) dL_ends_342 (by decide) ?_
                      rw [plc_no (show u3 G2 13 0 4 (G2 13 0 4 + Γ 2 j 8) 0 j 0 = 0 from (u3_n (by omega)).trans gst)]
                      refine g_icmp_ne 350 dL_ends_343 (by decide) (fun z => absurd rfl z) (fun c_343 => ?_)
                      refine g_iconst (v := 1) dL_ends_346 (by decide) ?_
                      refine g_goto 351 dL_ends_347 (by decide) ?_
                      refine g_istore dL_ends_351 (by decide) rfl ?_
                      refine g_iinc dL_ends_353 rfl (nI_i1 _) (by decide) rfl ?_
                      refine g_goto 158 dL_ends_356 (by decide) ?_
                      refine g_ls [(11, .int (nI (j + 1))), (10, .int 1), (9, .int (nn + 0)), (8, .int i), (7, .ref (L6 13 8)), (6, .ref (L6 13 7)), (5, .ref (L6 13 6)), (4, .ref (L6 13 5)), (3, .ref (L6 13 4)), (0, .ref (L6 5 0)), (1, .ref (L6 13 0)), (2, .ref (L6 13 1))] ⟨rfl, rfl, rfl, rfl, rfl, rfl, rfl, rfl, rfl, rfl, rfl, rfl, trivial⟩ ?_
                      refine ih2 (j + 1) _ _ _ (by omega) (by omega) w49 (fun c a b z => (u3_n (by omega)).trans (hG2 c a b z)) ?_ ?_
                      · rw [u3_s, h4, Int32.add_assoc]
                        rfl
                      · rw [hnn]
                        show _ = sp_sum (fun d => if Γ 2 d 2 - eT Γ d ≤ 0 then 0 else 1) j + (if Γ 2 j 2 - eT Γ j ≤ 0 then 0 else 1)
                        rw [if_pos c_223]
                  · skip
                    refine g_aload_n dL_ends_302 rfl ?_
                    refine g_iload dL_ends_303 rfl ?_
                    refine g_iconst (v := nI 0) dL_ends_305 (by decide) ?_
                    refine g_callV [_, _] dL_ends_306 mc_L_48 mi_X4_ofDistrict se_X4_ofDistrict (q_of_0 hlt w49 c_163) (w49.k (by first | rfl | assumption)) rfl rfl (Nat.le_of_ble_eq_true rfl) (am_rm hR (by decide)) (fun _ _ z => z) (fun v hx hq hE => ?_)
                    obtain ⟨rfl, rfl⟩ := hq
                    refine g_iload dL_ends_309 rfl ?_
                    refine g_iadd dL_ends_311 ?_
                    refine g_aload_n dL_ends_312 rfl ?_
                    refine g_iconst (v := nI 2) dL_ends_313 (by decide) ?_
                    refine g_iload dL_ends_314 rfl ?_
                    refine g_imul dL_ends_316 ?_
                    rw [pk_mul]
                    refine v_ald w49 dL_ends_317 (by first | rfl | assumption) (by first | assumption | omega | (show _ < 8; omega) | (show _ < 24; omega) | (show _ < 5; omega) | (show _ < 16; omega) | (show _ < 9; omega)) ?_
                    rw [show u3 G2 13 0 4 (G2 13 0 4 + Γ 2 j 8) 2 j 3 = eW Γ j - eT Γ j from (u3_n (by omega)).trans gwa, show u3 G2 13 0 4 (G2 13 0 4 + Γ 2 j 8) 13 1 (2 * j) = Γ 2 j 1 from (u3_n (by omega)).trans gt0]
                    refine g_icmp_ne 350 dL_ends_318 (by decide) (fun z => absurd (by rw [Int32.sub_add_cancel]; exact ef3 c_299) z) (fun c_318 => ?_)
                    refine g_iload dL_ends_321 rfl ?_
                    refine g_if_eq 336 dL_ends_323 (by decide) (fun c_323 => ?_) (fun c_323 => ?_)
                    · skip
                      refine g_aload_n dL_ends_336 rfl ?_
                      refine g_iload dL_ends_337 rfl ?_
                      refine g_callV [_] dL_ends_339 mc_L_73 mi_X4_place se_X4_place (q_place hlt w49 c_163) (w49.k (by first | rfl | assumption)) rfl rfl (Nat.le_of_ble_eq_true rfl) (am_rm hR (by decide)) (fun _ _ z => z) (fun v hx hq hE => ?_)
                      obtain ⟨rfl, rfl⟩ := hq
                      refine g_iconst (v := (-1)) dL_ends_342 (by decide) ?_
                      rw [plc_no (show u3 G2 13 0 4 (G2 13 0 4 + Γ 2 j 8) 0 j 0 = 0 from (u3_n (by omega)).trans gst)]
                      refine g_icmp_ne 350 dL_ends_343 (by decide) (fun z => absurd rfl z) (fun c_343 => ?_)
                      refine g_iconst (v := 1) dL_ends_346 (by decide) ?_
                      refine g_goto 351 dL_ends_347 (by decide) ?_
                      refine g_istore dL_ends_351 (by decide) rfl ?_
                      refine g_iinc dL_ends_353 rfl (nI_i1 _) (by decide) rfl ?_
                      refine g_goto 158 dL_ends_356 (by decide) ?_
                      refine g_ls [(11, .int (nI (j + 1))), (10, .int 1), (9, .int (nn + 0)), (8, .int i), (7, .ref (L6 13 8)), (6, .ref (L6 13 7)), (5, .ref (L6 13 6)), (4, .ref (L6 13 5)), (3, .ref (L6 13 4)), (0, .ref (L6 5 0)), (1, .ref (L6 13 0)), (2, .ref (L6 13 1))] ⟨rfl, rfl, rfl, rfl, rfl, rfl, rfl, rfl, rfl, rfl, rfl, rfl, trivial⟩ ?_
                      refine ih2 (j + 1) _ _ _ (by omega) (by omega) w49 (fun c a b z => (u3_n (by omega)).trans (hG2 c a b z)) ?_ ?_
                      · rw [u3_s, h4, Int32.add_assoc]
                        rfl
                      · rw [hnn]
                        show _ = sp_sum (fun d => if Γ 2 d 2 - eT Γ d ≤ 0 then 0 else 1) j + (if Γ 2 j 2 - eT Γ j ≤ 0 then 0 else 1)
                        rw [if_pos c_223]
                    · skip
                      refine g_aload_n dL_ends_326 rfl ?_
                      refine g_iload dL_ends_327 rfl ?_
                      refine g_iconst (v := nI 0) dL_ends_329 (by decide) ?_
                      refine g_callV [_, _] dL_ends_330 mc_L_48 mi_X4_ofDistrict se_X4_ofDistrict (q_of_0 hlt w49 c_163) (w49.k (by first | rfl | assumption)) rfl rfl (Nat.le_of_ble_eq_true rfl) (am_rm hR (by decide)) (fun _ _ z => z) (fun v hx hq hE => ?_)
                      obtain ⟨rfl, rfl⟩ := hq
                      rw [show u3 G2 13 0 4 (G2 13 0 4 + Γ 2 j 8) 2 j 3 = eW Γ j - eT Γ j from (u3_n (by omega)).trans gwa]
                      refine g_if_ne 350 dL_ends_333 (by decide) (fun z => absurd (ef4 c_323) z) (fun c_333 => ?_)
                      refine g_aload_n dL_ends_336 rfl ?_
                      refine g_iload dL_ends_337 rfl ?_
                      refine g_callV [_] dL_ends_339 mc_L_73 mi_X4_place se_X4_place (q_place hlt w49 c_163) (w49.k (by first | rfl | assumption)) rfl rfl (Nat.le_of_ble_eq_true rfl) (am_rm hR (by decide)) (fun _ _ z => z) (fun v hx hq hE => ?_)
                      obtain ⟨rfl, rfl⟩ := hq
                      refine g_iconst (v := (-1)) dL_ends_342 (by decide) ?_
                      rw [plc_no (show u3 G2 13 0 4 (G2 13 0 4 + Γ 2 j 8) 0 j 0 = 0 from (u3_n (by omega)).trans gst)]
                      refine g_icmp_ne 350 dL_ends_343 (by decide) (fun z => absurd rfl z) (fun c_343 => ?_)
                      refine g_iconst (v := 1) dL_ends_346 (by decide) ?_
                      refine g_goto 351 dL_ends_347 (by decide) ?_
                      refine g_istore dL_ends_351 (by decide) rfl ?_
                      refine g_iinc dL_ends_353 rfl (nI_i1 _) (by decide) rfl ?_
                      refine g_goto 158 dL_ends_356 (by decide) ?_
                      refine g_ls [(11, .int (nI (j + 1))), (10, .int 1), (9, .int (nn + 0)), (8, .int i), (7, .ref (L6 13 8)), (6, .ref (L6 13 7)), (5, .ref (L6 13 6)), (4, .ref (L6 13 5)), (3, .ref (L6 13 4)), (0, .ref (L6 5 0)), (1, .ref (L6 13 0)), (2, .ref (L6 13 1))] ⟨rfl, rfl, rfl, rfl, rfl, rfl, rfl, rfl, rfl, rfl, rfl, rfl, trivial⟩ ?_
                      refine ih2 (j + 1) _ _ _ (by omega) (by omega) w49 (fun c a b z => (u3_n (by omega)).trans (hG2 c a b z)) ?_ ?_
                      · rw [u3_s, h4, Int32.add_assoc]
                        rfl
                      · rw [hnn]
                        show _ = sp_sum (fun d => if Γ 2 d 2 - eT Γ d ≤ 0 then 0 else 1) j + (if Γ 2 j 2 - eT Γ j ≤ 0 then 0 else 1)
                        rw [if_pos c_223]
                · skip
                  refine g_iconst (v := 1) dL_ends_226 (by decide) ?_
                  refine g_goto 231 dL_ends_227 (by decide) ?_
                  refine g_iadd dL_ends_231 ?_
                  refine g_istore dL_ends_232 (by decide) rfl ?_
                  refine g_aload_n dL_ends_234 rfl ?_
                  refine g_iconst (v := nI 4) dL_ends_235 (by decide) ?_
                  refine g_dup2 dL_ends_236 rfl rfl ?_
                  refine v_ald w' dL_ends_237 (by first | rfl | assumption) (by first | assumption | omega | (show _ < 8; omega) | (show _ < 24; omega) | (show _ < 5; omega) | (show _ < 16; omega) | (show _ < 9; omega)) ?_
                  refine g_aload dL_ends_238 rfl ?_
                  refine g_iload dL_ends_240 rfl ?_
                  refine v_ald w' dL_ends_242 (by first | rfl | assumption) (by first | assumption | omega | (show _ < 8; omega) | (show _ < 24; omega) | (show _ < 5; omega) | (show _ < 16; omega) | (show _ < 9; omega)) ?_
                  rw [gg]
                  refine g_iadd dL_ends_243 ?_
                  refine v_ast w' dL_ends_244 (by first | rfl | assumption) (by first | assumption | omega | (show _ < 8; omega) | (show _ < 24; omega) | (show _ < 5; omega) | (show _ < 16; omega) | (show _ < 9; omega)) (fun h50 w50 => ?_)
                  refine g_iload dL_ends_245 rfl ?_
                  refine g_if_lt 350 dL_ends_247 (by decide) (fun z => absurd z (fun q => by have := Int32.lt_iff_toInt_lt.mp q; rw [tI_0] at this; omega)) (fun c_247 => ?_)
                  refine g_iload dL_ends_250 rfl ?_
                  refine g_if_lt 350 dL_ends_252 (by decide) (fun z => absurd z (fun q => by have := Int32.lt_iff_toInt_lt.mp q; rw [tI_0] at this; omega)) (fun c_252 => ?_)
                  refine g_iload dL_ends_255 rfl ?_
                  refine g_iload dL_ends_257 rfl ?_
                  refine g_iadd dL_ends_259 ?_
                  refine g_aload_n dL_ends_260 rfl ?_
                  refine g_iconst (v := nI 2) dL_ends_261 (by decide) ?_
                  refine g_iload dL_ends_262 rfl ?_
                  refine g_imul dL_ends_264 ?_
                  rw [pk_mul]
                  refine g_iconst (v := nI 1) dL_ends_265 (by decide) ?_
                  refine g_iadd dL_ends_266 ?_
                  rw [nI_add]
                  refine v_ald w50 dL_ends_267 (by first | rfl | assumption) (by first | assumption | omega | (show _ < 8; omega) | (show _ < 24; omega) | (show _ < 5; omega) | (show _ < 16; omega) | (show _ < 9; omega)) ?_
                  rw [u3_n (by omega), gt1]
                  refine g_icmp_ne 350 dL_ends_268 (by decide) (fun z => absurd (by rw [Int32.add_comm, Int32.sub_add_cancel]) z) (fun c_268 => ?_)
                  refine g_aload_n dL_ends_271 rfl ?_
                  refine g_iload dL_ends_272 rfl ?_
                  refine g_iconst (v := nI 0) dL_ends_274 (by decide) ?_
                  refine g_callV [_, _] dL_ends_275 mc_L_48 mi_X4_ofDistrict se_X4_ofDistrict (q_of_0 hlt w50 c_163) (w50.k (by first | rfl | assumption)) rfl rfl (Nat.le_of_ble_eq_true rfl) (am_rm hR (by decide)) (fun _ _ z => z) (fun v hx hq hE => ?_)
                  obtain ⟨rfl, rfl⟩ := hq
                  refine g_aload_n dL_ends_278 rfl ?_
                  refine g_iload dL_ends_279 rfl ?_
                  refine v_ald w50 dL_ends_281 (by first | rfl | assumption) (by first | assumption | omega | (show _ < 8; omega) | (show _ < 24; omega) | (show _ < 5; omega) | (show _ < 16; omega) | (show _ < 9; omega)) ?_
                  refine g_aload dL_ends_282 rfl ?_
                  refine g_iload dL_ends_284 rfl ?_
                  refine v_ald w50 dL_ends_286 (by first | rfl | assumption) (by first | assumption | omega | (show _ < 8; omega) | (show _ < 24; omega) | (show _ < 5; omega) | (show _ < 16; omega) | (show _ < 9; omega)) ?_
                  refine g_iadd dL_ends_287 ?_
                  refine g_iload dL_ends_288 rfl ?_
                  refine g_isub dL_ends_290 ?_
                  refine g_iload dL_ends_291 rfl ?_
                  refine g_isub dL_ends_293 ?_
                  rw [show u3 G2 13 0 4 (G2 13 0 4 + Γ 2 j 8) 2 j 3 = eW Γ j - eT Γ j from (u3_n (by omega)).trans gwa, show u3 G2 13 0 4 (G2 13 0 4 + Γ 2 j 8) 13 4 j = Γ 2 j 3 from (u3_n (by omega)).trans gi, show u3 G2 13 0 4 (G2 13 0 4 + Γ 2 j 8) 13 5 j = Γ 2 j 8 from (u3_n (by omega)).trans gg]
                  refine g_icmp_ne 350 dL_ends_294 (by decide) (fun z => absurd (I_wat _ _ _ _) z) (fun c_294 => ?_)
                  refine g_iload dL_ends_297 rfl ?_
                  refine g_if_eq 321 dL_ends_299 (by decide) (fun c_299 => ?_) (fun c_299 => ?_)
                  · skip
                    refine g_iload dL_ends_321 rfl ?_
                    refine g_if_eq 336 dL_ends_323 (by decide) (fun c_323 => ?_) (fun c_323 => ?_)
                    · skip
                      refine g_aload_n dL_ends_336 rfl ?_
                      refine g_iload dL_ends_337 rfl ?_
                      refine g_callV [_] dL_ends_339 mc_L_73 mi_X4_place se_X4_place (q_place hlt w50 c_163) (w50.k (by first | rfl | assumption)) rfl rfl (Nat.le_of_ble_eq_true rfl) (am_rm hR (by decide)) (fun _ _ z => z) (fun v hx hq hE => ?_)
                      obtain ⟨rfl, rfl⟩ := hq
                      refine g_iconst (v := (-1)) dL_ends_342 (by decide) ?_
                      rw [plc_no (show u3 G2 13 0 4 (G2 13 0 4 + Γ 2 j 8) 0 j 0 = 0 from (u3_n (by omega)).trans gst)]
                      refine g_icmp_ne 350 dL_ends_343 (by decide) (fun z => absurd rfl z) (fun c_343 => ?_)
                      refine g_iconst (v := 1) dL_ends_346 (by decide) ?_
                      refine g_goto 351 dL_ends_347 (by decide) ?_
                      refine g_istore dL_ends_351 (by decide) rfl ?_
                      refine g_iinc dL_ends_353 rfl (nI_i1 _) (by decide) rfl ?_
                      refine g_goto 158 dL_ends_356 (by decide) ?_
                      refine g_ls [(11, .int (nI (j + 1))), (10, .int 1), (9, .int (nn + 1)), (8, .int i), (7, .ref (L6 13 8)), (6, .ref (L6 13 7)), (5, .ref (L6 13 6)), (4, .ref (L6 13 5)), (3, .ref (L6 13 4)), (0, .ref (L6 5 0)), (1, .ref (L6 13 0)), (2, .ref (L6 13 1))] ⟨rfl, rfl, rfl, rfl, rfl, rfl, rfl, rfl, rfl, rfl, rfl, rfl, trivial⟩ ?_
                      refine ih2 (j + 1) _ _ _ (by omega) (by omega) w50 (fun c a b z => (u3_n (by omega)).trans (hG2 c a b z)) ?_ ?_
                      · rw [u3_s, h4, Int32.add_assoc]
                        rfl
                      · rw [hnn]
                        show _ = sp_sum (fun d => if Γ 2 d 2 - eT Γ d ≤ 0 then 0 else 1) j + (if Γ 2 j 2 - eT Γ j ≤ 0 then 0 else 1)
                        rw [if_neg c_223]
                    · skip
                      refine g_aload_n dL_ends_326 rfl ?_
                      refine g_iload dL_ends_327 rfl ?_
                      refine g_iconst (v := nI 0) dL_ends_329 (by decide) ?_
                      refine g_callV [_, _] dL_ends_330 mc_L_48 mi_X4_ofDistrict se_X4_ofDistrict (q_of_0 hlt w50 c_163) (w50.k (by first | rfl | assumption)) rfl rfl (Nat.le_of_ble_eq_true rfl) (am_rm hR (by decide)) (fun _ _ z => z) (fun v hx hq hE => ?_)
                      obtain ⟨rfl, rfl⟩ := hq
                      rw [show u3 G2 13 0 4 (G2 13 0 4 + Γ 2 j 8) 2 j 3 = eW Γ j - eT Γ j from (u3_n (by omega)).trans gwa]
                      refine g_if_ne 350 dL_ends_333 (by decide) (fun z => absurd (ef4 c_323) z) (fun c_333 => ?_)
                      refine g_aload_n dL_ends_336 rfl ?_
                      refine g_iload dL_ends_337 rfl ?_
                      refine g_callV [_] dL_ends_339 mc_L_73 mi_X4_place se_X4_place (q_place hlt w50 c_163) (w50.k (by first | rfl | assumption)) rfl rfl (Nat.le_of_ble_eq_true rfl) (am_rm hR (by decide)) (fun _ _ z => z) (fun v hx hq hE => ?_)
                      obtain ⟨rfl, rfl⟩ := hq
                      refine g_iconst (v := (-1)) dL_ends_342 (by decide) ?_
                      rw [plc_no (show u3 G2 13 0 4 (G2 13 0 4 + Γ 2 j 8) 0 j 0 = 0 from (u3_n (by omega)).trans gst)]
                      refine g_icmp_ne 350 dL_ends_343 (by decide) (fun z => absurd rfl z) (fun c_343 => ?_)
                      refine g_iconst (v := 1) dL_ends_346 (by decide) ?_
                      refine g_goto 351 dL_ends_347 (by decide) ?_
                      refine g_istore dL_ends_351 (by decide) rfl ?_
                      refine g_iinc dL_ends_353 rfl (nI_i1 _) (by decide) rfl ?_
                      refine g_goto 158 dL_ends_356 (by decide) ?_
                      refine g_ls [(11, .int (nI (j + 1))), (10, .int 1), (9, .int (nn + 1)), (8, .int i), (7, .ref (L6 13 8)), (6, .ref (L6 13 7)), (5, .ref (L6 13 6)), (4, .ref (L6 13 5)), (3, .ref (L6 13 4)), (0, .ref (L6 5 0)), (1, .ref (L6 13 0)), (2, .ref (L6 13 1))] ⟨rfl, rfl, rfl, rfl, rfl, rfl, rfl, rfl, rfl, rfl, rfl, rfl, trivial⟩ ?_
                      refine ih2 (j + 1) _ _ _ (by omega) (by omega) w50 (fun c a b z => (u3_n (by omega)).trans (hG2 c a b z)) ?_ ?_
                      · rw [u3_s, h4, Int32.add_assoc]
                        rfl
                      · rw [hnn]
                        show _ = sp_sum (fun d => if Γ 2 d 2 - eT Γ d ≤ 0 then 0 else 1) j + (if Γ 2 j 2 - eT Γ j ≤ 0 then 0 else 1)
                        rw [if_neg c_223]
                  · skip
                    refine g_aload_n dL_ends_302 rfl ?_
                    refine g_iload dL_ends_303 rfl ?_
                    refine g_iconst (v := nI 0) dL_ends_305 (by decide) ?_
                    refine g_callV [_, _] dL_ends_306 mc_L_48 mi_X4_ofDistrict se_X4_ofDistrict (q_of_0 hlt w50 c_163) (w50.k (by first | rfl | assumption)) rfl rfl (Nat.le_of_ble_eq_true rfl) (am_rm hR (by decide)) (fun _ _ z => z) (fun v hx hq hE => ?_)
                    obtain ⟨rfl, rfl⟩ := hq
                    refine g_iload dL_ends_309 rfl ?_
                    refine g_iadd dL_ends_311 ?_
                    refine g_aload_n dL_ends_312 rfl ?_
                    refine g_iconst (v := nI 2) dL_ends_313 (by decide) ?_
                    refine g_iload dL_ends_314 rfl ?_
                    refine g_imul dL_ends_316 ?_
                    rw [pk_mul]
                    refine v_ald w50 dL_ends_317 (by first | rfl | assumption) (by first | assumption | omega | (show _ < 8; omega) | (show _ < 24; omega) | (show _ < 5; omega) | (show _ < 16; omega) | (show _ < 9; omega)) ?_
                    rw [show u3 G2 13 0 4 (G2 13 0 4 + Γ 2 j 8) 2 j 3 = eW Γ j - eT Γ j from (u3_n (by omega)).trans gwa, show u3 G2 13 0 4 (G2 13 0 4 + Γ 2 j 8) 13 1 (2 * j) = Γ 2 j 1 from (u3_n (by omega)).trans gt0]
                    refine g_icmp_ne 350 dL_ends_318 (by decide) (fun z => absurd (by rw [Int32.sub_add_cancel]; exact ef3 c_299) z) (fun c_318 => ?_)
                    refine g_iload dL_ends_321 rfl ?_
                    refine g_if_eq 336 dL_ends_323 (by decide) (fun c_323 => ?_) (fun c_323 => ?_)
                    · skip
                      refine g_aload_n dL_ends_336 rfl ?_
                      refine g_iload dL_ends_337 rfl ?_
                      refine g_callV [_] dL_ends_339 mc_L_73 mi_X4_place se_X4_place (q_place hlt w50 c_163) (w50.k (by first | rfl | assumption)) rfl rfl (Nat.le_of_ble_eq_true rfl) (am_rm hR (by decide)) (fun _ _ z => z) (fun v hx hq hE => ?_)
                      obtain ⟨rfl, rfl⟩ := hq
                      refine g_iconst (v := (-1)) dL_ends_342 (by decide) ?_
                      rw [plc_no (show u3 G2 13 0 4 (G2 13 0 4 + Γ 2 j 8) 0 j 0 = 0 from (u3_n (by omega)).trans gst)]
                      refine g_icmp_ne 350 dL_ends_343 (by decide) (fun z => absurd rfl z) (fun c_343 => ?_)
                      refine g_iconst (v := 1) dL_ends_346 (by decide) ?_
                      refine g_goto 351 dL_ends_347 (by decide) ?_
                      refine g_istore dL_ends_351 (by decide) rfl ?_
                      refine g_iinc dL_ends_353 rfl (nI_i1 _) (by decide) rfl ?_
                      refine g_goto 158 dL_ends_356 (by decide) ?_
                      refine g_ls [(11, .int (nI (j + 1))), (10, .int 1), (9, .int (nn + 1)), (8, .int i), (7, .ref (L6 13 8)), (6, .ref (L6 13 7)), (5, .ref (L6 13 6)), (4, .ref (L6 13 5)), (3, .ref (L6 13 4)), (0, .ref (L6 5 0)), (1, .ref (L6 13 0)), (2, .ref (L6 13 1))] ⟨rfl, rfl, rfl, rfl, rfl, rfl, rfl, rfl, rfl, rfl, rfl, rfl, trivial⟩ ?_
                      refine ih2 (j + 1) _ _ _ (by omega) (by omega) w50 (fun c a b z => (u3_n (by omega)).trans (hG2 c a b z)) ?_ ?_
                      · rw [u3_s, h4, Int32.add_assoc]
                        rfl
                      · rw [hnn]
                        show _ = sp_sum (fun d => if Γ 2 d 2 - eT Γ d ≤ 0 then 0 else 1) j + (if Γ 2 j 2 - eT Γ j ≤ 0 then 0 else 1)
                        rw [if_neg c_223]
                    · skip
                      refine g_aload_n dL_ends_326 rfl ?_
                      refine g_iload dL_ends_327 rfl ?_
                      refine g_iconst (v := nI 0) dL_ends_329 (by decide) ?_
                      refine g_callV [_, _] dL_ends_330 mc_L_48 mi_X4_ofDistrict se_X4_ofDistrict (q_of_0 hlt w50 c_163) (w50.k (by first | rfl | assumption)) rfl rfl (Nat.le_of_ble_eq_true rfl) (am_rm hR (by decide)) (fun _ _ z => z) (fun v hx hq hE => ?_)
                      obtain ⟨rfl, rfl⟩ := hq
                      rw [show u3 G2 13 0 4 (G2 13 0 4 + Γ 2 j 8) 2 j 3 = eW Γ j - eT Γ j from (u3_n (by omega)).trans gwa]
                      refine g_if_ne 350 dL_ends_333 (by decide) (fun z => absurd (ef4 c_323) z) (fun c_333 => ?_)
                      refine g_aload_n dL_ends_336 rfl ?_
                      refine g_iload dL_ends_337 rfl ?_
                      refine g_callV [_] dL_ends_339 mc_L_73 mi_X4_place se_X4_place (q_place hlt w50 c_163) (w50.k (by first | rfl | assumption)) rfl rfl (Nat.le_of_ble_eq_true rfl) (am_rm hR (by decide)) (fun _ _ z => z) (fun v hx hq hE => ?_)
                      obtain ⟨rfl, rfl⟩ := hq
                      refine g_iconst (v := (-1)) dL_ends_342 (by decide) ?_
                      rw [plc_no (show u3 G2 13 0 4 (G2 13 0 4 + Γ 2 j 8) 0 j 0 = 0 from (u3_n (by omega)).trans gst)]
                      refine g_icmp_ne 350 dL_ends_343 (by decide) (fun z => absurd rfl z) (fun c_343 => ?_)
                      refine g_iconst (v := 1) dL_ends_346 (by decide) ?_
                      refine g_goto 351 dL_ends_347 (by decide) ?_
                      refine g_istore dL_ends_351 (by decide) rfl ?_
                      refine g_iinc dL_ends_353 rfl (nI_i1 _) (by decide) rfl ?_
                      refine g_goto 158 dL_ends_356 (by decide) ?_
                      refine g_ls [(11, .int (nI (j + 1))), (10, .int 1), (9, .int (nn + 1)), (8, .int i), (7, .ref (L6 13 8)), (6, .ref (L6 13 7)), (5, .ref (L6 13 6)), (4, .ref (L6 13 5)), (3, .ref (L6 13 4)), (0, .ref (L6 5 0)), (1, .ref (L6 13 0)), (2, .ref (L6 13 1))] ⟨rfl, rfl, rfl, rfl, rfl, rfl, rfl, rfl, rfl, rfl, rfl, rfl, trivial⟩ ?_
                      refine ih2 (j + 1) _ _ _ (by omega) (by omega) w50 (fun c a b z => (u3_n (by omega)).trans (hG2 c a b z)) ?_ ?_
                      · rw [u3_s, h4, Int32.add_assoc]
                        rfl
                      · rw [hnn]
                        show _ = sp_sum (fun d => if Γ 2 d 2 - eT Γ d ≤ 0 then 0 else 1) j + (if Γ 2 j 2 - eT Γ j ≤ 0 then 0 else 1)
                        rw [if_neg c_223]
          refine g_ls [(11, .int (nI 0)), (10, .int 1), (9, .int 0), (8, .int i), (7, .ref (L6 13 8)), (6, .ref (L6 13 7)), (5, .ref (L6 13 6)), (4, .ref (L6 13 5)), (3, .ref (L6 13 4)), (0, .ref (L6 5 0)), (1, .ref (L6 13 0)), (2, .ref (L6 13 1))] ⟨rfl, rfl, rfl, rfl, rfl, rfl, rfl, rfl, rfl, rfl, rfl, rfl, trivial⟩ ?_
          exact lp_158 (n + 1) 0 0 _ _ (by omega) (by omega) w28 (fun _ _ _ _ => rfl) (by rw [u3_n (by omega), u3_n (by omega), e1_13, hGz 13 0 4 (by omega), la4]; exact (Int32.add_zero _).symm) rfl
        · skip
          have hold : i = -70008 ∧ Γ1 = G := by
            rcases c2 with ⟨-, e1, e2⟩ | ⟨e0, -⟩
            · exact ⟨e1, e2⟩
            · rw [h05, c_122] at e0; exact absurd e0 (by decide)
          refine g_iload dL_ends_125 rfl ?_
          refine g_ldc dL_ends_127 cn_L_59 ?_
          refine g_icmp_ne 136 dL_ends_129 (by decide) (fun z => absurd hold.1 z) (fun c_129 => ?_)
          refine g_iconst (v := 1) dL_ends_132 (by decide) ?_
          refine g_goto 137 dL_ends_133 (by decide) ?_
          rw [hQ]
          refine g_iret dL_ends_137 rfl rfl (by decide) (by decide) ?_
          exact ⟨rfl, n, p, A, B, ord1, L6, Γ1, w26.drop (by decide), c1, by rw [hold.2]; exact laG, h3, lk6, fun q => by rw [hold.2]; exact hGz 15 0 q (by omega)⟩
      · skip
        refine g_aload_n dL_ends_40 rfl ?_
        refine g_iload dL_ends_41 rfl ?_
        refine g_aload_n dL_ends_43 rfl ?_
        refine g_iload dL_ends_44 rfl ?_
        refine g_iconst (v := nI 0) dL_ends_46 (by decide) ?_
        refine g_callV [_, _] dL_ends_47 mc_L_48 mi_X4_ofDistrict se_X4_ofDistrict (q_of_0 hlt w' c_37) (w'.k (by first | rfl | assumption)) rfl rfl (Nat.le_of_ble_eq_true rfl) (am_rm hR (by decide)) (fun _ _ z => z) (fun v hx hq hE => ?_)
        obtain ⟨rfl, rfl⟩ := hq
        refine v_ast w' dL_ends_50 (by first | rfl | assumption) (by first | assumption | omega | (show _ < 8; omega) | (show _ < 24; omega) | (show _ < 5; omega) | (show _ < 16; omega) | (show _ < 9; omega)) (fun h29 w29 => ?_)
        refine g_aload dL_ends_51 rfl ?_
        refine g_iload dL_ends_53 rfl ?_
        refine g_aload_n dL_ends_55 rfl ?_
        refine g_iload dL_ends_56 rfl ?_
        refine g_iconst (v := nI 3) dL_ends_58 (by decide) ?_
        refine g_callV [_, _] dL_ends_59 mc_L_48 mi_X4_ofDistrict se_X4_ofDistrict (q_of_3 hlt w29 c_37) (w29.k (by first | rfl | assumption)) rfl rfl (Nat.le_of_ble_eq_true rfl) (am_rm hR (by decide)) (fun _ _ z => z) (fun v hx hq hE => ?_)
        obtain ⟨rfl, rfl⟩ := hq
        rw [u3_n (by omega)]
        refine v_ast w29 dL_ends_62 (by first | rfl | assumption) (by first | assumption | omega | (show _ < 8; omega) | (show _ < 24; omega) | (show _ < 5; omega) | (show _ < 16; omega) | (show _ < 9; omega)) (fun h30 w30 => ?_)
        refine g_aload dL_ends_63 rfl ?_
        refine g_iload dL_ends_65 rfl ?_
        refine g_aload_n dL_ends_67 rfl ?_
        refine g_iload dL_ends_68 rfl ?_
        refine g_bipush (v := nI 6) dL_ends_70 (by decide) ?_
        refine g_callV [_, _] dL_ends_72 mc_L_48 mi_X4_ofDistrict se_X4_ofDistrict (q_of_6 hlt w30 c_37) (w30.k (by first | rfl | assumption)) rfl rfl (Nat.le_of_ble_eq_true rfl) (am_rm hR (by decide)) (fun _ _ z => z) (fun v hx hq hE => ?_)
        obtain ⟨rfl, rfl⟩ := hq
        rw [u3_n (by omega), u3_n (by omega)]
        refine v_ast w30 dL_ends_75 (by first | rfl | assumption) (by first | assumption | omega | (show _ < 8; omega) | (show _ < 24; omega) | (show _ < 5; omega) | (show _ < 16; omega) | (show _ < 9; omega)) (fun h31 w31 => ?_)
        refine g_aload dL_ends_76 rfl ?_
        refine g_iload dL_ends_78 rfl ?_
        refine g_aload_n dL_ends_80 rfl ?_
        refine g_iload dL_ends_81 rfl ?_
        refine g_bipush (v := nI 7) dL_ends_83 (by decide) ?_
        refine g_callV [_, _] dL_ends_85 mc_L_48 mi_X4_ofDistrict se_X4_ofDistrict (q_of_7 hlt w31 c_37) (w31.k (by first | rfl | assumption)) rfl rfl (Nat.le_of_ble_eq_true rfl) (am_rm hR (by decide)) (fun _ _ z => z) (fun v hx hq hE => ?_)
        obtain ⟨rfl, rfl⟩ := hq
        rw [u3_n (by omega), u3_n (by omega), u3_n (by omega)]
        refine v_ast w31 dL_ends_88 (by first | rfl | assumption) (by first | assumption | omega | (show _ < 8; omega) | (show _ < 24; omega) | (show _ < 5; omega) | (show _ < 16; omega) | (show _ < 9; omega)) (fun h32 w32 => ?_)
        refine g_aload dL_ends_89 rfl ?_
        refine g_iload dL_ends_91 rfl ?_
        refine g_aload_n dL_ends_93 rfl ?_
        refine g_iload dL_ends_94 rfl ?_
        refine g_bipush (v := nI 8) dL_ends_96 (by decide) ?_
        refine g_callV [_, _] dL_ends_98 mc_L_48 mi_X4_ofDistrict se_X4_ofDistrict (q_of_8 hlt w32 c_37) (w32.k (by first | rfl | assumption)) rfl rfl (Nat.le_of_ble_eq_true rfl) (am_rm hR (by decide)) (fun _ _ z => z) (fun v hx hq hE => ?_)
        obtain ⟨rfl, rfl⟩ := hq
        rw [u3_n (by omega), u3_n (by omega), u3_n (by omega), u3_n (by omega)]
        refine v_ast w32 dL_ends_101 (by first | rfl | assumption) (by first | assumption | omega | (show _ < 8; omega) | (show _ < 24; omega) | (show _ < 5; omega) | (show _ < 16; omega) | (show _ < 9; omega)) (fun h33 w33 => ?_)
        refine g_iinc dL_ends_102 rfl (nI_i1 _) (by decide) rfl ?_
        refine g_goto 32 dL_ends_105 (by decide) ?_
        refine g_ls [(8, .int (nI (j + 1))), (7, .ref (L5 13 8)), (6, .ref (L5 13 7)), (5, .ref (L5 13 6)), (4, .ref (L5 13 5)), (3, .ref (L5 13 4)), (0, .ref (L5 5 0)), (1, .ref (L5 13 0)), (2, .ref (L5 13 1))] ⟨rfl, rfl, rfl, rfl, rfl, rfl, rfl, rfl, rfl, trivial⟩ ?_
        refine ih (j + 1) _ _ (by omega) (by omega) w33 (fun c a b z => ?_) (fun d hd => ?_)
        · rw [u3_n (by omega), u3_n (by omega), u3_n (by omega), u3_n (by omega), u3_n (by omega)]
          exact hG c a b z
        · have e2 : ∀ b, G 2 j b = Γ 2 j b := fun b => (hG 2 j b (by omega)).trans (hz 2 j b (by omega))
          by_cases e : d = j
          · rw [e]
            refine ⟨?_, ?_, ?_, ?_, ?_⟩
            · rw [u3_n (by omega), u3_n (by omega), u3_n (by omega), u3_n (by omega), u3_s]; exact e2 _
            · rw [u3_n (by omega), u3_n (by omega), u3_n (by omega), u3_s]; exact e2 _
            · rw [u3_n (by omega), u3_n (by omega), u3_s]; exact e2 _
            · rw [u3_n (by omega), u3_s]; exact e2 _
            · rw [u3_s]; exact e2 _
          · have q := hM d (by omega)
            refine ⟨?_, ?_, ?_, ?_, ?_⟩ <;> rw [u3_n (by omega), u3_n (by omega), u3_n (by omega), u3_n (by omega), u3_n (by omega)]
            · exact q.1
            · exact q.2.1
            · exact q.2.2.1
            · exact q.2.2.2.1
            · exact q.2.2.2.2
  refine g_ls [(8, .int (nI 0)), (7, .ref (L5 13 8)), (6, .ref (L5 13 7)), (5, .ref (L5 13 6)), (4, .ref (L5 13 5)), (3, .ref (L5 13 4)), (0, .ref (L5 5 0)), (1, .ref (L5 13 0)), (2, .ref (L5 13 1))] ⟨rfl, rfl, rfl, rfl, rfl, rfl, rfl, rfl, rfl, trivial⟩ ?_
  exact lp_32 (n + 1) 0 _ _ (by omega) (by omega) w5 (fun _ _ _ _ => rfl) (fun d hd => absurd hd (Nat.not_lt_zero _))
