set_option maxRecDepth 100000 in
set_option maxHeartbeats 4000000 in
theorem c_bursts {l : Launch} (hlt : l.stackTraces = false) {N n p : Nat} {ord : List Nat} {L : Nat → Nat → Nat} {Γ : Nat → Nat → Nat → Int32} {h : am_H} (w : VW N n p ord L Γ 4 h) {T : Nat} {A B : Nat → Nat} (hc : CI T n p A B ord Γ) (la : LT n p Γ) (h3 : 3 ≤ n ∧ 3 ≤ p) {x : Nat} (hx : x < 2 ^ 31) : am_Con l yL_bursts (.code yL_bursts cL_bursts 13 (some .boolean)) 30 2 14 [.ref (L 5 0), .int (nI x), .ref (L 13 0), .ref (L 13 2), .ref (L 13 3)] h (fun v h' => v = some (.int 1) ∧ SS (T + 1) N L Γ h') (fun _ _ => False) := by
  refine am_body hlt (by decide +kernel) (Nat.le_of_ble_eq_true rfl) (fun k hl hR h0 hno => ?_)
  subst hl
  obtain ⟨Qf, hQ⟩ : ∃ Qf, Qf = am_Q k 2 14 (fun v h' => v = some (.int 1) ∧ SS (T + 1) N L Γ h') (fun _ _ => False) := ⟨_, rfl⟩
  rw [← hQ]
  obtain ⟨la0, la1, la2, la3, la4, lad, lap, lan, lapn⟩ := id la
  have hn8 := w.w0.1
  have hp24 := w.w0.2.1
  refine g_iload_n dL_bursts_0 rfl ?_
  refine g_aload_n dL_bursts_1 rfl ?_
  refine g_iconst (v := nI 1) dL_bursts_2 (by decide) ?_
  refine v_ald w dL_bursts_3 (by first | rfl | assumption) (by first | assumption | omega | (show _ < 8; omega) | (show _ < 24; omega) | (show _ < 5; omega) | (show _ < 16; omega) | (show _ < 9; omega)) ?_
  rw [la1]
  refine g_irem dL_bursts_4 (nz_I (by omega) (by omega)) ?_
  rw [pk_rem hx (by omega) (by omega)]
  obtain ⟨kd, ek⟩ : ∃ kd, kd = x % p := ⟨_, rfl⟩
  have hk : kd < p := by rw [ek]; exact Nat.mod_lt _ (by omega)
  rw [← ek]
  refine g_istore dL_bursts_5 (by decide) rfl ?_
  refine g_bipush (v := 8) dL_bursts_7 (by decide) ?_
  refine v_newT w (by decide) dL_bursts_9 (K := 8) rfl rfl (by rw [hR]; exact Nat.le_of_ble_eq_true rfl) (by rw [hR]; exact Nat.le_of_ble_eq_true rfl) (fun L1 h1 hL w1 => ?_)
  rw [← hL 5 0 (by decide), ← hL 13 0 (by decide), ← hL 13 2 (by decide), ← hL 13 3 (by decide)]
  have lk : LK 4 L L1 := ⟨hL 5 0 (by decide), hL 15 0 (by decide), fun i hi => hL 13 i (by omega)⟩
  obtain ⟨Γ0, eΓ0⟩ : ∃ Γ0, Γ0 = zt Γ 4 := ⟨_, rfl⟩
  have hz : ∀ c a b, ¬ (c = 13 ∧ a = 4) → Γ0 c a b = Γ c a b := fun c a b z => by rw [eΓ0]; exact zt_n z
  rw [← eΓ0] at w1
  skip
  refine g_astore dL_bursts_11 (by decide) rfl ?_
  refine g_iconst (v := 0) dL_bursts_13 (by decide) ?_
  refine g_istore dL_bursts_14 (by decide) rfl ?_
  have lp_16 : ∀ (f : Nat) (j : Nat) (G : Nat → Nat → Nat → Int32) (h' : am_H), j ≤ n → n - j < f → VW N n p ord L1 G 5 h' → (∀ c a b, ¬ (c = 13 ∧ a = 4) → G c a b = Γ0 c a b) → (∀ d, d < j → G 13 4 d = Γ 2 d 8) → am_G k RL yL_bursts.name cL_bursts 13 (some .boolean) 1 8 Qf 16 [(7, .int (nI j)), (6, .ref (L1 13 4)), (5, .int (nI kd)), (0, .ref (L1 5 0)), (2, .ref (L1 13 0)), (3, .ref (L1 13 2)), (4, .ref (L1 13 3))] [] h' := by
    intro f
    induction f with
    | zero => intro j G h' hj hf w' hG hM; omega
    | succ f ih =>
      intro j G h' hj hf w' hG hM
      refine g_iload dL_bursts_16 rfl ?_
      refine g_aload_n dL_bursts_18 rfl ?_
      refine g_iconst (v := nI 0) dL_bursts_19 (by decide) ?_
      refine v_ald w' dL_bursts_20 (by first | rfl | assumption) (by first | assumption | omega | (show _ < 8; omega) | (show _ < 24; omega) | (show _ < 5; omega) | (show _ < 16; omega) | (show _ < 9; omega)) ?_
      rw [(hG 13 0 0 (by omega)).trans ((hz 13 0 0 (by omega)).trans la0)]
      refine gN_ge 42 dL_bursts_21 (by decide) (by omega) (by omega) (fun c_21 => ?_) (fun c_21 => ?_)
      · skip
        have ej : j = n := by omega
        rw [ej] at hM
        have hGz : ∀ c a b, ¬ (c = 13 ∧ a = 4) → G c a b = Γ c a b := fun c a b z => (hG c a b z).trans (hz c a b z)
        have hcG : CI T n p A B ord G := hc.congr (fun c a b z => hGz c a b (fun y => z (by unfold irr; omega)))
        have laG : LT n p G := la.cg (fun c a b z => hGz c a b (by omega))
        have hM0 := hM
        refine g_aload_n dL_bursts_42 rfl ?_
        refine g_iconst (v := 5) dL_bursts_43 (by decide) ?_
        refine g_iload dL_bursts_44 rfl ?_
        refine g_iconst (v := 0) dL_bursts_46 (by decide) ?_
        refine g_iconst (v := 0) dL_bursts_47 (by decide) ?_
        refine g_callSX [_, _, _, _, _] dL_bursts_48 mcw_asks (ka_burst hlt w' hcG hk) rfl (Nat.le_of_ble_eq_true rfl) (am_rm hR (by decide)) (fun _ _ z => z) (fun v hx hq hE => ?_)
        obtain ⟨i, Γ1, rfl, w22, c1, c2⟩ := hq
        have b43 : Γ1 13 3 kd = G 13 3 kd := by
          rcases c2 with ⟨-, -, e⟩ | ⟨-, -, e⟩
          · rw [e]
          · exact e.1 13 3 kd (by omega)
        have hb3 : Γ1 13 3 kd = Γ 4 kd 3 := by rw [b43, hGz 13 3 kd (by omega), lap kd hk]
        have h43 : G 4 kd 3 = Γ 4 kd 3 := hGz 4 kd 3 (by omega)
        have h01 : Γ 4 kd 3 = 0 ∨ Γ 4 kd 3 = 1 := (hc.2.2.2.1 kd hk).2.2.2.2.2
        refine g_istore dL_bursts_51 (by decide) rfl ?_
        refine g_aload dL_bursts_53 rfl ?_
        refine g_iload dL_bursts_55 rfl ?_
        refine v_ald w22 dL_bursts_57 (by first | rfl | assumption) (by first | assumption | omega | (show _ < 8; omega) | (show _ < 24; omega) | (show _ < 5; omega) | (show _ < 16; omega) | (show _ < 9; omega)) ?_
        rw [hb3]
        refine g_iconst (v := 1) dL_bursts_58 (by decide) ?_
        refine g_icmp_ne 75 dL_bursts_59 (by decide) (fun c_59 => ?_) (fun c_59 => ?_)
        · skip
          obtain ⟨hbi, hbur⟩ : i = sp_sum (fun d => G 2 d 8 - Γ1 2 d 8) n ∧ BUR n kd G Γ1 := by
            rcases c2 with ⟨e0, -⟩ | ⟨-, e1, e2⟩
            · exact absurd (h43.trans (h01.resolve_right c_59)) e0
            · exact ⟨e1, e2⟩
          refine g_aload dL_bursts_75 rfl ?_
          refine g_iload dL_bursts_77 rfl ?_
          refine g_iconst (v := 1) dL_bursts_79 (by decide) ?_
          refine v_ast w22 dL_bursts_80 (by first | rfl | assumption) (by first | assumption | omega | (show _ < 8; omega) | (show _ < 24; omega) | (show _ < 5; omega) | (show _ < 16; omega) | (show _ < 9; omega)) (fun h23 w23 => ?_)
          refine g_iconst (v := 0) dL_bursts_81 (by decide) ?_
          refine g_istore dL_bursts_82 (by decide) rfl ?_
          refine g_iconst (v := 1) dL_bursts_84 (by decide) ?_
          refine g_istore dL_bursts_85 (by decide) rfl ?_
          refine g_iconst (v := 0) dL_bursts_87 (by decide) ?_
          refine g_istore dL_bursts_88 (by decide) rfl ?_
          have lp_90 : ∀ (f : Nat) (j : Nat) (nn : Int32) (G2 : Nat → Nat → Nat → Int32) (h' : am_H), j ≤ n → n - j < f → VW N n p ord L1 G2 5 h' → (∀ c a b, ¬ (c = 13 ∧ a = 2) → G2 c a b = u3 Γ1 13 3 kd 1 c a b) → (∀ x, G2 13 2 x = if x % 2 = 1 ∧ x / 2 < j then Γ 13 2 x + (if Γ 2 (x / 2) 8 - Γ1 2 (x / 2) 8 = 0 then 0 else (Γ 2 (x / 2) 8 - Γ1 2 (x / 2) 8) * prc Γ1 (x / 2) + (Γ 2 (x / 2) 8 - Γ1 2 (x / 2) 8) * prc Γ1 (x / 2) / 10) else Γ 13 2 x) → nn = sp_sum (fun d => Γ 2 d 8 - Γ1 2 d 8) j → am_G k RL yL_bursts.name cL_bursts 13 (some .boolean) 2 14 Qf 90 [(10, .int (nI j)), (9, .int 1), (8, .int nn), (7, .int i), (6, .ref (L1 13 4)), (5, .int (nI kd)), (0, .ref (L1 5 0)), (2, .ref (L1 13 0)), (3, .ref (L1 13 2)), (4, .ref (L1 13 3))] [] h' := by
            intro f
            induction f with
            | zero => intro j nn G2 h' hj hf w' hG2 hM hnn; omega
            | succ f ih2 =>
              intro j nn G2 h' hj hf w' hG2 hM hnn
              have g0 : G2 13 0 0 = nI n := (hG2 13 0 0 (by omega)).trans ((u3_n (by omega)).trans ((hbur.1 13 0 0 (by omega)).trans ((hGz 13 0 0 (by omega)).trans la0)))
              have g8 : G2 2 j 8 = Γ1 2 j 8 := (hG2 2 j 8 (by omega)).trans (u3_n (by omega))
              have gp : prc G2 j = prc Γ1 j := by
                unfold prc
                rw [hG2 0 j 0 (by omega), hG2 0 j 1 (by omega), u3_n (by omega), u3_n (by omega)]
              refine g_iload dL_bursts_90 rfl ?_
              refine g_aload_n dL_bursts_92 rfl ?_
              refine g_iconst (v := nI 0) dL_bursts_93 (by decide) ?_
              refine v_ald w' dL_bursts_94 (by first | rfl | assumption) (by first | assumption | omega | (show _ < 8; omega) | (show _ < 24; omega) | (show _ < 5; omega) | (show _ < 16; omega) | (show _ < 9; omega)) ?_
              rw [g0]
              refine gN_ge 183 dL_bursts_95 (by decide) (by omega) (by omega) (fun c_95 => ?_) (fun c_95 => ?_)
              · skip
                have ej : j = n := by omega
                rw [ej] at hM
                have hGn : ∀ c a b, ¬ (c = 13 ∧ (a = 2 ∨ (a = 3 ∧ b = kd))) → G2 c a b = Γ1 c a b := fun c a b z => (hG2 c a b (by omega)).trans (u3_n (by omega))
                have hcg : CI (T + 1) n p A B ord G2 := c1.congr (fun c a b z => hGn c a b (fun y => z (by unfold irr; omega)))
                have e2 : ∀ d b, ¬ (b = 7 ∨ b = 8 ∨ b = 10) → G2 2 d b = Γ 2 d b := fun d b z => (hGn 2 d b (by omega)).trans ((hbur.1 2 d b (by omega)).trans (hGz 2 d b (by omega)))
                have e5 : ∀ a b, G2 5 a b = Γ 5 a b := fun a b => (hGn 5 a b (by omega)).trans ((hbur.1 5 a b (by omega)).trans (hGz 5 a b (by omega)))
                have e13 : ∀ a b, ¬ a = 2 → ¬ (a = 3 ∧ b = kd) → ¬ a = 4 → G2 13 a b = Γ 13 a b := fun a b z1 z2 z3 => (hGn 13 a b (by omega)).trans ((hbur.1 13 a b (by omega)).trans (hGz 13 a b (by omega)))
                have hla : LT n p G2 := by
                  refine ⟨g0, (e13 0 1 (by omega) (by omega) (by omega)).trans la1, ?_, ?_, ?_, fun d hd => ?_, fun q hq => ?_, fun d hd => ?_, fun q hq => ?_⟩
                  · rw [e13 0 2 (by omega) (by omega) (by omega), e5]; exact la2
                  · rw [e13 0 3 (by omega) (by omega) (by omega), e5]; exact la3
                  · rw [e13 0 4 (by omega) (by omega) (by omega), e5]; exact la4
                  · obtain ⟨d1, d2, d3, d4⟩ := lad d hd
                    rw [e13 1 _ (by omega) (by omega) (by omega), e13 1 _ (by omega) (by omega) (by omega), e2 d 1 (by omega), e2 d 2 (by omega), e2 d 9 (by omega)]
                    refine ⟨d1, d2, ?_, ?_⟩
                    · rw [hM, if_neg (by omega)]
                      exact d3
                    · rw [hM, if_pos ⟨by omega, by omega⟩, show (2 * d + 1) / 2 = d by omega, d4, hGn 2 d 10 (by omega), (hbur.2.2 d hd).2, hGz 2 d 10 (by omega), hGz 2 d 8 (by omega)]
                  · by_cases e : q = kd
                    · rw [e, hG2 13 3 kd (by omega), u3_s, hGn 4 kd 3 (by omega)]
                      exact hbur.2.1.symm
                    · rw [e13 3 q (by omega) (by omega) (by omega), hGn 4 q 3 (by omega), hbur.1 4 q 3 (by omega), hGz 4 q 3 (by omega)]
                      exact lap q hq
                  · rw [hM, if_neg (by omega), hM, if_neg (by omega)]
                    exact lan d hd
                  · rw [e13 3 q (by omega) (by omega) (by omega)]
                    exact lapn q hq
                refine g_iload dL_bursts_183 rfl ?_
                refine g_if_eq 208 dL_bursts_185 (by decide) (fun z => absurd z (by decide)) (fun _ => ?_)
                have hsum : i = sp_sum (fun d => Γ 2 d 8 - Γ1 2 d 8) n := by
                  rw [hbi]
                  exact sp_sum_congr n fun d _ => by rw [hGz 2 d 8 (by omega)]
                have enn : nn = i := by rw [hnn, ej, hsum]
                refine g_iload dL_bursts_188 rfl ?_
                refine g_iload dL_bursts_190 rfl ?_
                refine g_icmp_ne 208 dL_bursts_192 (by decide) (fun z => absurd enn.symm z) (fun c_192 => ?_)
                refine g_aload_n dL_bursts_195 rfl ?_
                refine g_aload_n dL_bursts_196 rfl ?_
                refine g_iconst (v := 0) dL_bursts_197 (by decide) ?_
                refine g_callS [_, _, _] dL_bursts_198 mc_L_82 ms_L_isMost (c_isMost_0 hlt w' hcg (by decide) g0) rfl (Nat.le_of_ble_eq_true rfl) (am_rm hR (by decide)) (fun _ _ z => z) (fun v hx hq hE => ?_)
                obtain ⟨rfl, w44⟩ := hq
                refine g_if_eq 208 dL_bursts_201 (by decide) (fun z => absurd z (by decide)) (fun _ => ?_)
                refine g_iconst (v := 1) dL_bursts_204 (by decide) ?_
                refine g_goto 209 dL_bursts_205 (by decide) ?_
                rw [hQ]
                refine g_iret dL_bursts_209 rfl rfl (by decide) (by decide) ?_
                exact ⟨rfl, n, p, A, B, ord, L1, G2, w44.drop (by decide), hcg, hla, h3, lk, fun q => (hGn 15 0 q (by omega)).trans ((hbur.1 15 0 q (by omega)).trans (hGz 15 0 q (by omega)))⟩
              · skip
                refine g_iload dL_bursts_98 rfl ?_
                refine g_if_eq 183 dL_bursts_100 (by decide) (fun z => absurd z (by decide)) (fun _ => ?_)
                have gw : G2 13 4 j = Γ 2 j 8 := (hG2 13 4 j (by omega)).trans ((u3_n (by omega)).trans ((hbur.1 13 4 j (by omega)).trans (hM0 j c_95)))
                refine g_aload dL_bursts_103 rfl ?_
                refine g_iload dL_bursts_105 rfl ?_
                refine v_ald w' dL_bursts_107 (by first | rfl | assumption) (by first | assumption | omega | (show _ < 8; omega) | (show _ < 24; omega) | (show _ < 5; omega) | (show _ < 16; omega) | (show _ < 9; omega)) ?_
                refine g_aload_n dL_bursts_108 rfl ?_
                refine g_iload dL_bursts_109 rfl ?_
                refine g_iconst (v := nI 3) dL_bursts_111 (by decide) ?_
                refine g_callV [_, _] dL_bursts_112 mc_L_48 mi_X4_ofDistrict se_X4_ofDistrict (q_of_3 hlt w' c_95) (w'.k (by first | rfl | assumption)) rfl rfl (Nat.le_of_ble_eq_true rfl) (am_rm hR (by decide)) (fun _ _ z => z) (fun v hx hq hE => ?_)
                obtain ⟨rfl, rfl⟩ := hq
                refine g_isub dL_bursts_115 ?_
                rw [gw, g8]
                obtain ⟨le, ele⟩ : ∃ le, le = Γ 2 j 8 - Γ1 2 j 8 := ⟨_, rfl⟩
                rw [← ele]
                refine g_istore dL_bursts_116 (by decide) rfl ?_
                refine g_iload dL_bursts_118 rfl ?_
                refine g_aload_n dL_bursts_120 rfl ?_
                refine g_iload dL_bursts_121 rfl ?_
                refine g_iconst (v := nI 1) dL_bursts_123 (by decide) ?_
                refine g_callV [_, _] dL_bursts_124 mc_L_48 mi_X4_ofDistrict se_X4_ofDistrict (q_of_1 hlt w' c_95) (w'.k (by first | rfl | assumption)) rfl rfl (Nat.le_of_ble_eq_true rfl) (am_rm hR (by decide)) (fun _ _ z => z) (fun v hx hq hE => ?_)
                obtain ⟨rfl, rfl⟩ := hq
                refine g_imul dL_bursts_127 ?_
                rw [gp]
                refine g_istore dL_bursts_128 (by decide) rfl ?_
                refine g_iload dL_bursts_130 rfl ?_
                refine g_if_lt 139 dL_bursts_132 (by decide) (fun z => absurd z (fun q => by have h1 := (hbur.2.2 j c_95).1.1; rw [hGz 2 j 8 (by omega), ← ele] at h1; have := Int32.lt_iff_toInt_lt.mp q; rw [tI_0] at this; omega)) (fun c_132 => ?_)
                refine g_iconst (v := 1) dL_bursts_135 (by decide) ?_
                refine g_goto 140 dL_bursts_136 (by decide) ?_
                refine g_istore dL_bursts_140 (by decide) rfl ?_
                refine g_iload dL_bursts_142 rfl ?_
                refine g_iload dL_bursts_144 rfl ?_
                refine g_iadd dL_bursts_146 ?_
                refine g_istore dL_bursts_147 (by decide) rfl ?_
                refine g_aload_n dL_bursts_149 rfl ?_
                refine g_iconst (v := nI 2) dL_bursts_150 (by decide) ?_
                refine g_iload dL_bursts_151 rfl ?_
                refine g_imul dL_bursts_153 ?_
                rw [pk_mul]
                refine g_iconst (v := nI 1) dL_bursts_154 (by decide) ?_
                refine g_iadd dL_bursts_155 ?_
                rw [nI_add]
                refine g_dup2 dL_bursts_156 rfl rfl ?_
                refine v_ald w' dL_bursts_157 (by first | rfl | assumption) (by first | assumption | omega | (show _ < 8; omega) | (show _ < 24; omega) | (show _ < 5; omega) | (show _ < 16; omega) | (show _ < 9; omega)) ?_
                refine g_iload dL_bursts_158 rfl ?_
                refine g_if_ne 167 dL_bursts_160 (by decide) (fun c_160 => ?_) (fun c_160 => ?_)
                · skip
                  refine g_iload dL_bursts_167 rfl ?_
                  refine g_iload dL_bursts_169 rfl ?_
                  refine g_bipush (v := 10) dL_bursts_171 (by decide) ?_
                  refine g_idiv dL_bursts_173 (by decide) ?_
                  refine g_iadd dL_bursts_174 ?_
                  refine g_iadd dL_bursts_175 ?_
                  refine v_ast w' dL_bursts_176 (by first | rfl | assumption) (by first | assumption | omega | (show _ < 8; omega) | (show _ < 24; omega) | (show _ < 5; omega) | (show _ < 16; omega) | (show _ < 9; omega)) (fun h45 w45 => ?_)
                  refine g_iinc dL_bursts_177 rfl (nI_i1 _) (by decide) rfl ?_
                  refine g_goto 90 dL_bursts_180 (by decide) ?_
                  refine g_ls [(10, .int (nI (j + 1))), (9, .int 1), (8, .int (nn + le)), (7, .int i), (6, .ref (L1 13 4)), (5, .int (nI kd)), (0, .ref (L1 5 0)), (2, .ref (L1 13 0)), (3, .ref (L1 13 2)), (4, .ref (L1 13 3))] ⟨rfl, rfl, rfl, rfl, rfl, rfl, rfl, rfl, rfl, rfl, trivial⟩ ?_
                  refine ih2 (j + 1) _ _ _ (by omega) (by omega) w45 (fun c a b z => (u3_n (by omega)).trans (hG2 c a b z)) (fun x => ?_) (by rw [hnn, ele]; rfl)
                  by_cases e : x = 2 * j + 1
                  · rw [e, u3_s, if_pos ⟨by omega, by omega⟩, show (2 * j + 1) / 2 = j by omega, hM, if_neg (by omega), ← ele]
                    rw [if_neg c_160]
                  · rw [u3_n (by omega), hM]
                    by_cases e2 : x % 2 = 1 ∧ x / 2 < j
                    · rw [if_pos e2, if_pos (show x % 2 = 1 ∧ x / 2 < j + 1 from ⟨e2.1, by omega⟩)]
                    · rw [if_neg e2, if_neg (show ¬ (x % 2 = 1 ∧ x / 2 < j + 1) by omega)]
                · skip
                  refine g_iconst (v := 0) dL_bursts_163 (by decide) ?_
                  refine g_goto 175 dL_bursts_164 (by decide) ?_
                  refine g_iadd dL_bursts_175 ?_
                  refine v_ast w' dL_bursts_176 (by first | rfl | assumption) (by first | assumption | omega | (show _ < 8; omega) | (show _ < 24; omega) | (show _ < 5; omega) | (show _ < 16; omega) | (show _ < 9; omega)) (fun h46 w46 => ?_)
                  refine g_iinc dL_bursts_177 rfl (nI_i1 _) (by decide) rfl ?_
                  refine g_goto 90 dL_bursts_180 (by decide) ?_
                  refine g_ls [(10, .int (nI (j + 1))), (9, .int 1), (8, .int (nn + le)), (7, .int i), (6, .ref (L1 13 4)), (5, .int (nI kd)), (0, .ref (L1 5 0)), (2, .ref (L1 13 0)), (3, .ref (L1 13 2)), (4, .ref (L1 13 3))] ⟨rfl, rfl, rfl, rfl, rfl, rfl, rfl, rfl, rfl, rfl, trivial⟩ ?_
                  refine ih2 (j + 1) _ _ _ (by omega) (by omega) w46 (fun c a b z => (u3_n (by omega)).trans (hG2 c a b z)) (fun x => ?_) (by rw [hnn, ele]; rfl)
                  by_cases e : x = 2 * j + 1
                  · rw [e, u3_s, if_pos ⟨by omega, by omega⟩, show (2 * j + 1) / 2 = j by omega, hM, if_neg (by omega), ← ele]
                    rw [if_pos c_160]
                  · rw [u3_n (by omega), hM]
                    by_cases e2 : x % 2 = 1 ∧ x / 2 < j
                    · rw [if_pos e2, if_pos (show x % 2 = 1 ∧ x / 2 < j + 1 from ⟨e2.1, by omega⟩)]
                    · rw [if_neg e2, if_neg (show ¬ (x % 2 = 1 ∧ x / 2 < j + 1) by omega)]
          refine g_ls [(10, .int (nI 0)), (9, .int 1), (8, .int 0), (7, .int i), (6, .ref (L1 13 4)), (5, .int (nI kd)), (0, .ref (L1 5 0)), (2, .ref (L1 13 0)), (3, .ref (L1 13 2)), (4, .ref (L1 13 3))] ⟨rfl, rfl, rfl, rfl, rfl, rfl, rfl, rfl, rfl, rfl, trivial⟩ ?_
          exact lp_90 (n + 1) 0 0 _ _ (by omega) (by omega) w23 (fun _ _ _ _ => rfl) (fun x => by rw [if_neg (by omega), u3_n (by omega), hbur.1 13 2 x (by omega), hGz 13 2 x (by omega)]) rfl
        · skip
          have hold : i = -70008 ∧ Γ1 = G := by
            rcases c2 with ⟨-, e1, e2⟩ | ⟨e0, -⟩
            · exact ⟨e1, e2⟩
            · rw [h43, c_59] at e0; exact absurd e0 (by decide)
          refine g_iload dL_bursts_62 rfl ?_
          refine g_ldc dL_bursts_64 cn_L_59 ?_
          refine g_icmp_ne 73 dL_bursts_66 (by decide) (fun z => absurd hold.1 z) (fun c_66 => ?_)
          refine g_iconst (v := 1) dL_bursts_69 (by decide) ?_
          refine g_goto 74 dL_bursts_70 (by decide) ?_
          rw [hQ]
          refine g_iret dL_bursts_74 rfl rfl (by decide) (by decide) ?_
          exact ⟨rfl, n, p, A, B, ord, L1, Γ1, w22.drop (by decide), c1, by rw [hold.2]; exact laG, h3, lk, fun q => by rw [hold.2]; exact hGz 15 0 q (by omega)⟩
      · skip
        refine g_aload dL_bursts_24 rfl ?_
        refine g_iload dL_bursts_26 rfl ?_
        refine g_aload_n dL_bursts_28 rfl ?_
        refine g_iload dL_bursts_29 rfl ?_
        refine g_iconst (v := nI 3) dL_bursts_31 (by decide) ?_
        refine g_callV [_, _] dL_bursts_32 mc_L_48 mi_X4_ofDistrict se_X4_ofDistrict (q_of_3 hlt w' c_21) (w'.k (by first | rfl | assumption)) rfl rfl (Nat.le_of_ble_eq_true rfl) (am_rm hR (by decide)) (fun _ _ z => z) (fun v hx hq hE => ?_)
        obtain ⟨rfl, rfl⟩ := hq
        refine v_ast w' dL_bursts_35 (by first | rfl | assumption) (by first | assumption | omega | (show _ < 8; omega) | (show _ < 24; omega) | (show _ < 5; omega) | (show _ < 16; omega) | (show _ < 9; omega)) (fun h24 w24 => ?_)
        refine g_iinc dL_bursts_36 rfl (nI_i1 _) (by decide) rfl ?_
        refine g_goto 16 dL_bursts_39 (by decide) ?_
        refine g_ls [(7, .int (nI (j + 1))), (6, .ref (L1 13 4)), (5, .int (nI kd)), (0, .ref (L1 5 0)), (2, .ref (L1 13 0)), (3, .ref (L1 13 2)), (4, .ref (L1 13 3))] ⟨rfl, rfl, rfl, rfl, rfl, rfl, rfl, trivial⟩ ?_
        refine ih (j + 1) _ _ (by omega) (by omega) w24 (fun c a b z => (u3_n (by omega)).trans (hG c a b z)) (fun d hd => ?_)
        by_cases e : d = j
        · rw [e, u3_s, hG 2 j 8 (by omega), hz 2 j 8 (by omega)]
        · rw [u3_n (by omega)]
          exact hM d (by omega)
  refine g_ls [(7, .int (nI 0)), (6, .ref (L1 13 4)), (5, .int (nI kd)), (0, .ref (L1 5 0)), (2, .ref (L1 13 0)), (3, .ref (L1 13 2)), (4, .ref (L1 13 3))] ⟨rfl, rfl, rfl, rfl, rfl, rfl, rfl, trivial⟩ ?_
  exact lp_16 (n + 1) 0 _ _ (by omega) (by omega) w1 (fun _ _ _ _ => rfl) (fun d hd => absurd hd (Nat.not_lt_zero _))
