set_option maxRecDepth 100000 in
set_option maxHeartbeats 4000000 in
theorem c_closes {l : Launch} (hlt : l.stackTraces = false) {N n p : Nat} {ord : List Nat} {L : Nat → Nat → Nat} {Γ : Nat → Nat → Nat → Int32} {h : am_H} (w : VW N n p ord L Γ 4 h) {T : Nat} {A B : Nat → Nat} (hc : CI T n p A B ord Γ) (la : LT n p Γ) (h3 : 3 ≤ n ∧ 3 ≤ p) : am_Con l yL_closes (.code yL_closes cL_closes 6 (some .boolean)) 30 8 800 [.ref (L 5 0), .ref (L 13 0), .ref (L 13 2)] h (fun v h' => v = some (.int 1) ∧ SS (T + 1) N L Γ h') (fun _ _ => False) := by
  refine am_body hlt (by decide +kernel) (Nat.le_of_ble_eq_true rfl) (fun k hl hR h0 hno => ?_)
  subst hl
  obtain ⟨Qf, hQ⟩ : ∃ Qf, Qf = am_Q k 8 800 (fun v h' => v = some (.int 1) ∧ SS (T + 1) N L Γ h') (fun _ _ => False) := ⟨_, rfl⟩
  rw [← hQ]
  obtain ⟨la0, la1, la2, la3, la4, lad, lap, lan, lapn⟩ := id la
  have hn8 := w.w0.1
  have hp24 := w.w0.2.1
  refine g_aload_n dL_closes_0 rfl ?_
  refine g_callV [] dL_closes_1 mc_L_63 mi_X4_round se_X4_round (q_round hlt w) (w.k (by first | rfl | assumption)) rfl rfl (Nat.le_of_ble_eq_true rfl) (am_rm hR (by decide)) (fun _ _ z => z) (fun v hx hq hE => ?_)
  obtain ⟨rfl, rfl⟩ := hq
  refine g_istore_n dL_closes_4 (by decide) rfl ?_
  refine g_aload_n dL_closes_5 rfl ?_
  refine g_iconst (v := 4) dL_closes_6 (by decide) ?_
  refine g_iconst (v := 0) dL_closes_7 (by decide) ?_
  refine g_iconst (v := 0) dL_closes_8 (by decide) ?_
  refine g_iconst (v := 0) dL_closes_9 (by decide) ?_
  refine g_callSX [_, _, _, _, _] dL_closes_10 mcw_asks (ka_close hlt w hc) rfl (Nat.le_of_ble_eq_true rfl) (am_rm hR (by decide)) (fun _ _ z => z) (fun v hx hq hE => ?_)
  obtain ⟨i, ord1, L1, Γ1, rfl, lk, w1, c1, c2, c3⟩ := hq
  rw [← lk.1, ← lk.2.2 0 (by decide), ← lk.2.2 2 (by decide)]
  have hi8 : Γ 5 0 5 = 1 → i = -70008 ∧ Γ1 = Γ := fun z => by
    rcases c3 with ⟨-, e1, e2⟩ | ⟨e1, -⟩ | ⟨e1, -⟩
    · exact ⟨e1, e2⟩
    · rw [z] at e1; exact absurd e1 (by decide)
    · rw [z] at e1; exact absurd e1 (by decide)
  have f0 : ¬ Γ 5 0 5 = 1 → Γ 5 0 5 = 0 := fun z => hc.1.2.2.1.resolve_right z
  have hi0 : ¬ Γ 5 0 5 = 1 → ¬ i = 1 → i = 0 ∧ (Γ 5 0 4).toInt < 4 ∧ Γ1 5 0 5 = 0 ∧ Γ1 5 0 4 = Γ 5 0 4 + 1 := fun z z1 => by
    rcases c3 with ⟨e1, -⟩ | ⟨-, e1, e2, e3, e4, -⟩ | ⟨-, e1, -⟩
    · exact absurd e1 z
    · exact ⟨e1, e2, e3, e4⟩
    · exact absurd e1 z1
  have hi1 : ¬ Γ 5 0 5 = 1 → i = 1 → CLO n ord1 Γ Γ1 := fun z z1 => by
    rcases c3 with ⟨e1, -⟩ | ⟨-, e1, -⟩ | ⟨-, -, e1⟩
    · exact absurd e1 z
    · rw [z1] at e1; exact absurd e1 (by decide)
    · exact e1
  have f9 : ¬ Γ 5 0 5 = 1 → ∀ d, d < n → Γ1 2 d 9 = Γ 2 d 9 + (if i = 1 then Γ1 2 d 8 * prc Γ1 d else 0) := fun z d hd => by
    rcases c3 with ⟨e1, -⟩ | ⟨-, e1, -, -, -, e2⟩ | ⟨-, e1, e2⟩
    · exact absurd e1 z
    · rw [e1, if_neg (by decide), Int32.add_zero]
      exact e2 d
    · rw [if_pos e1]
      exact e2.2.2.2 d hd
  refine g_istore dL_closes_13 (by decide) rfl ?_
  refine g_aload_n dL_closes_15 rfl ?_
  refine g_iconst (v := nI 3) dL_closes_16 (by decide) ?_
  refine v_ald w1 dL_closes_17 (by first | rfl | assumption) (by first | assumption | omega | (show _ < 8; omega) | (show _ < 24; omega) | (show _ < 5; omega) | (show _ < 16; omega) | (show _ < 9; omega)) ?_
  rw [c2 13 0 3 (by omega), la3]
  refine g_iconst (v := 1) dL_closes_18 (by decide) ?_
  refine g_icmp_ne 35 dL_closes_19 (by decide) (fun c_19 => ?_) (fun c_19 => ?_)
  · skip
    refine g_aload_n dL_closes_35 rfl ?_
    refine g_iconst (v := nI 3) dL_closes_36 (by decide) ?_
    refine g_iload dL_closes_37 rfl ?_
    refine v_ast w1 dL_closes_39 (by first | rfl | assumption) (by first | assumption | omega | (show _ < 8; omega) | (show _ < 24; omega) | (show _ < 5; omega) | (show _ < 16; omega) | (show _ < 9; omega)) (fun h2 w2 => ?_)
    refine g_iconst (v := nI 0) dL_closes_40 (by decide) ?_
    refine g_istore dL_closes_41 (by decide) rfl ?_
    have lp_43 : ∀ (f : Nat) (j : Nat) (G : Nat → Nat → Nat → Int32) (h' : am_H), j ≤ n → n - j < f → VW N n p ord1 L1 G 4 h' → (∀ c a b, ¬ (c = 13 ∧ a = 2) → G c a b = u3 Γ1 13 0 3 i c a b) → (∀ x, G 13 2 x = if x % 2 = 0 ∧ x / 2 < j then Γ1 13 2 x + (if i = 1 then Γ1 2 (x / 2) 8 * prc Γ1 (x / 2) else 0) else Γ1 13 2 x) → am_G k RL yL_closes.name cL_closes 6 (some .boolean) 8 800 Qf 43 [(5, .int (nI j)), (4, .int i), (3, .int (if Γ 5 0 5 = 0 then Γ 5 0 4 else -1)), (0, .ref (L1 5 0)), (1, .ref (L1 13 0)), (2, .ref (L1 13 2))] [] h' := by
      intro f
      induction f with
      | zero => intro j G h' hj hf w' hG hM; omega
      | succ f ih =>
        intro j G h' hj hf w' hG hM
        have g0 : G 13 0 0 = nI n := (hG 13 0 0 (by omega)).trans ((u3_n (by omega)).trans ((c2 13 0 0 (by omega)).trans la0))
        have e8 : G 2 j 8 = Γ1 2 j 8 := (hG 2 j 8 (by omega)).trans (u3_n (by omega))
        have ep : prc G j = prc Γ1 j := by
          unfold prc
          rw [hG 0 j 0 (by omega), hG 0 j 1 (by omega), u3_n (by omega), u3_n (by omega)]
        refine g_iload dL_closes_43 rfl ?_
        refine g_aload_n dL_closes_45 rfl ?_
        refine g_iconst (v := nI 0) dL_closes_46 (by decide) ?_
        refine v_ald w' dL_closes_47 (by first | rfl | assumption) (by first | assumption | omega | (show _ < 8; omega) | (show _ < 24; omega) | (show _ < 5; omega) | (show _ < 16; omega) | (show _ < 9; omega)) ?_
        rw [g0]
        refine gN_ge 91 dL_closes_48 (by decide) (by omega) (by omega) (fun c_48 => ?_) (fun c_48 => ?_)
        · skip
          have ej : j = n := by omega
          rw [ej] at hM
          have g5 : ∀ a b, G 5 a b = Γ1 5 a b := fun a b => (hG 5 a b (by omega)).trans (u3_n (by omega))
          have hla : LT n p G := by
            have e13 : ∀ a b, ¬ a = 2 → ¬ (a = 0 ∧ b = 3) → G 13 a b = Γ 13 a b := fun a b z1 z2 => (hG 13 a b (by omega)).trans ((u3_n (by omega)).trans (c2 13 a b (by omega)))
            have e5 : ∀ b, b = 3 ∨ b = 8 → G 5 0 b = Γ 5 0 b := fun b z => (g5 0 b).trans (c2 5 0 b (by omega))
            have e2 : ∀ d b, b = 1 ∨ b = 2 ∨ b = 10 → G 2 d b = Γ 2 d b := fun d b z => (hG 2 d b (by omega)).trans ((u3_n (by omega)).trans (c2 2 d b (by omega)))
            refine ⟨g0, (e13 0 1 (by omega) (by omega)).trans la1, ?_, ?_, ?_, fun d hd => ?_, fun q hq => ?_, fun d hd => ?_, fun q hq => (e13 3 q (by omega) (by omega)).trans (lapn q hq)⟩
            · rw [e13 0 2 (by omega) (by omega), e5 3 (by omega)]; exact la2
            · rw [hG 13 0 3 (by omega), u3_s, g5]
              by_cases z : i = 1
              · rw [z]; exact (hi1 c_19 z).2.1.symm
              · have := hi0 c_19 z
                rw [this.1, this.2.2.1]
            · rw [e13 0 4 (by omega) (by omega), e5 8 (by omega)]; exact la4
            · obtain ⟨d1, d2, d3, d4⟩ := lad d hd
              rw [e13 1 _ (by omega) (by omega), e13 1 _ (by omega) (by omega), e2 d 1 (by omega), e2 d 2 (by omega), e2 d 10 (by omega)]
              refine ⟨d1, d2, ?_, ?_⟩
              · rw [hM, if_pos ⟨by omega, by omega⟩, show 2 * d / 2 = d by omega, c2 13 2 _ (by omega), d3, hG 2 d 9 (by omega), u3_n (by omega)]
                exact (f9 c_19 d hd).symm
              · rw [hM, if_neg (by omega), c2 13 2 _ (by omega)]
                exact d4
            · rw [e13 3 q (by omega) (by omega), hG 4 q 3 (by omega), u3_n (by omega), c2 4 q 3 (by omega)]
              exact lap q hq
            · rw [hM, if_neg (by omega), hM, if_neg (by omega), c2 13 2 _ (by omega), c2 13 2 _ (by omega)]
              exact lan d hd
          have hcg : CI (T + 1) n p A B ord1 G := c1.congr (fun c a b z => (hG c a b (fun y => z (by unfold irr; omega))).trans (u3_n (fun y => z (by unfold irr; omega))))
          have e15 : ∀ q, G 15 0 q = Γ 15 0 q := fun q => (hG 15 0 q (by omega)).trans ((u3_n (by omega)).trans (c2 15 0 q (by omega)))
          refine g_iload dL_closes_91 rfl ?_
          refine g_iconst (v := 1) dL_closes_93 (by decide) ?_
          refine g_icmp_ne 108 dL_closes_94 (by decide) (fun c_94 => ?_) (fun c_94 => ?_)
          · skip
            refine g_aload_n dL_closes_108 rfl ?_
            refine g_callV [] dL_closes_109 mc_L_63 mi_X4_round se_X4_round (q_round hlt w') (w'.k (by first | rfl | assumption)) rfl rfl (Nat.le_of_ble_eq_true rfl) (am_rm hR (by decide)) (fun _ _ z => z) (fun v hx hq hE => ?_)
            obtain ⟨rfl, rfl⟩ := hq
            refine g_iload_n dL_closes_112 rfl ?_
            refine g_iconst (v := 1) dL_closes_113 (by decide) ?_
            refine g_iadd dL_closes_114 ?_
            refine g_icmp_ne 141 dL_closes_115 (by decide) (fun z => absurd (by rw [if_pos (show G 5 0 5 = 0 by rw [g5]; exact (hi0 c_19 c_94).2.2.1), if_pos (f0 c_19), g5]; exact (hi0 c_19 c_94).2.2.2) z) (fun c_115 => ?_)
            refine g_iload_n dL_closes_118 rfl ?_
            refine g_iconst (v := 4) dL_closes_119 (by decide) ?_
            refine g_icmp_ge 141 dL_closes_120 (by decide) (fun z => absurd z (fun q => by have h4 := (hi0 c_19 c_94).2.1; rw [if_pos (f0 c_19)] at q; have := Int32.le_iff_toInt_le.mp q; have e4 : (4 : Int32).toInt = 4 := (by decide); omega)) (fun c_120 => ?_)
            refine g_iload dL_closes_123 rfl ?_
            refine g_if_eq 137 dL_closes_125 (by decide) (fun c_125 => ?_) (fun c_125 => ?_)
            · skip
              refine g_iconst (v := 1) dL_closes_137 (by decide) ?_
              refine g_goto 142 dL_closes_138 (by decide) ?_
              rw [hQ]
              refine g_iret dL_closes_142 rfl rfl (by decide) (by decide) ?_
              exact ⟨rfl, n, p, A, B, ord1, L1, G, w', hcg, hla, h3, lk, e15⟩
            · skip
              refine g_aload_n dL_closes_128 rfl ?_
              refine g_aload_n dL_closes_129 rfl ?_
              refine g_iconst (v := 1) dL_closes_130 (by decide) ?_
              have hclo := hi1 c_19 (by
                by_cases z : i = 1
                · exact z
                · exact absurd (hi0 c_19 z).1 c_125)
              have hfre : FRE ord1 G := ⟨by rw [g5, hclo.2.1]; decide, fun q hq => by rw [hG 2 _ 7 (by omega), u3_n (by omega), hG 0 _ 2 (by omega), u3_n (by omega)]; exact hclo.2.2.1 q hq⟩
              refine g_callS [_, _, _] dL_closes_131 mc_L_82 ms_L_isMost (c_isMost_1 hlt w' hcg (by decide) g0 hfre) rfl (Nat.le_of_ble_eq_true rfl) (am_rm hR (by decide)) (fun _ _ z => z) (fun v hx hq hE => ?_)
              obtain ⟨rfl, w23⟩ := hq
              refine g_if_eq 141 dL_closes_134 (by decide) (fun z => absurd z (by decide)) (fun _ => ?_)
              refine g_iconst (v := 1) dL_closes_137 (by decide) ?_
              refine g_goto 142 dL_closes_138 (by decide) ?_
              rw [hQ]
              refine g_iret dL_closes_142 rfl rfl (by decide) (by decide) ?_
              exact ⟨rfl, n, p, A, B, ord1, L1, G, w23, hcg, hla, h3, lk, e15⟩
          · skip
            refine g_aload_n dL_closes_97 rfl ?_
            refine g_callV [] dL_closes_98 mc_L_63 mi_X4_round se_X4_round (q_round hlt w') (w'.k (by first | rfl | assumption)) rfl rfl (Nat.le_of_ble_eq_true rfl) (am_rm hR (by decide)) (fun _ _ z => z) (fun v hx hq hE => ?_)
            obtain ⟨rfl, rfl⟩ := hq
            refine g_iconst (v := (-1)) dL_closes_101 (by decide) ?_
            refine g_icmp_ne 141 dL_closes_102 (by decide) (fun z => absurd (if_neg (by rw [g5, (hi1 c_19 c_94).2.1]; decide)) z) (fun c_102 => ?_)
            refine g_goto 123 dL_closes_105 (by decide) ?_
            refine g_iload dL_closes_123 rfl ?_
            refine g_if_eq 137 dL_closes_125 (by decide) (fun c_125 => ?_) (fun c_125 => ?_)
            · skip
              refine g_iconst (v := 1) dL_closes_137 (by decide) ?_
              refine g_goto 142 dL_closes_138 (by decide) ?_
              rw [hQ]
              refine g_iret dL_closes_142 rfl rfl (by decide) (by decide) ?_
              exact ⟨rfl, n, p, A, B, ord1, L1, G, w', hcg, hla, h3, lk, e15⟩
            · skip
              refine g_aload_n dL_closes_128 rfl ?_
              refine g_aload_n dL_closes_129 rfl ?_
              refine g_iconst (v := 1) dL_closes_130 (by decide) ?_
              have hclo := hi1 c_19 (by
                by_cases z : i = 1
                · exact z
                · exact absurd (hi0 c_19 z).1 c_125)
              have hfre : FRE ord1 G := ⟨by rw [g5, hclo.2.1]; decide, fun q hq => by rw [hG 2 _ 7 (by omega), u3_n (by omega), hG 0 _ 2 (by omega), u3_n (by omega)]; exact hclo.2.2.1 q hq⟩
              refine g_callS [_, _, _] dL_closes_131 mc_L_82 ms_L_isMost (c_isMost_1 hlt w' hcg (by decide) g0 hfre) rfl (Nat.le_of_ble_eq_true rfl) (am_rm hR (by decide)) (fun _ _ z => z) (fun v hx hq hE => ?_)
              obtain ⟨rfl, w24⟩ := hq
              refine g_if_eq 141 dL_closes_134 (by decide) (fun z => absurd z (by decide)) (fun _ => ?_)
              refine g_iconst (v := 1) dL_closes_137 (by decide) ?_
              refine g_goto 142 dL_closes_138 (by decide) ?_
              rw [hQ]
              refine g_iret dL_closes_142 rfl rfl (by decide) (by decide) ?_
              exact ⟨rfl, n, p, A, B, ord1, L1, G, w24, hcg, hla, h3, lk, e15⟩
        · skip
          refine g_aload_n dL_closes_51 rfl ?_
          refine g_iconst (v := nI 2) dL_closes_52 (by decide) ?_
          refine g_iload dL_closes_53 rfl ?_
          refine g_imul dL_closes_55 ?_
          rw [pk_mul]
          refine g_dup2 dL_closes_56 rfl rfl ?_
          refine v_ald w' dL_closes_57 (by first | rfl | assumption) (by first | assumption | omega | (show _ < 8; omega) | (show _ < 24; omega) | (show _ < 5; omega) | (show _ < 16; omega) | (show _ < 9; omega)) ?_
          refine g_iload dL_closes_58 rfl ?_
          refine g_iconst (v := 1) dL_closes_60 (by decide) ?_
          refine g_icmp_ne 82 dL_closes_61 (by decide) (fun c_61 => ?_) (fun c_61 => ?_)
          · skip
            refine g_iconst (v := 0) dL_closes_82 (by decide) ?_
            refine g_iadd dL_closes_83 ?_
            refine v_ast w' dL_closes_84 (by first | rfl | assumption) (by first | assumption | omega | (show _ < 8; omega) | (show _ < 24; omega) | (show _ < 5; omega) | (show _ < 16; omega) | (show _ < 9; omega)) (fun h25 w25 => ?_)
            refine g_iinc dL_closes_85 rfl (nI_i1 _) (by decide) rfl ?_
            refine g_goto 43 dL_closes_88 (by decide) ?_
            refine g_ls [(5, .int (nI (j + 1))), (4, .int i), (3, .int (if Γ 5 0 5 = 0 then Γ 5 0 4 else -1)), (0, .ref (L1 5 0)), (1, .ref (L1 13 0)), (2, .ref (L1 13 2))] ⟨rfl, rfl, rfl, rfl, rfl, rfl, trivial⟩ ?_
            refine ih (j + 1) _ _ (by omega) (by omega) w25 (fun c a b z => (u3_n (by omega)).trans (hG c a b z)) (fun x => ?_)
            by_cases e : x = 2 * j
            · rw [e, u3_s, if_pos ⟨by omega, by omega⟩, show 2 * j / 2 = j by omega, hM, if_neg (by omega)]
              rw [if_neg c_61]
            · rw [u3_n (by omega), hM]
              by_cases e2 : x % 2 = 0 ∧ x / 2 < j
              · rw [if_pos e2, if_pos (show x % 2 = 0 ∧ x / 2 < j + 1 from ⟨e2.1, by omega⟩)]
              · rw [if_neg e2, if_neg (show ¬ (x % 2 = 0 ∧ x / 2 < j + 1) by omega)]
          · skip
            refine g_aload_n dL_closes_64 rfl ?_
            refine g_iload dL_closes_65 rfl ?_
            refine g_iconst (v := nI 3) dL_closes_67 (by decide) ?_
            refine g_callV [_, _] dL_closes_68 mc_L_48 mi_X4_ofDistrict se_X4_ofDistrict (q_of_3 hlt w' c_48) (w'.k (by first | rfl | assumption)) rfl rfl (Nat.le_of_ble_eq_true rfl) (am_rm hR (by decide)) (fun _ _ z => z) (fun v hx hq hE => ?_)
            obtain ⟨rfl, rfl⟩ := hq
            refine g_aload_n dL_closes_71 rfl ?_
            refine g_iload dL_closes_72 rfl ?_
            refine g_iconst (v := nI 1) dL_closes_74 (by decide) ?_
            refine g_callV [_, _] dL_closes_75 mc_L_48 mi_X4_ofDistrict se_X4_ofDistrict (q_of_1 hlt w' c_48) (w'.k (by first | rfl | assumption)) rfl rfl (Nat.le_of_ble_eq_true rfl) (am_rm hR (by decide)) (fun _ _ z => z) (fun v hx hq hE => ?_)
            obtain ⟨rfl, rfl⟩ := hq
            refine g_imul dL_closes_78 ?_
            refine g_goto 83 dL_closes_79 (by decide) ?_
            refine g_iadd dL_closes_83 ?_
            refine v_ast w' dL_closes_84 (by first | rfl | assumption) (by first | assumption | omega | (show _ < 8; omega) | (show _ < 24; omega) | (show _ < 5; omega) | (show _ < 16; omega) | (show _ < 9; omega)) (fun h26 w26 => ?_)
            refine g_iinc dL_closes_85 rfl (nI_i1 _) (by decide) rfl ?_
            refine g_goto 43 dL_closes_88 (by decide) ?_
            refine g_ls [(5, .int (nI (j + 1))), (4, .int i), (3, .int (if Γ 5 0 5 = 0 then Γ 5 0 4 else -1)), (0, .ref (L1 5 0)), (1, .ref (L1 13 0)), (2, .ref (L1 13 2))] ⟨rfl, rfl, rfl, rfl, rfl, rfl, trivial⟩ ?_
            refine ih (j + 1) _ _ (by omega) (by omega) w26 (fun c a b z => (u3_n (by omega)).trans (hG c a b z)) (fun x => ?_)
            by_cases e : x = 2 * j
            · rw [e, u3_s, if_pos ⟨by omega, by omega⟩, show 2 * j / 2 = j by omega, hM, if_neg (by omega)]
              rw [if_pos c_61, e8, ep]
            · rw [u3_n (by omega), hM]
              by_cases e2 : x % 2 = 0 ∧ x / 2 < j
              · rw [if_pos e2, if_pos (show x % 2 = 0 ∧ x / 2 < j + 1 from ⟨e2.1, by omega⟩)]
              · rw [if_neg e2, if_neg (show ¬ (x % 2 = 0 ∧ x / 2 < j + 1) by omega)]
    refine g_ls [(5, .int (nI 0)), (4, .int i), (3, .int (if Γ 5 0 5 = 0 then Γ 5 0 4 else -1)), (0, .ref (L1 5 0)), (1, .ref (L1 13 0)), (2, .ref (L1 13 2))] ⟨rfl, rfl, rfl, rfl, rfl, rfl, trivial⟩ ?_
    exact lp_43 (n + 1) 0 _ _ (by omega) (by omega) w2 (fun _ _ _ _ => rfl) (fun x => by rw [if_neg (by omega), u3_n (by omega)])
  · skip
    refine g_iload dL_closes_22 rfl ?_
    refine g_ldc dL_closes_24 cn_L_59 ?_
    refine g_icmp_ne 33 dL_closes_26 (by decide) (fun z => absurd (hi8 c_19).1 z) (fun c_26 => ?_)
    refine g_iconst (v := 1) dL_closes_29 (by decide) ?_
    refine g_goto 34 dL_closes_30 (by decide) ?_
    rw [hQ]
    refine g_iret dL_closes_34 rfl rfl (by decide) (by decide) ?_
    exact ⟨rfl, n, p, A, B, ord1, L1, Γ1, w1, c1, la.cg (fun c i j z => by rw [(hi8 c_19).2]), h3, lk, fun j => by rw [(hi8 c_19).2]⟩
