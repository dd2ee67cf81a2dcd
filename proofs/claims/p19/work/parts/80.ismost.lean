set_option maxRecDepth 100000 in
set_option maxHeartbeats 4000000 in
theorem c_isMost_0 {l : Launch} (hlt : l.stackTraces = false) {N n p : Nat} {ord : List Nat} {L : Nat → Nat → Nat} {Γ : Nat → Nat → Nat → Int32} {o : Nat} {h : am_H} (w : VW N n p ord L Γ o h) {T : Nat} {A B : Nat → Nat} (hc : CI T n p A B ord Γ) (ho : 4 ≤ o) (la0 : Γ 13 0 0 = nI n) : am_Con l yL_isMost (.code yL_isMost cL_isMost 12 (some .boolean)) 22 0 0 [.ref (L 5 0), .ref (L 13 0), .int 0] h (fun v h' => v = some (.int 1) ∧ VW N n p ord L Γ o h') (fun _ _ => False) := by
  refine am_body hlt (by decide +kernel) (Nat.le_of_ble_eq_true rfl) (fun k hl hR h0 hno => ?_)
  subst hl
  obtain ⟨Qf, hQ⟩ : ∃ Qf, Qf = am_Q k 0 0 (fun v h' => v = some (.int 1) ∧ VW N n p ord L Γ o h') (fun _ _ => False) := ⟨_, rfl⟩
  rw [← hQ]
  have hn8 := w.w0.1
  have hlen := hc.2.2.2.2.1.len
  have hwc : wdm n p o 13 0 = true := decide_eq_true (by omega)
  refine g_iconst (v := nI 0) dL_isMost_0 (by decide) ?_
  refine g_istore_n dL_isMost_1 (by decide) rfl ?_
  refine g_iconst (v := 0) dL_isMost_2 (by decide) ?_
  refine g_istore dL_isMost_3 (by decide) rfl ?_
  refine g_iconst (v := 1) dL_isMost_5 (by decide) ?_
  refine g_istore dL_isMost_6 (by decide) rfl ?_
  refine g_iconst (v := 1) dL_isMost_8 (by decide) ?_
  refine g_istore dL_isMost_9 (by decide) rfl ?_
  refine g_iconst (v := nI 0) dL_isMost_11 (by decide) ?_
  refine g_istore dL_isMost_12 (by decide) rfl ?_
  have lp_14 : ∀ (f : Nat) (t m : Nat) (y s : Int32) (h' : am_H), t ≤ n → n - t < f → VW N n p ord L Γ o h' → SM n ord Γ (min t ord.length) m y s → am_G k RL yL_isMost.name cL_isMost 12 (some .boolean) 0 0 Qf 14 [(7, .int (nI t)), (6, .int s), (5, .int 1), (4, .int y), (3, .int (nI m)), (2, .int 0), (0, .ref (L 5 0)), (1, .ref (L 13 0))] [] h' := by
    intro f
    induction f with
    | zero => intro t m y s h' ht hf w' hso; omega
    | succ f ih1 =>
      intro t m y s h' ht hf w' hso
      refine g_iload dL_isMost_14 rfl ?_
      refine g_aload_n dL_isMost_16 rfl ?_
      refine g_iconst (v := nI 0) dL_isMost_17 (by decide) ?_
      refine v_ald w' dL_isMost_18 (by first | rfl | assumption) (by first | assumption | omega | (show _ < 8; omega) | (show _ < 24; omega) | (show _ < 5; omega) | (show _ < 16; omega) | (show _ < 9; omega)) ?_
      rw [la0]
      refine gN_ge 191 dL_isMost_19 (by decide) (by omega) (by omega) (fun c_19 => ?_) (fun c_19 => ?_)
      · skip
        refine g_iload dL_isMost_191 rfl ?_
        rw [hQ]
        refine g_iret dL_isMost_193 rfl rfl (by decide) (by decide) ?_
        exact ⟨rfl, w'⟩
      · skip
        refine g_iload dL_isMost_22 rfl ?_
        refine g_if_eq 191 dL_isMost_24 (by decide) (fun z => absurd z (by decide)) (fun _ => ?_)
        refine g_iconst (v := nI 0) dL_isMost_27 (by decide) ?_
        refine g_istore dL_isMost_28 (by decide) rfl ?_
        have lp_30 : ∀ (f : Nat) (j m : Nat) (y s : Int32) (h' : am_H), j ≤ n → n - j < f → VW N n p ord L Γ o h' → SM n ord Γ (if t < ord.length ∧ od ord t < j then t + 1 else min t ord.length) m y s → am_G k RL yL_isMost.name cL_isMost 12 (some .boolean) 0 0 Qf 30 [(8, .int (nI j)), (7, .int (nI t)), (6, .int s), (5, .int 1), (4, .int y), (3, .int (nI m)), (2, .int 0), (0, .ref (L 5 0)), (1, .ref (L 13 0))] [] h' := by
          intro f
          induction f with
          | zero => intro j m y s h' hj hf w' hsm; omega
          | succ f ih2 =>
            intro j m y s h' hj hf w' hsm
            refine g_iload dL_isMost_30 rfl ?_
            refine g_aload_n dL_isMost_32 rfl ?_
            refine g_iconst (v := nI 0) dL_isMost_33 (by decide) ?_
            refine v_ald w' dL_isMost_34 (by first | rfl | assumption) (by first | assumption | omega | (show _ < 8; omega) | (show _ < 24; omega) | (show _ < 5; omega) | (show _ < 16; omega) | (show _ < 9; omega)) ?_
            rw [la0]
            refine gN_ge 185 dL_isMost_35 (by decide) (by omega) (by omega) (fun c_35 => ?_) (fun c_35 => ?_)
            · skip
              refine g_iinc dL_isMost_185 rfl (nI_i1 _) (by decide) rfl ?_
              refine g_goto 14 dL_isMost_188 (by decide) ?_
              refine g_ls [(7, .int (nI (t + 1))), (6, .int s), (5, .int 1), (4, .int y), (3, .int (nI m)), (2, .int 0), (0, .ref (L 5 0)), (1, .ref (L 13 0))] ⟨rfl, rfl, rfl, rfl, rfl, rfl, rfl, rfl, trivial⟩ ?_
              refine ih1 (t + 1) m y s _ (by omega) (by omega) w' ?_
              by_cases e : t < ord.length
              · have hdn := (hc.st e).1
                rw [if_pos ⟨e, by omega⟩] at hsm
                rw [show min (t + 1) ord.length = t + 1 by omega]
                exact hsm
              · rw [if_neg (fun q => e q.1)] at hsm
                rw [show min (t + 1) ord.length = min t ord.length by omega]
                exact hsm
            · skip
              refine g_aload_n dL_isMost_38 rfl ?_
              refine g_iload dL_isMost_39 rfl ?_
              refine g_callV [_] dL_isMost_41 mc_L_73 mi_X4_place se_X4_place (q_place hlt w' c_35) (w'.k (by first | rfl | assumption)) rfl rfl (Nat.le_of_ble_eq_true rfl) (am_rm hR (by decide)) (fun _ _ z => z) (fun v hx hq hE => ?_)
              obtain ⟨rfl, rfl⟩ := hq
              refine g_iload dL_isMost_44 rfl ?_
              refine g_icmp_ne 179 dL_isMost_46 (by decide) (fun c_46 => ?_) (fun c_46 => ?_)
              · skip
                refine g_iinc dL_isMost_179 rfl (nI_i1 _) (by decide) rfl ?_
                refine g_goto 30 dL_isMost_182 (by decide) ?_
                refine g_ls [(8, .int (nI (j + 1))), (7, .int (nI t)), (6, .int s), (5, .int 1), (4, .int y), (3, .int (nI m)), (2, .int 0), (0, .ref (L 5 0)), (1, .ref (L 13 0))] ⟨rfl, rfl, rfl, rfl, rfl, rfl, rfl, rfl, rfl, trivial⟩ ?_
                refine ih2 (j + 1) m y s _ (by omega) (by omega) w' ?_
                by_cases e : t < ord.length ∧ od ord t < j
                · rw [if_pos (by omega)]
                  rw [if_pos e] at hsm
                  exact hsm
                · rw [if_neg e] at hsm
                  rw [if_neg (fun q => ?_)]
                  · exact hsm
                  · have : od ord t = j := by omega
                    rw [← this] at c_46
                    exact c_46 (plc_od hc q.1)
              · skip
                obtain ⟨htl, hod⟩ := plc_eq hc hn8 c_35 (by omega) c_46
                have hst := hc.st htl
                subst hod
                obtain ⟨hs1a, hs1b⟩ : SM n ord Γ t m y s ∧ ¬ (t < ord.length ∧ od ord t < od ord t) := ⟨by have q := hsm; rw [if_neg (by omega)] at q; rw [show min t ord.length = t by omega] at q; exact q, by omega⟩
                refine g_aload_n dL_isMost_49 rfl ?_
                refine g_iload dL_isMost_50 rfl ?_
                refine g_iconst (v := nI 3) dL_isMost_52 (by decide) ?_
                refine g_callV [_, _] dL_isMost_53 mc_L_48 mi_X4_ofDistrict se_X4_ofDistrict (q_of_3 hlt w' c_35) (w'.k (by first | rfl | assumption)) rfl rfl (Nat.le_of_ble_eq_true rfl) (am_rm hR (by decide)) (fun _ _ z => z) (fun v hx hq hE => ?_)
                obtain ⟨rfl, rfl⟩ := hq
                refine g_istore dL_isMost_56 (by decide) rfl ?_
                refine g_aload_n dL_isMost_58 rfl ?_
                refine g_iload dL_isMost_59 rfl ?_
                refine g_iconst (v := nI 2) dL_isMost_61 (by decide) ?_
                refine g_callV [_, _] dL_isMost_62 mc_L_48 mi_X4_ofDistrict se_X4_ofDistrict (q_of_2 hlt w' c_35) (w'.k (by first | rfl | assumption)) rfl rfl (Nat.le_of_ble_eq_true rfl) (am_rm hR (by decide)) (fun _ _ z => z) (fun v hx hq hE => ?_)
                obtain ⟨rfl, rfl⟩ := hq
                rw [show unt Γ (od ord t) = Γ 0 (od ord t) 2 from if_neg hst.2]
                refine g_istore dL_isMost_65 (by decide) rfl ?_
                refine g_aload_n dL_isMost_67 rfl ?_
                refine g_iconst (v := 1) dL_isMost_68 (by decide) ?_
                refine g_iload dL_isMost_69 rfl ?_
                refine g_ishl dL_isMost_71 ?_
                rw [m_sh (od ord t) (by omega)]
                refine g_callV [_] dL_isMost_72 mc_L_79 mi_X4_most se_X4_most (q_most hlt w' hc (m := 2 ^ od ord t) (Nat.pow_lt_pow_right (by decide) hst.1)) (w'.k (by first | rfl | assumption)) rfl rfl (Nat.le_of_ble_eq_true rfl) (am_rm hR (by decide)) (fun _ _ z => z) (fun v hx hq hE => ?_)
                obtain ⟨y1, rfl, w41, hm1⟩ := hq
                refine g_istore dL_isMost_75 (by decide) rfl ?_
                refine g_iload_n dL_isMost_77 rfl ?_
                refine g_iconst (v := 1) dL_isMost_78 (by decide) ?_
                refine g_iload dL_isMost_79 rfl ?_
                refine g_ishl dL_isMost_81 ?_
                refine g_ior dL_isMost_82 ?_
                rw [m_or m (Nat.lt_of_lt_of_le hs1a.1 (Nat.pow_le_pow_right (by decide) hn8)) (od ord t) (by omega)]
                refine g_istore_n dL_isMost_83 (by decide) rfl ?_
                refine g_iload dL_isMost_84 rfl ?_
                refine g_iload dL_isMost_86 rfl ?_
                refine g_iadd dL_isMost_88 ?_
                refine g_istore dL_isMost_89 (by decide) rfl ?_
                refine g_iload dL_isMost_91 rfl ?_
                refine g_if_eq 107 dL_isMost_93 (by decide) (fun c_93 => ?_) (fun c_93 => ?_)
                · skip
                  refine g_iconst (v := 0) dL_isMost_107 (by decide) ?_
                  refine g_istore dL_isMost_108 (by decide) rfl ?_
                  have hs1 : SM n ord Γ (t + 1) (m ||| 2 ^ od ord t) (y + Γ 2 (od ord t) 8) 0 := hs1a.step hc htl (Or.inl rfl)
                  refine g_iload dL_isMost_110 rfl ?_
                  refine g_if_eq 176 dL_isMost_112 (by decide) (fun z => absurd z (by decide)) (fun _ => ?_)
                  refine g_iload_n dL_isMost_115 rfl ?_
                  refine g_if_eq 143 dL_isMost_116 (by decide) (fun _ => ?_) (fun z => absurd z (by decide))
                  refine g_iload dL_isMost_143 rfl ?_
                  refine g_aload_n dL_isMost_145 rfl ?_
                  refine g_iload_n dL_isMost_146 rfl ?_
                  refine g_callV [_] dL_isMost_147 mc_L_79 mi_X4_most se_X4_most (q_most hlt w41 hc hs1.1) (w41.k (by first | rfl | assumption)) rfl rfl (Nat.le_of_ble_eq_true rfl) (am_rm hR (by decide)) (fun _ _ z => z) (fun v hx hq hE => ?_)
                  obtain ⟨y2, rfl, w42, hm2⟩ := hq
                  have hub := hm2.pre hc hn8 (t := t + 1) (by omega) (fun i hi => (hs1.2.1 _).mpr ⟨i, hi, rfl⟩)
                  refine g_icmp_gt 176 dL_isMost_150 (by decide) (fun z => absurd (Int32.le_iff_toInt_le.mpr (by rw [hs1.2.2.1]; exact hub)) (Int32.not_le.mpr z)) (fun c_150 => ?_)
                  refine g_iload_n dL_isMost_153 rfl ?_
                  refine g_if_eq 172 dL_isMost_154 (by decide) (fun _ => ?_) (fun z => absurd z (by decide))
                  refine g_iconst (v := 1) dL_isMost_172 (by decide) ?_
                  refine g_goto 177 dL_isMost_173 (by decide) ?_
                  refine g_istore dL_isMost_177 (by decide) rfl ?_
                  refine g_iinc dL_isMost_179 rfl (nI_i1 _) (by decide) rfl ?_
                  refine g_goto 30 dL_isMost_182 (by decide) ?_
                  refine g_ls [(8, .int (nI (od ord t + 1))), (7, .int (nI t)), (6, .int 0), (5, .int 1), (4, .int (y + Γ 2 (od ord t) 8)), (3, .int (nI (m ||| 2 ^ od ord t))), (2, .int 0), (0, .ref (L 5 0)), (1, .ref (L 13 0))] ⟨rfl, rfl, rfl, rfl, rfl, rfl, rfl, rfl, rfl, trivial⟩ ?_
                  refine ih2 (od ord t + 1) _ _ _ _ (by omega) (by omega) w42 ?_
                  rw [if_pos ⟨htl, Nat.lt_succ_self _⟩]
                  exact hs1
                · skip
                  refine g_iload dL_isMost_96 rfl ?_
                  refine g_iload dL_isMost_98 rfl ?_
                  refine g_icmp_ge 107 dL_isMost_100 (by decide) (fun c_100 => ?_) (fun c_100 => ?_)
                  · skip
                    refine g_iconst (v := 0) dL_isMost_107 (by decide) ?_
                    refine g_istore dL_isMost_108 (by decide) rfl ?_
                    have hs1 : SM n ord Γ (t + 1) (m ||| 2 ^ od ord t) (y + Γ 2 (od ord t) 8) 0 := hs1a.step hc htl (Or.inl rfl)
                    refine g_iload dL_isMost_110 rfl ?_
                    refine g_if_eq 176 dL_isMost_112 (by decide) (fun z => absurd z (by decide)) (fun _ => ?_)
                    refine g_iload_n dL_isMost_115 rfl ?_
                    refine g_if_eq 143 dL_isMost_116 (by decide) (fun _ => ?_) (fun z => absurd z (by decide))
                    refine g_iload dL_isMost_143 rfl ?_
                    refine g_aload_n dL_isMost_145 rfl ?_
                    refine g_iload_n dL_isMost_146 rfl ?_
                    refine g_callV [_] dL_isMost_147 mc_L_79 mi_X4_most se_X4_most (q_most hlt w41 hc hs1.1) (w41.k (by first | rfl | assumption)) rfl rfl (Nat.le_of_ble_eq_true rfl) (am_rm hR (by decide)) (fun _ _ z => z) (fun v hx hq hE => ?_)
                    obtain ⟨y2, rfl, w43, hm2⟩ := hq
                    have hub := hm2.pre hc hn8 (t := t + 1) (by omega) (fun i hi => (hs1.2.1 _).mpr ⟨i, hi, rfl⟩)
                    refine g_icmp_gt 176 dL_isMost_150 (by decide) (fun z => absurd (Int32.le_iff_toInt_le.mpr (by rw [hs1.2.2.1]; exact hub)) (Int32.not_le.mpr z)) (fun c_150 => ?_)
                    refine g_iload_n dL_isMost_153 rfl ?_
                    refine g_if_eq 172 dL_isMost_154 (by decide) (fun _ => ?_) (fun z => absurd z (by decide))
                    refine g_iconst (v := 1) dL_isMost_172 (by decide) ?_
                    refine g_goto 177 dL_isMost_173 (by decide) ?_
                    refine g_istore dL_isMost_177 (by decide) rfl ?_
                    refine g_iinc dL_isMost_179 rfl (nI_i1 _) (by decide) rfl ?_
                    refine g_goto 30 dL_isMost_182 (by decide) ?_
                    refine g_ls [(8, .int (nI (od ord t + 1))), (7, .int (nI t)), (6, .int 0), (5, .int 1), (4, .int (y + Γ 2 (od ord t) 8)), (3, .int (nI (m ||| 2 ^ od ord t))), (2, .int 0), (0, .ref (L 5 0)), (1, .ref (L 13 0))] ⟨rfl, rfl, rfl, rfl, rfl, rfl, rfl, rfl, rfl, trivial⟩ ?_
                    refine ih2 (od ord t + 1) _ _ _ _ (by omega) (by omega) w43 ?_
                    rw [if_pos ⟨htl, Nat.lt_succ_self _⟩]
                    exact hs1
                  · skip
                    refine g_iconst (v := 1) dL_isMost_103 (by decide) ?_
                    refine g_goto 108 dL_isMost_104 (by decide) ?_
                    refine g_istore dL_isMost_108 (by decide) rfl ?_
                    have hs1 : SM n ord Γ (t + 1) (m ||| 2 ^ od ord t) (y + Γ 2 (od ord t) 8) 1 := hs1a.step hc htl (Or.inr ⟨rfl, c_93, Int.not_le.mp (fun q => c_100 (Int32.le_iff_toInt_le.mpr q))⟩)
                    refine g_iload dL_isMost_110 rfl ?_
                    refine g_if_eq 176 dL_isMost_112 (by decide) (fun z => absurd z (by decide)) (fun _ => ?_)
                    refine g_iload_n dL_isMost_115 rfl ?_
                    refine g_if_eq 143 dL_isMost_116 (by decide) (fun _ => ?_) (fun z => absurd z (by decide))
                    refine g_iload dL_isMost_143 rfl ?_
                    refine g_aload_n dL_isMost_145 rfl ?_
                    refine g_iload_n dL_isMost_146 rfl ?_
                    refine g_callV [_] dL_isMost_147 mc_L_79 mi_X4_most se_X4_most (q_most hlt w41 hc hs1.1) (w41.k (by first | rfl | assumption)) rfl rfl (Nat.le_of_ble_eq_true rfl) (am_rm hR (by decide)) (fun _ _ z => z) (fun v hx hq hE => ?_)
                    obtain ⟨y2, rfl, w44, hm2⟩ := hq
                    have hub := hm2.pre hc hn8 (t := t + 1) (by omega) (fun i hi => (hs1.2.1 _).mpr ⟨i, hi, rfl⟩)
                    refine g_icmp_gt 176 dL_isMost_150 (by decide) (fun z => absurd (Int32.le_iff_toInt_le.mpr (by rw [hs1.2.2.1]; exact hub)) (Int32.not_le.mpr z)) (fun c_150 => ?_)
                    refine g_iload_n dL_isMost_153 rfl ?_
                    refine g_if_eq 172 dL_isMost_154 (by decide) (fun _ => ?_) (fun z => absurd z (by decide))
                    refine g_iconst (v := 1) dL_isMost_172 (by decide) ?_
                    refine g_goto 177 dL_isMost_173 (by decide) ?_
                    refine g_istore dL_isMost_177 (by decide) rfl ?_
                    refine g_iinc dL_isMost_179 rfl (nI_i1 _) (by decide) rfl ?_
                    refine g_goto 30 dL_isMost_182 (by decide) ?_
                    refine g_ls [(8, .int (nI (od ord t + 1))), (7, .int (nI t)), (6, .int 1), (5, .int 1), (4, .int (y + Γ 2 (od ord t) 8)), (3, .int (nI (m ||| 2 ^ od ord t))), (2, .int 0), (0, .ref (L 5 0)), (1, .ref (L 13 0))] ⟨rfl, rfl, rfl, rfl, rfl, rfl, rfl, rfl, rfl, trivial⟩ ?_
                    refine ih2 (od ord t + 1) _ _ _ _ (by omega) (by omega) w44 ?_
                    rw [if_pos ⟨htl, Nat.lt_succ_self _⟩]
                    exact hs1
        refine g_ls [(8, .int (nI 0)), (7, .int (nI t)), (6, .int s), (5, .int 1), (4, .int y), (3, .int (nI m)), (2, .int 0), (0, .ref (L 5 0)), (1, .ref (L 13 0))] ⟨rfl, rfl, rfl, rfl, rfl, rfl, rfl, rfl, rfl, trivial⟩ ?_
        exact lp_30 (n + 1) 0 m y s _ (by omega) (by omega) w' (by rw [if_neg (fun q => absurd q.2 (Nat.not_lt_zero _))]; exact hso)
  refine g_ls [(7, .int (nI 0)), (6, .int 1), (5, .int 1), (4, .int 0), (3, .int (nI 0)), (2, .int 0), (0, .ref (L 5 0)), (1, .ref (L 13 0))] ⟨rfl, rfl, rfl, rfl, rfl, rfl, rfl, rfl, trivial⟩ ?_
  exact lp_14 (n + 1) 0 0 0 1 _ (by omega) (by omega) w (by rw [Nat.zero_min]; exact SM.nil)
set_option maxRecDepth 100000 in
set_option maxHeartbeats 4000000 in
theorem c_isMost_1 {l : Launch} (hlt : l.stackTraces = false) {N n p : Nat} {ord : List Nat} {L : Nat → Nat → Nat} {Γ : Nat → Nat → Nat → Int32} {o : Nat} {h : am_H} (w : VW N n p ord L Γ o h) {T : Nat} {A B : Nat → Nat} (hc : CI T n p A B ord Γ) (ho : 4 ≤ o) (la0 : Γ 13 0 0 = nI n) (hr : FRE ord Γ) : am_Con l yL_isMost (.code yL_isMost cL_isMost 12 (some .boolean)) 22 0 0 [.ref (L 5 0), .ref (L 13 0), .int 1] h (fun v h' => v = some (.int 1) ∧ VW N n p ord L Γ o h') (fun _ _ => False) := by
  refine am_body hlt (by decide +kernel) (Nat.le_of_ble_eq_true rfl) (fun k hl hR h0 hno => ?_)
  subst hl
  obtain ⟨Qf, hQ⟩ : ∃ Qf, Qf = am_Q k 0 0 (fun v h' => v = some (.int 1) ∧ VW N n p ord L Γ o h') (fun _ _ => False) := ⟨_, rfl⟩
  rw [← hQ]
  have hn8 := w.w0.1
  have hlen := hc.2.2.2.2.1.len
  have hwc : wdm n p o 13 0 = true := decide_eq_true (by omega)
  refine g_iconst (v := nI 0) dL_isMost_0 (by decide) ?_
  refine g_istore_n dL_isMost_1 (by decide) rfl ?_
  refine g_iconst (v := 0) dL_isMost_2 (by decide) ?_
  refine g_istore dL_isMost_3 (by decide) rfl ?_
  refine g_iconst (v := 1) dL_isMost_5 (by decide) ?_
  refine g_istore dL_isMost_6 (by decide) rfl ?_
  refine g_iconst (v := 1) dL_isMost_8 (by decide) ?_
  refine g_istore dL_isMost_9 (by decide) rfl ?_
  refine g_iconst (v := nI 0) dL_isMost_11 (by decide) ?_
  refine g_istore dL_isMost_12 (by decide) rfl ?_
  have lp_14 : ∀ (f : Nat) (t m : Nat) (y s : Int32) (h' : am_H), t ≤ n → n - t < f → VW N n p ord L Γ o h' → SM n ord Γ (min t ord.length) m y s → am_G k RL yL_isMost.name cL_isMost 12 (some .boolean) 0 0 Qf 14 [(7, .int (nI t)), (6, .int s), (5, .int 1), (4, .int y), (3, .int (nI m)), (2, .int 1), (0, .ref (L 5 0)), (1, .ref (L 13 0))] [] h' := by
    intro f
    induction f with
    | zero => intro t m y s h' ht hf w' hso; omega
    | succ f ih1 =>
      intro t m y s h' ht hf w' hso
      refine g_iload dL_isMost_14 rfl ?_
      refine g_aload_n dL_isMost_16 rfl ?_
      refine g_iconst (v := nI 0) dL_isMost_17 (by decide) ?_
      refine v_ald w' dL_isMost_18 (by first | rfl | assumption) (by first | assumption | omega | (show _ < 8; omega) | (show _ < 24; omega) | (show _ < 5; omega) | (show _ < 16; omega) | (show _ < 9; omega)) ?_
      rw [la0]
      refine gN_ge 191 dL_isMost_19 (by decide) (by omega) (by omega) (fun c_19 => ?_) (fun c_19 => ?_)
      · skip
        refine g_iload dL_isMost_191 rfl ?_
        rw [hQ]
        refine g_iret dL_isMost_193 rfl rfl (by decide) (by decide) ?_
        exact ⟨rfl, w'⟩
      · skip
        refine g_iload dL_isMost_22 rfl ?_
        refine g_if_eq 191 dL_isMost_24 (by decide) (fun z => absurd z (by decide)) (fun _ => ?_)
        refine g_iconst (v := nI 0) dL_isMost_27 (by decide) ?_
        refine g_istore dL_isMost_28 (by decide) rfl ?_
        have lp_30 : ∀ (f : Nat) (j m : Nat) (y s : Int32) (h' : am_H), j ≤ n → n - j < f → VW N n p ord L Γ o h' → SM n ord Γ (if t < ord.length ∧ od ord t < j then t + 1 else min t ord.length) m y s → am_G k RL yL_isMost.name cL_isMost 12 (some .boolean) 0 0 Qf 30 [(8, .int (nI j)), (7, .int (nI t)), (6, .int s), (5, .int 1), (4, .int y), (3, .int (nI m)), (2, .int 1), (0, .ref (L 5 0)), (1, .ref (L 13 0))] [] h' := by
          intro f
          induction f with
          | zero => intro j m y s h' hj hf w' hsm; omega
          | succ f ih2 =>
            intro j m y s h' hj hf w' hsm
            refine g_iload dL_isMost_30 rfl ?_
            refine g_aload_n dL_isMost_32 rfl ?_
            refine g_iconst (v := nI 0) dL_isMost_33 (by decide) ?_
            refine v_ald w' dL_isMost_34 (by first | rfl | assumption) (by first | assumption | omega | (show _ < 8; omega) | (show _ < 24; omega) | (show _ < 5; omega) | (show _ < 16; omega) | (show _ < 9; omega)) ?_
            rw [la0]
            refine gN_ge 185 dL_isMost_35 (by decide) (by omega) (by omega) (fun c_35 => ?_) (fun c_35 => ?_)
            · skip
              refine g_iinc dL_isMost_185 rfl (nI_i1 _) (by decide) rfl ?_
              refine g_goto 14 dL_isMost_188 (by decide) ?_
              refine g_ls [(7, .int (nI (t + 1))), (6, .int s), (5, .int 1), (4, .int y), (3, .int (nI m)), (2, .int 1), (0, .ref (L 5 0)), (1, .ref (L 13 0))] ⟨rfl, rfl, rfl, rfl, rfl, rfl, rfl, rfl, trivial⟩ ?_
              refine ih1 (t + 1) m y s _ (by omega) (by omega) w' ?_
              by_cases e : t < ord.length
              · have hdn := (hc.st e).1
                rw [if_pos ⟨e, by omega⟩] at hsm
                rw [show min (t + 1) ord.length = t + 1 by omega]
                exact hsm
              · rw [if_neg (fun q => e q.1)] at hsm
                rw [show min (t + 1) ord.length = min t ord.length by omega]
                exact hsm
            · skip
              refine g_aload_n dL_isMost_38 rfl ?_
              refine g_iload dL_isMost_39 rfl ?_
              refine g_callV [_] dL_isMost_41 mc_L_73 mi_X4_place se_X4_place (q_place hlt w' c_35) (w'.k (by first | rfl | assumption)) rfl rfl (Nat.le_of_ble_eq_true rfl) (am_rm hR (by decide)) (fun _ _ z => z) (fun v hx hq hE => ?_)
              obtain ⟨rfl, rfl⟩ := hq
              refine g_iload dL_isMost_44 rfl ?_
              refine g_icmp_ne 179 dL_isMost_46 (by decide) (fun c_46 => ?_) (fun c_46 => ?_)
              · skip
                refine g_iinc dL_isMost_179 rfl (nI_i1 _) (by decide) rfl ?_
                refine g_goto 30 dL_isMost_182 (by decide) ?_
                refine g_ls [(8, .int (nI (j + 1))), (7, .int (nI t)), (6, .int s), (5, .int 1), (4, .int y), (3, .int (nI m)), (2, .int 1), (0, .ref (L 5 0)), (1, .ref (L 13 0))] ⟨rfl, rfl, rfl, rfl, rfl, rfl, rfl, rfl, rfl, trivial⟩ ?_
                refine ih2 (j + 1) m y s _ (by omega) (by omega) w' ?_
                by_cases e : t < ord.length ∧ od ord t < j
                · rw [if_pos (by omega)]
                  rw [if_pos e] at hsm
                  exact hsm
                · rw [if_neg e] at hsm
                  rw [if_neg (fun q => ?_)]
                  · exact hsm
                  · have : od ord t = j := by omega
                    rw [← this] at c_46
                    exact c_46 (plc_od hc q.1)
              · skip
                obtain ⟨htl, hod⟩ := plc_eq hc hn8 c_35 (by omega) c_46
                have hst := hc.st htl
                subst hod
                obtain ⟨hs1a, hs1b⟩ : SM n ord Γ t m y s ∧ ¬ (t < ord.length ∧ od ord t < od ord t) := ⟨by have q := hsm; rw [if_neg (by omega)] at q; rw [show min t ord.length = t by omega] at q; exact q, by omega⟩
                refine g_aload_n dL_isMost_49 rfl ?_
                refine g_iload dL_isMost_50 rfl ?_
                refine g_iconst (v := nI 3) dL_isMost_52 (by decide) ?_
                refine g_callV [_, _] dL_isMost_53 mc_L_48 mi_X4_ofDistrict se_X4_ofDistrict (q_of_3 hlt w' c_35) (w'.k (by first | rfl | assumption)) rfl rfl (Nat.le_of_ble_eq_true rfl) (am_rm hR (by decide)) (fun _ _ z => z) (fun v hx hq hE => ?_)
                obtain ⟨rfl, rfl⟩ := hq
                refine g_istore dL_isMost_56 (by decide) rfl ?_
                refine g_aload_n dL_isMost_58 rfl ?_
                refine g_iload dL_isMost_59 rfl ?_
                refine g_iconst (v := nI 2) dL_isMost_61 (by decide) ?_
                refine g_callV [_, _] dL_isMost_62 mc_L_48 mi_X4_ofDistrict se_X4_ofDistrict (q_of_2 hlt w' c_35) (w'.k (by first | rfl | assumption)) rfl rfl (Nat.le_of_ble_eq_true rfl) (am_rm hR (by decide)) (fun _ _ z => z) (fun v hx hq hE => ?_)
                obtain ⟨rfl, rfl⟩ := hq
                rw [show unt Γ (od ord t) = Γ 0 (od ord t) 2 from if_neg hst.2]
                refine g_istore dL_isMost_65 (by decide) rfl ?_
                refine g_aload_n dL_isMost_67 rfl ?_
                refine g_iconst (v := 1) dL_isMost_68 (by decide) ?_
                refine g_iload dL_isMost_69 rfl ?_
                refine g_ishl dL_isMost_71 ?_
                rw [m_sh (od ord t) (by omega)]
                refine g_callV [_] dL_isMost_72 mc_L_79 mi_X4_most se_X4_most (q_most hlt w' hc (m := 2 ^ od ord t) (Nat.pow_lt_pow_right (by decide) hst.1)) (w'.k (by first | rfl | assumption)) rfl rfl (Nat.le_of_ble_eq_true rfl) (am_rm hR (by decide)) (fun _ _ z => z) (fun v hx hq hE => ?_)
                obtain ⟨y1, rfl, w41, hm1⟩ := hq
                refine g_istore dL_isMost_75 (by decide) rfl ?_
                refine g_iload_n dL_isMost_77 rfl ?_
                refine g_iconst (v := 1) dL_isMost_78 (by decide) ?_
                refine g_iload dL_isMost_79 rfl ?_
                refine g_ishl dL_isMost_81 ?_
                refine g_ior dL_isMost_82 ?_
                rw [m_or m (Nat.lt_of_lt_of_le hs1a.1 (Nat.pow_le_pow_right (by decide) hn8)) (od ord t) (by omega)]
                refine g_istore_n dL_isMost_83 (by decide) rfl ?_
                refine g_iload dL_isMost_84 rfl ?_
                refine g_iload dL_isMost_86 rfl ?_
                refine g_iadd dL_isMost_88 ?_
                refine g_istore dL_isMost_89 (by decide) rfl ?_
                refine g_iload dL_isMost_91 rfl ?_
                refine g_if_eq 107 dL_isMost_93 (by decide) (fun c_93 => ?_) (fun c_93 => ?_)
                · skip
                  refine g_iconst (v := 0) dL_isMost_107 (by decide) ?_
                  refine g_istore dL_isMost_108 (by decide) rfl ?_
                  have hs1 : SM n ord Γ (t + 1) (m ||| 2 ^ od ord t) (y + Γ 2 (od ord t) 8) 0 := hs1a.step hc htl (Or.inl rfl)
                  refine g_iload dL_isMost_110 rfl ?_
                  refine g_if_eq 176 dL_isMost_112 (by decide) (fun z => absurd z (by decide)) (fun _ => ?_)
                  refine g_iload_n dL_isMost_115 rfl ?_
                  refine g_if_eq 143 dL_isMost_116 (by decide) (fun z => absurd z (by decide)) (fun _ => ?_)
                  refine g_iload dL_isMost_119 rfl ?_
                  refine g_if_gt 143 dL_isMost_121 (by decide) (fun c_121 => ?_) (fun c_121 => ?_)
                  · skip
                    refine g_iload dL_isMost_143 rfl ?_
                    refine g_aload_n dL_isMost_145 rfl ?_
                    refine g_iload_n dL_isMost_146 rfl ?_
                    refine g_callV [_] dL_isMost_147 mc_L_79 mi_X4_most se_X4_most (q_most hlt w41 hc hs1.1) (w41.k (by first | rfl | assumption)) rfl rfl (Nat.le_of_ble_eq_true rfl) (am_rm hR (by decide)) (fun _ _ z => z) (fun v hx hq hE => ?_)
                    obtain ⟨y2, rfl, w42, hm2⟩ := hq
                    have hub := hm2.pre hc hn8 (t := t + 1) (by omega) (fun i hi => (hs1.2.1 _).mpr ⟨i, hi, rfl⟩)
                    refine g_icmp_gt 176 dL_isMost_150 (by decide) (fun z => absurd (Int32.le_iff_toInt_le.mpr (by rw [hs1.2.2.1]; exact hub)) (Int32.not_le.mpr z)) (fun c_150 => ?_)
                    refine g_iload_n dL_isMost_153 rfl ?_
                    refine g_if_eq 172 dL_isMost_154 (by decide) (fun z => absurd z (by decide)) (fun _ => ?_)
                    refine g_iload dL_isMost_157 rfl ?_
                    refine g_if_eq 172 dL_isMost_159 (by decide) (fun _ => ?_) (fun z => absurd z (by decide))
                    refine g_iconst (v := 1) dL_isMost_172 (by decide) ?_
                    refine g_goto 177 dL_isMost_173 (by decide) ?_
                    refine g_istore dL_isMost_177 (by decide) rfl ?_
                    refine g_iinc dL_isMost_179 rfl (nI_i1 _) (by decide) rfl ?_
                    refine g_goto 30 dL_isMost_182 (by decide) ?_
                    refine g_ls [(8, .int (nI (od ord t + 1))), (7, .int (nI t)), (6, .int 0), (5, .int 1), (4, .int (y + Γ 2 (od ord t) 8)), (3, .int (nI (m ||| 2 ^ od ord t))), (2, .int 1), (0, .ref (L 5 0)), (1, .ref (L 13 0))] ⟨rfl, rfl, rfl, rfl, rfl, rfl, rfl, rfl, rfl, trivial⟩ ?_
                    refine ih2 (od ord t + 1) _ _ _ _ (by omega) (by omega) w42 ?_
                    rw [if_pos ⟨htl, Nat.lt_succ_self _⟩]
                    exact hs1
                  · skip
                    refine g_iload dL_isMost_124 rfl ?_
                    refine g_iload dL_isMost_126 rfl ?_
                    refine g_iload dL_isMost_128 rfl ?_
                    refine g_icmp_ge 138 dL_isMost_130 (by decide) (fun c_130 => ?_) (fun c_130 => ?_)
                    · skip
                      refine g_iload dL_isMost_138 rfl ?_
                      have ht0 : t = 0 := by
                        have : ¬ 0 < t := fun q => c_121 (by rw [← nI_0]; exact (nI_ltI (by decide) (by omega)).mpr q)
                        omega
                      have hf1 : gotI Γ ord t = min (untI Γ ord t) y1.toInt := by
                        rw [ht0] at hm1 htl ⊢
                        exact hm1.first hc hn8 hr htl (fun j _ => od_bit j)
                      have hfst : Γ 2 (od ord t) 8 = Γ 0 (od ord t) 2 := Int32.toInt_inj.mp (by
                        have q := Int32.le_iff_toInt_le.mp c_130
                        
                        unfold gotI untI at hf1
                        omega)
                      refine g_icmp_ne 176 dL_isMost_140 (by decide) (fun z => absurd hfst z) (fun c_140 => ?_)
                      refine g_iload dL_isMost_143 rfl ?_
                      refine g_aload_n dL_isMost_145 rfl ?_
                      refine g_iload_n dL_isMost_146 rfl ?_
                      refine g_callV [_] dL_isMost_147 mc_L_79 mi_X4_most se_X4_most (q_most hlt w41 hc hs1.1) (w41.k (by first | rfl | assumption)) rfl rfl (Nat.le_of_ble_eq_true rfl) (am_rm hR (by decide)) (fun _ _ z => z) (fun v hx hq hE => ?_)
                      obtain ⟨y2, rfl, w43, hm2⟩ := hq
                      have hub := hm2.pre hc hn8 (t := t + 1) (by omega) (fun i hi => (hs1.2.1 _).mpr ⟨i, hi, rfl⟩)
                      refine g_icmp_gt 176 dL_isMost_150 (by decide) (fun z => absurd (Int32.le_iff_toInt_le.mpr (by rw [hs1.2.2.1]; exact hub)) (Int32.not_le.mpr z)) (fun c_150 => ?_)
                      refine g_iload_n dL_isMost_153 rfl ?_
                      refine g_if_eq 172 dL_isMost_154 (by decide) (fun z => absurd z (by decide)) (fun _ => ?_)
                      refine g_iload dL_isMost_157 rfl ?_
                      refine g_if_eq 172 dL_isMost_159 (by decide) (fun _ => ?_) (fun z => absurd z (by decide))
                      refine g_iconst (v := 1) dL_isMost_172 (by decide) ?_
                      refine g_goto 177 dL_isMost_173 (by decide) ?_
                      refine g_istore dL_isMost_177 (by decide) rfl ?_
                      refine g_iinc dL_isMost_179 rfl (nI_i1 _) (by decide) rfl ?_
                      refine g_goto 30 dL_isMost_182 (by decide) ?_
                      refine g_ls [(8, .int (nI (od ord t + 1))), (7, .int (nI t)), (6, .int 0), (5, .int 1), (4, .int (y + Γ 2 (od ord t) 8)), (3, .int (nI (m ||| 2 ^ od ord t))), (2, .int 1), (0, .ref (L 5 0)), (1, .ref (L 13 0))] ⟨rfl, rfl, rfl, rfl, rfl, rfl, rfl, rfl, rfl, trivial⟩ ?_
                      refine ih2 (od ord t + 1) _ _ _ _ (by omega) (by omega) w43 ?_
                      rw [if_pos ⟨htl, Nat.lt_succ_self _⟩]
                      exact hs1
                    · skip
                      refine g_iload dL_isMost_133 rfl ?_
                      refine g_goto 140 dL_isMost_135 (by decide) ?_
                      have ht0 : t = 0 := by
                        have : ¬ 0 < t := fun q => c_121 (by rw [← nI_0]; exact (nI_ltI (by decide) (by omega)).mpr q)
                        omega
                      have hf1 : gotI Γ ord t = min (untI Γ ord t) y1.toInt := by
                        rw [ht0] at hm1 htl ⊢
                        exact hm1.first hc hn8 hr htl (fun j _ => od_bit j)
                      have hfst : Γ 2 (od ord t) 8 = y1 := Int32.toInt_inj.mp (by
                        have q := c_130
                        rw [Int32.le_iff_toInt_le] at q
                        unfold gotI untI at hf1
                        omega)
                      refine g_icmp_ne 176 dL_isMost_140 (by decide) (fun z => absurd hfst z) (fun c_140 => ?_)
                      refine g_iload dL_isMost_143 rfl ?_
                      refine g_aload_n dL_isMost_145 rfl ?_
                      refine g_iload_n dL_isMost_146 rfl ?_
                      refine g_callV [_] dL_isMost_147 mc_L_79 mi_X4_most se_X4_most (q_most hlt w41 hc hs1.1) (w41.k (by first | rfl | assumption)) rfl rfl (Nat.le_of_ble_eq_true rfl) (am_rm hR (by decide)) (fun _ _ z => z) (fun v hx hq hE => ?_)
                      obtain ⟨y2, rfl, w44, hm2⟩ := hq
                      have hub := hm2.pre hc hn8 (t := t + 1) (by omega) (fun i hi => (hs1.2.1 _).mpr ⟨i, hi, rfl⟩)
                      refine g_icmp_gt 176 dL_isMost_150 (by decide) (fun z => absurd (Int32.le_iff_toInt_le.mpr (by rw [hs1.2.2.1]; exact hub)) (Int32.not_le.mpr z)) (fun c_150 => ?_)
                      refine g_iload_n dL_isMost_153 rfl ?_
                      refine g_if_eq 172 dL_isMost_154 (by decide) (fun z => absurd z (by decide)) (fun _ => ?_)
                      refine g_iload dL_isMost_157 rfl ?_
                      refine g_if_eq 172 dL_isMost_159 (by decide) (fun _ => ?_) (fun z => absurd z (by decide))
                      refine g_iconst (v := 1) dL_isMost_172 (by decide) ?_
                      refine g_goto 177 dL_isMost_173 (by decide) ?_
                      refine g_istore dL_isMost_177 (by decide) rfl ?_
                      refine g_iinc dL_isMost_179 rfl (nI_i1 _) (by decide) rfl ?_
                      refine g_goto 30 dL_isMost_182 (by decide) ?_
                      refine g_ls [(8, .int (nI (od ord t + 1))), (7, .int (nI t)), (6, .int 0), (5, .int 1), (4, .int (y + Γ 2 (od ord t) 8)), (3, .int (nI (m ||| 2 ^ od ord t))), (2, .int 1), (0, .ref (L 5 0)), (1, .ref (L 13 0))] ⟨rfl, rfl, rfl, rfl, rfl, rfl, rfl, rfl, rfl, trivial⟩ ?_
                      refine ih2 (od ord t + 1) _ _ _ _ (by omega) (by omega) w44 ?_
                      rw [if_pos ⟨htl, Nat.lt_succ_self _⟩]
                      exact hs1
                · skip
                  refine g_iload dL_isMost_96 rfl ?_
                  refine g_iload dL_isMost_98 rfl ?_
                  refine g_icmp_ge 107 dL_isMost_100 (by decide) (fun c_100 => ?_) (fun c_100 => ?_)
                  · skip
                    refine g_iconst (v := 0) dL_isMost_107 (by decide) ?_
                    refine g_istore dL_isMost_108 (by decide) rfl ?_
                    have hs1 : SM n ord Γ (t + 1) (m ||| 2 ^ od ord t) (y + Γ 2 (od ord t) 8) 0 := hs1a.step hc htl (Or.inl rfl)
                    refine g_iload dL_isMost_110 rfl ?_
                    refine g_if_eq 176 dL_isMost_112 (by decide) (fun z => absurd z (by decide)) (fun _ => ?_)
                    refine g_iload_n dL_isMost_115 rfl ?_
                    refine g_if_eq 143 dL_isMost_116 (by decide) (fun z => absurd z (by decide)) (fun _ => ?_)
                    refine g_iload dL_isMost_119 rfl ?_
                    refine g_if_gt 143 dL_isMost_121 (by decide) (fun c_121 => ?_) (fun c_121 => ?_)
                    · skip
                      refine g_iload dL_isMost_143 rfl ?_
                      refine g_aload_n dL_isMost_145 rfl ?_
                      refine g_iload_n dL_isMost_146 rfl ?_
                      refine g_callV [_] dL_isMost_147 mc_L_79 mi_X4_most se_X4_most (q_most hlt w41 hc hs1.1) (w41.k (by first | rfl | assumption)) rfl rfl (Nat.le_of_ble_eq_true rfl) (am_rm hR (by decide)) (fun _ _ z => z) (fun v hx hq hE => ?_)
                      obtain ⟨y2, rfl, w45, hm2⟩ := hq
                      have hub := hm2.pre hc hn8 (t := t + 1) (by omega) (fun i hi => (hs1.2.1 _).mpr ⟨i, hi, rfl⟩)
                      refine g_icmp_gt 176 dL_isMost_150 (by decide) (fun z => absurd (Int32.le_iff_toInt_le.mpr (by rw [hs1.2.2.1]; exact hub)) (Int32.not_le.mpr z)) (fun c_150 => ?_)
                      refine g_iload_n dL_isMost_153 rfl ?_
                      refine g_if_eq 172 dL_isMost_154 (by decide) (fun z => absurd z (by decide)) (fun _ => ?_)
                      refine g_iload dL_isMost_157 rfl ?_
                      refine g_if_eq 172 dL_isMost_159 (by decide) (fun _ => ?_) (fun z => absurd z (by decide))
                      refine g_iconst (v := 1) dL_isMost_172 (by decide) ?_
                      refine g_goto 177 dL_isMost_173 (by decide) ?_
                      refine g_istore dL_isMost_177 (by decide) rfl ?_
                      refine g_iinc dL_isMost_179 rfl (nI_i1 _) (by decide) rfl ?_
                      refine g_goto 30 dL_isMost_182 (by decide) ?_
                      refine g_ls [(8, .int (nI (od ord t + 1))), (7, .int (nI t)), (6, .int 0), (5, .int 1), (4, .int (y + Γ 2 (od ord t) 8)), (3, .int (nI (m ||| 2 ^ od ord t))), (2, .int 1), (0, .ref (L 5 0)), (1, .ref (L 13 0))] ⟨rfl, rfl, rfl, rfl, rfl, rfl, rfl, rfl, rfl, trivial⟩ ?_
                      refine ih2 (od ord t + 1) _ _ _ _ (by omega) (by omega) w45 ?_
                      rw [if_pos ⟨htl, Nat.lt_succ_self _⟩]
                      exact hs1
                    · skip
                      refine g_iload dL_isMost_124 rfl ?_
                      refine g_iload dL_isMost_126 rfl ?_
                      refine g_iload dL_isMost_128 rfl ?_
                      refine g_icmp_ge 138 dL_isMost_130 (by decide) (fun c_130 => ?_) (fun c_130 => ?_)
                      · skip
                        refine g_iload dL_isMost_138 rfl ?_
                        have ht0 : t = 0 := by
                          have : ¬ 0 < t := fun q => c_121 (by rw [← nI_0]; exact (nI_ltI (by decide) (by omega)).mpr q)
                          omega
                        have hf1 : gotI Γ ord t = min (untI Γ ord t) y1.toInt := by
                          rw [ht0] at hm1 htl ⊢
                          exact hm1.first hc hn8 hr htl (fun j _ => od_bit j)
                        have hfst : Γ 2 (od ord t) 8 = Γ 0 (od ord t) 2 := Int32.toInt_inj.mp (by
                          have q := Int32.le_iff_toInt_le.mp c_130
                          
                          unfold gotI untI at hf1
                          omega)
                        refine g_icmp_ne 176 dL_isMost_140 (by decide) (fun z => absurd hfst z) (fun c_140 => ?_)
                        refine g_iload dL_isMost_143 rfl ?_
                        refine g_aload_n dL_isMost_145 rfl ?_
                        refine g_iload_n dL_isMost_146 rfl ?_
                        refine g_callV [_] dL_isMost_147 mc_L_79 mi_X4_most se_X4_most (q_most hlt w41 hc hs1.1) (w41.k (by first | rfl | assumption)) rfl rfl (Nat.le_of_ble_eq_true rfl) (am_rm hR (by decide)) (fun _ _ z => z) (fun v hx hq hE => ?_)
                        obtain ⟨y2, rfl, w46, hm2⟩ := hq
                        have hub := hm2.pre hc hn8 (t := t + 1) (by omega) (fun i hi => (hs1.2.1 _).mpr ⟨i, hi, rfl⟩)
                        refine g_icmp_gt 176 dL_isMost_150 (by decide) (fun z => absurd (Int32.le_iff_toInt_le.mpr (by rw [hs1.2.2.1]; exact hub)) (Int32.not_le.mpr z)) (fun c_150 => ?_)
                        refine g_iload_n dL_isMost_153 rfl ?_
                        refine g_if_eq 172 dL_isMost_154 (by decide) (fun z => absurd z (by decide)) (fun _ => ?_)
                        refine g_iload dL_isMost_157 rfl ?_
                        refine g_if_eq 172 dL_isMost_159 (by decide) (fun _ => ?_) (fun z => absurd z (by decide))
                        refine g_iconst (v := 1) dL_isMost_172 (by decide) ?_
                        refine g_goto 177 dL_isMost_173 (by decide) ?_
                        refine g_istore dL_isMost_177 (by decide) rfl ?_
                        refine g_iinc dL_isMost_179 rfl (nI_i1 _) (by decide) rfl ?_
                        refine g_goto 30 dL_isMost_182 (by decide) ?_
                        refine g_ls [(8, .int (nI (od ord t + 1))), (7, .int (nI t)), (6, .int 0), (5, .int 1), (4, .int (y + Γ 2 (od ord t) 8)), (3, .int (nI (m ||| 2 ^ od ord t))), (2, .int 1), (0, .ref (L 5 0)), (1, .ref (L 13 0))] ⟨rfl, rfl, rfl, rfl, rfl, rfl, rfl, rfl, rfl, trivial⟩ ?_
                        refine ih2 (od ord t + 1) _ _ _ _ (by omega) (by omega) w46 ?_
                        rw [if_pos ⟨htl, Nat.lt_succ_self _⟩]
                        exact hs1
                      · skip
                        refine g_iload dL_isMost_133 rfl ?_
                        refine g_goto 140 dL_isMost_135 (by decide) ?_
                        have ht0 : t = 0 := by
                          have : ¬ 0 < t := fun q => c_121 (by rw [← nI_0]; exact (nI_ltI (by decide) (by omega)).mpr q)
                          omega
                        have hf1 : gotI Γ ord t = min (untI Γ ord t) y1.toInt := by
                          rw [ht0] at hm1 htl ⊢
                          exact hm1.first hc hn8 hr htl (fun j _ => od_bit j)
                        have hfst : Γ 2 (od ord t) 8 = y1 := Int32.toInt_inj.mp (by
                          have q := c_130
                          rw [Int32.le_iff_toInt_le] at q
                          unfold gotI untI at hf1
                          omega)
                        refine g_icmp_ne 176 dL_isMost_140 (by decide) (fun z => absurd hfst z) (fun c_140 => ?_)
                        refine g_iload dL_isMost_143 rfl ?_
                        refine g_aload_n dL_isMost_145 rfl ?_
                        refine g_iload_n dL_isMost_146 rfl ?_
                        refine g_callV [_] dL_isMost_147 mc_L_79 mi_X4_most se_X4_most (q_most hlt w41 hc hs1.1) (w41.k (by first | rfl | assumption)) rfl rfl (Nat.le_of_ble_eq_true rfl) (am_rm hR (by decide)) (fun _ _ z => z) (fun v hx hq hE => ?_)
                        obtain ⟨y2, rfl, w47, hm2⟩ := hq
                        have hub := hm2.pre hc hn8 (t := t + 1) (by omega) (fun i hi => (hs1.2.1 _).mpr ⟨i, hi, rfl⟩)
                        refine g_icmp_gt 176 dL_isMost_150 (by decide) (fun z => absurd (Int32.le_iff_toInt_le.mpr (by rw [hs1.2.2.1]; exact hub)) (Int32.not_le.mpr z)) (fun c_150 => ?_)
                        refine g_iload_n dL_isMost_153 rfl ?_
                        refine g_if_eq 172 dL_isMost_154 (by decide) (fun z => absurd z (by decide)) (fun _ => ?_)
                        refine g_iload dL_isMost_157 rfl ?_
                        refine g_if_eq 172 dL_isMost_159 (by decide) (fun _ => ?_) (fun z => absurd z (by decide))
                        refine g_iconst (v := 1) dL_isMost_172 (by decide) ?_
                        refine g_goto 177 dL_isMost_173 (by decide) ?_
                        refine g_istore dL_isMost_177 (by decide) rfl ?_
                        refine g_iinc dL_isMost_179 rfl (nI_i1 _) (by decide) rfl ?_
                        refine g_goto 30 dL_isMost_182 (by decide) ?_
                        refine g_ls [(8, .int (nI (od ord t + 1))), (7, .int (nI t)), (6, .int 0), (5, .int 1), (4, .int (y + Γ 2 (od ord t) 8)), (3, .int (nI (m ||| 2 ^ od ord t))), (2, .int 1), (0, .ref (L 5 0)), (1, .ref (L 13 0))] ⟨rfl, rfl, rfl, rfl, rfl, rfl, rfl, rfl, rfl, trivial⟩ ?_
                        refine ih2 (od ord t + 1) _ _ _ _ (by omega) (by omega) w47 ?_
                        rw [if_pos ⟨htl, Nat.lt_succ_self _⟩]
                        exact hs1
                  · skip
                    refine g_iconst (v := 1) dL_isMost_103 (by decide) ?_
                    refine g_goto 108 dL_isMost_104 (by decide) ?_
                    refine g_istore dL_isMost_108 (by decide) rfl ?_
                    have hs1 : SM n ord Γ (t + 1) (m ||| 2 ^ od ord t) (y + Γ 2 (od ord t) 8) 1 := hs1a.step hc htl (Or.inr ⟨rfl, c_93, Int.not_le.mp (fun q => c_100 (Int32.le_iff_toInt_le.mpr q))⟩)
                    refine g_iload dL_isMost_110 rfl ?_
                    refine g_if_eq 176 dL_isMost_112 (by decide) (fun z => absurd z (by decide)) (fun _ => ?_)
                    refine g_iload_n dL_isMost_115 rfl ?_
                    refine g_if_eq 143 dL_isMost_116 (by decide) (fun z => absurd z (by decide)) (fun _ => ?_)
                    refine g_iload dL_isMost_119 rfl ?_
                    refine g_if_gt 143 dL_isMost_121 (by decide) (fun c_121 => ?_) (fun c_121 => ?_)
                    · skip
                      refine g_iload dL_isMost_143 rfl ?_
                      refine g_aload_n dL_isMost_145 rfl ?_
                      refine g_iload_n dL_isMost_146 rfl ?_
                      refine g_callV [_] dL_isMost_147 mc_L_79 mi_X4_most se_X4_most (q_most hlt w41 hc hs1.1) (w41.k (by first | rfl | assumption)) rfl rfl (Nat.le_of_ble_eq_true rfl) (am_rm hR (by decide)) (fun _ _ z => z) (fun v hx hq hE => ?_)
                      obtain ⟨y2, rfl, w48, hm2⟩ := hq
                      have hub := hm2.pre hc hn8 (t := t + 1) (by omega) (fun i hi => (hs1.2.1 _).mpr ⟨i, hi, rfl⟩)
                      refine g_icmp_gt 176 dL_isMost_150 (by decide) (fun z => absurd (Int32.le_iff_toInt_le.mpr (by rw [hs1.2.2.1]; exact hub)) (Int32.not_le.mpr z)) (fun c_150 => ?_)
                      refine g_iload_n dL_isMost_153 rfl ?_
                      refine g_if_eq 172 dL_isMost_154 (by decide) (fun z => absurd z (by decide)) (fun _ => ?_)
                      refine g_iload dL_isMost_157 rfl ?_
                      refine g_if_eq 172 dL_isMost_159 (by decide) (fun z => absurd z (by decide)) (fun _ => ?_)
                      refine g_iload dL_isMost_162 rfl ?_
                      refine g_aload_n dL_isMost_164 rfl ?_
                      refine g_iload_n dL_isMost_165 rfl ?_
                      refine g_callV [_] dL_isMost_166 mc_L_79 mi_X4_most se_X4_most (q_most hlt w48 hc hs1.1) (w48.k (by first | rfl | assumption)) rfl rfl (Nat.le_of_ble_eq_true rfl) (am_rm hR (by decide)) (fun _ _ z => z) (fun v hx hq hE => ?_)
                      obtain ⟨y3, rfl, w49, hm3⟩ := hq
                      have hub3 := hm3.pre hc hn8 (t := t + 1) (by omega) (fun i hi => (hs1.2.1 _).mpr ⟨i, hi, rfl⟩)
                      have hge3 : y3.toInt ≤ zs (gotI Γ ord) (t + 1) := hm3.eqs hc hn8 hr (by omega) (fun j _ hj => (hs1.2.1 j).mp hj) (hs1.2.2.2.resolve_left (by decide)).2
                      refine g_icmp_ne 176 dL_isMost_169 (by decide) (fun z => absurd (Int32.toInt_inj.mp (by rw [hs1.2.2.1]; exact Int.le_antisymm hub3 hge3)) z) (fun c_169 => ?_)
                      refine g_iconst (v := 1) dL_isMost_172 (by decide) ?_
                      refine g_goto 177 dL_isMost_173 (by decide) ?_
                      refine g_istore dL_isMost_177 (by decide) rfl ?_
                      refine g_iinc dL_isMost_179 rfl (nI_i1 _) (by decide) rfl ?_
                      refine g_goto 30 dL_isMost_182 (by decide) ?_
                      refine g_ls [(8, .int (nI (od ord t + 1))), (7, .int (nI t)), (6, .int 1), (5, .int 1), (4, .int (y + Γ 2 (od ord t) 8)), (3, .int (nI (m ||| 2 ^ od ord t))), (2, .int 1), (0, .ref (L 5 0)), (1, .ref (L 13 0))] ⟨rfl, rfl, rfl, rfl, rfl, rfl, rfl, rfl, rfl, trivial⟩ ?_
                      refine ih2 (od ord t + 1) _ _ _ _ (by omega) (by omega) w49 ?_
                      rw [if_pos ⟨htl, Nat.lt_succ_self _⟩]
                      exact hs1
                    · skip
                      refine g_iload dL_isMost_124 rfl ?_
                      refine g_iload dL_isMost_126 rfl ?_
                      refine g_iload dL_isMost_128 rfl ?_
                      refine g_icmp_ge 138 dL_isMost_130 (by decide) (fun c_130 => ?_) (fun c_130 => ?_)
                      · skip
                        refine g_iload dL_isMost_138 rfl ?_
                        have ht0 : t = 0 := by
                          have : ¬ 0 < t := fun q => c_121 (by rw [← nI_0]; exact (nI_ltI (by decide) (by omega)).mpr q)
                          omega
                        have hf1 : gotI Γ ord t = min (untI Γ ord t) y1.toInt := by
                          rw [ht0] at hm1 htl ⊢
                          exact hm1.first hc hn8 hr htl (fun j _ => od_bit j)
                        have hfst : Γ 2 (od ord t) 8 = Γ 0 (od ord t) 2 := Int32.toInt_inj.mp (by
                          have q := Int32.le_iff_toInt_le.mp c_130
                          
                          unfold gotI untI at hf1
                          omega)
                        refine g_icmp_ne 176 dL_isMost_140 (by decide) (fun z => absurd hfst z) (fun c_140 => ?_)
                        refine g_iload dL_isMost_143 rfl ?_
                        refine g_aload_n dL_isMost_145 rfl ?_
                        refine g_iload_n dL_isMost_146 rfl ?_
                        refine g_callV [_] dL_isMost_147 mc_L_79 mi_X4_most se_X4_most (q_most hlt w41 hc hs1.1) (w41.k (by first | rfl | assumption)) rfl rfl (Nat.le_of_ble_eq_true rfl) (am_rm hR (by decide)) (fun _ _ z => z) (fun v hx hq hE => ?_)
                        obtain ⟨y2, rfl, w50, hm2⟩ := hq
                        have hub := hm2.pre hc hn8 (t := t + 1) (by omega) (fun i hi => (hs1.2.1 _).mpr ⟨i, hi, rfl⟩)
                        refine g_icmp_gt 176 dL_isMost_150 (by decide) (fun z => absurd (Int32.le_iff_toInt_le.mpr (by rw [hs1.2.2.1]; exact hub)) (Int32.not_le.mpr z)) (fun c_150 => ?_)
                        refine g_iload_n dL_isMost_153 rfl ?_
                        refine g_if_eq 172 dL_isMost_154 (by decide) (fun z => absurd z (by decide)) (fun _ => ?_)
                        refine g_iload dL_isMost_157 rfl ?_
                        refine g_if_eq 172 dL_isMost_159 (by decide) (fun z => absurd z (by decide)) (fun _ => ?_)
                        refine g_iload dL_isMost_162 rfl ?_
                        refine g_aload_n dL_isMost_164 rfl ?_
                        refine g_iload_n dL_isMost_165 rfl ?_
                        refine g_callV [_] dL_isMost_166 mc_L_79 mi_X4_most se_X4_most (q_most hlt w50 hc hs1.1) (w50.k (by first | rfl | assumption)) rfl rfl (Nat.le_of_ble_eq_true rfl) (am_rm hR (by decide)) (fun _ _ z => z) (fun v hx hq hE => ?_)
                        obtain ⟨y3, rfl, w51, hm3⟩ := hq
                        have hub3 := hm3.pre hc hn8 (t := t + 1) (by omega) (fun i hi => (hs1.2.1 _).mpr ⟨i, hi, rfl⟩)
                        have hge3 : y3.toInt ≤ zs (gotI Γ ord) (t + 1) := hm3.eqs hc hn8 hr (by omega) (fun j _ hj => (hs1.2.1 j).mp hj) (hs1.2.2.2.resolve_left (by decide)).2
                        refine g_icmp_ne 176 dL_isMost_169 (by decide) (fun z => absurd (Int32.toInt_inj.mp (by rw [hs1.2.2.1]; exact Int.le_antisymm hub3 hge3)) z) (fun c_169 => ?_)
                        refine g_iconst (v := 1) dL_isMost_172 (by decide) ?_
                        refine g_goto 177 dL_isMost_173 (by decide) ?_
                        refine g_istore dL_isMost_177 (by decide) rfl ?_
                        refine g_iinc dL_isMost_179 rfl (nI_i1 _) (by decide) rfl ?_
                        refine g_goto 30 dL_isMost_182 (by decide) ?_
                        refine g_ls [(8, .int (nI (od ord t + 1))), (7, .int (nI t)), (6, .int 1), (5, .int 1), (4, .int (y + Γ 2 (od ord t) 8)), (3, .int (nI (m ||| 2 ^ od ord t))), (2, .int 1), (0, .ref (L 5 0)), (1, .ref (L 13 0))] ⟨rfl, rfl, rfl, rfl, rfl, rfl, rfl, rfl, rfl, trivial⟩ ?_
                        refine ih2 (od ord t + 1) _ _ _ _ (by omega) (by omega) w51 ?_
                        rw [if_pos ⟨htl, Nat.lt_succ_self _⟩]
                        exact hs1
                      · skip
                        refine g_iload dL_isMost_133 rfl ?_
                        refine g_goto 140 dL_isMost_135 (by decide) ?_
                        have ht0 : t = 0 := by
                          have : ¬ 0 < t := fun q => c_121 (by rw [← nI_0]; exact (nI_ltI (by decide) (by omega)).mpr q)
                          omega
                        have hf1 : gotI Γ ord t = min (untI Γ ord t) y1.toInt := by
                          rw [ht0] at hm1 htl ⊢
                          exact hm1.first hc hn8 hr htl (fun j _ => od_bit j)
                        have hfst : Γ 2 (od ord t) 8 = y1 := Int32.toInt_inj.mp (by
                          have q := c_130
                          rw [Int32.le_iff_toInt_le] at q
                          unfold gotI untI at hf1
                          omega)
                        refine g_icmp_ne 176 dL_isMost_140 (by decide) (fun z => absurd hfst z) (fun c_140 => ?_)
                        refine g_iload dL_isMost_143 rfl ?_
                        refine g_aload_n dL_isMost_145 rfl ?_
                        refine g_iload_n dL_isMost_146 rfl ?_
                        refine g_callV [_] dL_isMost_147 mc_L_79 mi_X4_most se_X4_most (q_most hlt w41 hc hs1.1) (w41.k (by first | rfl | assumption)) rfl rfl (Nat.le_of_ble_eq_true rfl) (am_rm hR (by decide)) (fun _ _ z => z) (fun v hx hq hE => ?_)
                        obtain ⟨y2, rfl, w52, hm2⟩ := hq
                        have hub := hm2.pre hc hn8 (t := t + 1) (by omega) (fun i hi => (hs1.2.1 _).mpr ⟨i, hi, rfl⟩)
                        refine g_icmp_gt 176 dL_isMost_150 (by decide) (fun z => absurd (Int32.le_iff_toInt_le.mpr (by rw [hs1.2.2.1]; exact hub)) (Int32.not_le.mpr z)) (fun c_150 => ?_)
                        refine g_iload_n dL_isMost_153 rfl ?_
                        refine g_if_eq 172 dL_isMost_154 (by decide) (fun z => absurd z (by decide)) (fun _ => ?_)
                        refine g_iload dL_isMost_157 rfl ?_
                        refine g_if_eq 172 dL_isMost_159 (by decide) (fun z => absurd z (by decide)) (fun _ => ?_)
                        refine g_iload dL_isMost_162 rfl ?_
                        refine g_aload_n dL_isMost_164 rfl ?_
                        refine g_iload_n dL_isMost_165 rfl ?_
                        refine g_callV [_] dL_isMost_166 mc_L_79 mi_X4_most se_X4_most (q_most hlt w52 hc hs1.1) (w52.k (by first | rfl | assumption)) rfl rfl (Nat.le_of_ble_eq_true rfl) (am_rm hR (by decide)) (fun _ _ z => z) (fun v hx hq hE => ?_)
                        obtain ⟨y3, rfl, w53, hm3⟩ := hq
                        have hub3 := hm3.pre hc hn8 (t := t + 1) (by omega) (fun i hi => (hs1.2.1 _).mpr ⟨i, hi, rfl⟩)
                        have hge3 : y3.toInt ≤ zs (gotI Γ ord) (t + 1) := hm3.eqs hc hn8 hr (by omega) (fun j _ hj => (hs1.2.1 j).mp hj) (hs1.2.2.2.resolve_left (by decide)).2
                        refine g_icmp_ne 176 dL_isMost_169 (by decide) (fun z => absurd (Int32.toInt_inj.mp (by rw [hs1.2.2.1]; exact Int.le_antisymm hub3 hge3)) z) (fun c_169 => ?_)
                        refine g_iconst (v := 1) dL_isMost_172 (by decide) ?_
                        refine g_goto 177 dL_isMost_173 (by decide) ?_
                        refine g_istore dL_isMost_177 (by decide) rfl ?_
                        refine g_iinc dL_isMost_179 rfl (nI_i1 _) (by decide) rfl ?_
                        refine g_goto 30 dL_isMost_182 (by decide) ?_
                        refine g_ls [(8, .int (nI (od ord t + 1))), (7, .int (nI t)), (6, .int 1), (5, .int 1), (4, .int (y + Γ 2 (od ord t) 8)), (3, .int (nI (m ||| 2 ^ od ord t))), (2, .int 1), (0, .ref (L 5 0)), (1, .ref (L 13 0))] ⟨rfl, rfl, rfl, rfl, rfl, rfl, rfl, rfl, rfl, trivial⟩ ?_
                        refine ih2 (od ord t + 1) _ _ _ _ (by omega) (by omega) w53 ?_
                        rw [if_pos ⟨htl, Nat.lt_succ_self _⟩]
                        exact hs1
        refine g_ls [(8, .int (nI 0)), (7, .int (nI t)), (6, .int s), (5, .int 1), (4, .int y), (3, .int (nI m)), (2, .int 1), (0, .ref (L 5 0)), (1, .ref (L 13 0))] ⟨rfl, rfl, rfl, rfl, rfl, rfl, rfl, rfl, rfl, trivial⟩ ?_
        exact lp_30 (n + 1) 0 m y s _ (by omega) (by omega) w' (by rw [if_neg (fun q => absurd q.2 (Nat.not_lt_zero _))]; exact hso)
  refine g_ls [(7, .int (nI 0)), (6, .int 1), (5, .int 1), (4, .int 0), (3, .int (nI 0)), (2, .int 1), (0, .ref (L 5 0)), (1, .ref (L 13 0))] ⟨rfl, rfl, rfl, rfl, rfl, rfl, rfl, rfl, trivial⟩ ?_
  exact lp_14 (n + 1) 0 0 0 1 _ (by omega) (by omega) w (by rw [Nat.zero_min]; exact SM.nil)
