theorem clo.new {A B : Nat → Nat} {Pf Pb : Nat → Prop} {r : Nat → Nat} {m k j v : Nat} (hk : k < m) (hne : A j ≠ B j) (h : (A j = r k ∧ v = B j) ∨ (¬ A j = r k ∧ v = A j)) : clo A B Pf Pb (fun i => if i = m then v else r i) (m + 1) k j := by
  have ek : (fun i => if i = m then v else r i) k = r k := if_neg (by omega)
  have em : (fun i => if i = m then v else r i) m = v := if_pos rfl
  refine ⟨fun z1 z2 => ?_, fun z1 z2 => ?_⟩
  · rw [ek] at z1
    rcases h with ⟨-, b⟩ | ⟨a, -⟩
    · exact ⟨m, by omega, by rw [em]; exact b⟩
    · exact absurd z1 a
  · rw [ek] at z1
    rcases h with ⟨a, -⟩ | ⟨-, b⟩
    · exact absurd (a.trans z1.symm) hne
    · exact ⟨m, by omega, by rw [em]; exact b⟩
/-- the pipes' ends, by the model's rows -/
def pJ (q : Nat) (A B : Nat → Nat) (Γ : Nat → Nat → Nat → Int32) : Prop := ∀ j, j < q → Γ 12 25 j = nI (A j) ∧ A j ≤ 8 ∧ Γ 12 26 j = nI (B j) ∧ B j < 8 ∧ A j ≠ B j
/-- way b of pipe j can carry more -/
def sp_pw (Γ : Nat → Nat → Nat → Int32) (b : Int32) (j : Nat) : Prop := ¬ sp_rm Γ j b ≤ 0
theorem c_X5_rm {l : Launch} (hlt : l.stackTraces = false) {N n p : Nat} {ord : List Nat} {L : Nat → Nat → Nat} {Γ : Nat → Nat → Nat → Int32} {o : Int64} {h : am_H} (w : WI N n p ord L Γ o h) {j : Nat} (hj : j < 24) (b : Int32) : am_Con l yX5_room (.code yX5_room cX5_room 3 (some .int)) 1 0 0 [.ref (L 11 0), .int (nI j), .int b] h (fun v h' => v = some (.int (sp_rm Γ j b)) ∧ h' = h) (fun _ _ => False) := c_X5_room hlt w hj b
def sp_w31 (Γ : Nat → Nat → Nat → Int32) : Nat → Nat → Nat → Nat → Int32
  | 0 => Γ
  | j + 1 => u3 (sp_w31 Γ j) 12 31 j (-1)
theorem sp_w31_fr (Γ : Nat → Nat → Nat → Int32) : ∀ j, fr31 Γ (sp_w31 Γ j)
  | 0 => fun _ _ _ _ => rfl
  | j + 1 => (sp_w31_fr Γ j).u31 j (-1)
theorem sp_w31_at (Γ : Nat → Nat → Nat → Int32) : ∀ j u, u < j → sp_w31 Γ j 12 31 u = -1
  | 0, u, h => absurd h (Nat.not_lt_zero _)
  | j + 1, u, h => by
    show u3 (sp_w31 Γ j) 12 31 j (-1) 12 31 u = -1
    rw [u3_ap]
    by_cases c : u = j
    · rw [if_pos ⟨rfl, rfl, c⟩]
    · rw [if_neg (fun z => c z.2.2)]
      exact sp_w31_at Γ j u (by omega)
theorem bJ.init {q : Nat} {A B : Nat → Nat} {Pf Pb : Nat → Prop} (Γ : Nat → Nat → Nat → Int32) : bJ q A B Pf Pb (u3 (sp_w31 Γ 9) 12 32 0 (nI 8)) (fun _ => 8) 1 := by
  have e31 : ∀ u, u < 9 → (u3 (sp_w31 Γ 9) 12 32 0 (nI 8)) 12 31 u = -1 := fun u hu => by
    rw [u3_ap, if_neg (by omega)]
    exact sp_w31_at Γ 9 u hu
  refine ⟨?_, rfl, e31 8 (by omega), fun i hi => ⟨?_, Nat.le_refl 8⟩, fun i h0 hi => by omega, fun v hv hne => absurd (e31 v (by omega)) hne, fun i h0 hi => by omega, fun i j hi hj _ => by omega⟩
  · rw [cn31_0 8 (fun u hu => e31 u (by omega))]
  · have : i = 0 := by omega
    subst this
    exact u3_s
set_option maxRecDepth 100000 in
set_option maxHeartbeats 4000000 in
theorem c_X5_finds {l : Launch} (hlt : l.stackTraces = false) {N n p : Nat} {ord : List Nat} {L : Nat → Nat → Nat} {Γ : Nat → Nat → Nat → Int32} {o : Int64} {h : am_H} (w : WI N n p ord L Γ o h) {q : Nat} (hq : q ≤ 24) (ep : Γ 11 0 24 = nI q) {A B : Nat → Nat} (hp : pJ q A B Γ) {t : Nat} (ht : t < 8) : am_Con l yX5_finds (.code yX5_finds cX5_finds 9 (some .boolean)) 2 0 0 [.ref (L 11 0), .int (nI t)] h (fun v h' => ∃ (b : Int32) (G : Nat → Nat → Nat → Int32) (r : Nat → Nat) (m : Nat), v = some (.int b) ∧ WI N n p ord L G o h' ∧ fr31 Γ G ∧ bJ q A B (sp_pw Γ 1) (sp_pw Γ 0) G r m ∧ ((b = 1 ∧ ¬ G 12 31 t = -1) ∨ (b = 0 ∧ G 12 31 t = -1 ∧ ∀ i j, i < m → j < q → clo A B (sp_pw Γ 1) (sp_pw Γ 0) r m i j))) (fun _ _ => False) := by
  refine am_body hlt (by decide +kernel) (Nat.le_of_ble_eq_true rfl) (fun k hl hR h0 hno => ?_)
  subst hl
  obtain ⟨Qf, hQ⟩ : ∃ Qf, Qf = am_Q k 0 0 (fun v h' => ∃ (b : Int32) (G : Nat → Nat → Nat → Int32) (r : Nat → Nat) (m : Nat), v = some (.int b) ∧ WI N n p ord L G o h' ∧ fr31 Γ G ∧ bJ q A B (sp_pw Γ 1) (sp_pw Γ 0) G r m ∧ ((b = 1 ∧ ¬ G 12 31 t = -1) ∨ (b = 0 ∧ G 12 31 t = -1 ∧ ∀ i j, i < m → j < q → clo A B (sp_pw Γ 1) (sp_pw Γ 0) r m i j))) (fun _ _ => False) := ⟨_, rfl⟩
  rw [← hQ]
  refine g_iconst (v := 0) dX5_finds_0 (by decide) ?_
  refine g_istore_n dX5_finds_1 (by decide) rfl ?_
  have lp_2 : ∀ (f : Nat) (j : Nat) (h' : am_H), j ≤ 9 → 9 - j < f → WI N n p ord L (sp_w31 Γ j) o h' → am_G k RX5 yX5_finds.name cX5_finds 9 (some .boolean) 0 0 Qf 2 [(2, .int (nI j)), (1, .int (nI t)), (0, .ref (L 11 0))] [] h' := by
    intro f
    induction f with
    | zero => intro j h' hj hf w'; omega
    | succ f ih =>
      intro j h' hj hf w'
      refine g_iload_n dX5_finds_2 rfl ?_
      refine g_bipush (v := nI 8) dX5_finds_3 (by decide) ?_
      refine gN_gt 21 dX5_finds_5 (by decide) (by omega) (by omega) (fun c_5 => ?_) (fun c_5 => ?_)
      · skip
        have ej : j = 9 := by omega
        subst ej
        refine g_aload_n dX5_finds_21 rfl ?_
        refine w_getR w' dX5_finds_22 fl_X5_83 rfl rfl (by first | rfl | assumption) rfl ?_
        refine g_iconst (v := nI 0) dX5_finds_25 (by decide) ?_
        refine g_bipush (v := nI 8) dX5_finds_26 (by decide) ?_
        refine w_ast w' dX5_finds_28 (by decide) (by first | rfl | assumption) (by first | assumption | omega | (show _ < 8; omega) | (show _ < 24; omega) | (show _ < 9; omega)) (fun h21 w21 => ?_)
        refine g_iconst (v := 1) dX5_finds_29 (by decide) ?_
        refine g_istore_n dX5_finds_30 (by decide) rfl ?_
        refine g_iconst (v := 0) dX5_finds_31 (by decide) ?_
        refine g_istore_n dX5_finds_32 (by decide) rfl ?_
        have lp_33 : ∀ (f : Nat) (aa : Nat) (G : Nat → Nat → Nat → Int32) (r : Nat → Nat) (m : Nat) (h' : am_H), aa ≤ m → 9 - aa < f → WI N n p ord L G o h' → fr31 Γ G → bJ q A B (sp_pw Γ 1) (sp_pw Γ 0) G r m → (∀ i j, i < aa → j < q → clo A B (sp_pw Γ 1) (sp_pw Γ 0) r m i j) → am_G k RX5 yX5_finds.name cX5_finds 9 (some .boolean) 0 0 Qf 33 [(3, .int (nI aa)), (2, .int (nI m)), (1, .int (nI t)), (0, .ref (L 11 0))] [] h' := by
          intro f
          induction f with
          | zero => intro aa G r m h' hk hf w' fr hbj hcl; omega
          | succ f ih1 =>
            intro aa G r m h' hk hf w' fr hbj hcl
            have hm9 := hbj.le
            refine g_iload_n dX5_finds_33 rfl ?_
            refine g_iload_n dX5_finds_34 rfl ?_
            refine gN_ge 214 dX5_finds_35 (by decide) (by omega) (by omega) (fun c_35 => ?_) (fun c_35 => ?_)
            · skip
              refine g_aload_n dX5_finds_214 rfl ?_
              refine w_getR w' dX5_finds_215 fl_X5_80 rfl rfl (by first | rfl | assumption) rfl ?_
              refine g_iload_n dX5_finds_218 rfl ?_
              refine w_ald w' dX5_finds_219 (by decide) (by first | rfl | assumption) (by first | assumption | omega | (show _ < 8; omega) | (show _ < 24; omega) | (show _ < 9; omega)) ?_
              refine g_iconst (v := (-1)) dX5_finds_220 (by decide) ?_
              refine g_icmp_eq 228 dX5_finds_221 (by decide) (fun c_221 => ?_) (fun c_221 => ?_)
              · skip
                refine g_iconst (v := 0) dX5_finds_228 (by decide) ?_
                rw [hQ]
                refine g_iret dX5_finds_229 rfl rfl (by decide) (by decide) ?_
                exact ⟨0, G, r, m, rfl, w', fr, hbj, Or.inr ⟨rfl, c_221, fun i j hi hj => hcl i j (by omega) hj⟩⟩
              · skip
                refine g_iconst (v := 1) dX5_finds_224 (by decide) ?_
                refine g_goto 229 dX5_finds_225 (by decide) ?_
                rw [hQ]
                refine g_iret dX5_finds_229 rfl rfl (by decide) (by decide) ?_
                exact ⟨1, G, r, m, rfl, w', fr, hbj, Or.inl ⟨rfl, c_221⟩⟩
            · skip
              refine g_aload_n dX5_finds_38 rfl ?_
              refine w_getR w' dX5_finds_39 fl_X5_80 rfl rfl (by first | rfl | assumption) rfl ?_
              refine g_iload_n dX5_finds_42 rfl ?_
              refine w_ald w' dX5_finds_43 (by decide) (by first | rfl | assumption) (by first | assumption | omega | (show _ < 8; omega) | (show _ < 24; omega) | (show _ < 9; omega)) ?_
              refine g_iconst (v := (-1)) dX5_finds_44 (by decide) ?_
              refine g_icmp_ne 214 dX5_finds_45 (by decide) (fun c_45 => ?_) (fun c_45 => ?_)
              · skip
                refine g_aload_n dX5_finds_214 rfl ?_
                refine w_getR w' dX5_finds_215 fl_X5_80 rfl rfl (by first | rfl | assumption) rfl ?_
                refine g_iload_n dX5_finds_218 rfl ?_
                refine w_ald w' dX5_finds_219 (by decide) (by first | rfl | assumption) (by first | assumption | omega | (show _ < 8; omega) | (show _ < 24; omega) | (show _ < 9; omega)) ?_
                refine g_iconst (v := (-1)) dX5_finds_220 (by decide) ?_
                refine g_icmp_eq 228 dX5_finds_221 (by decide) (fun c_221 => ?_) (fun c_221 => ?_)
                · skip
                  refine g_iconst (v := 0) dX5_finds_228 (by decide) ?_
                  rw [hQ]
                  refine g_iret dX5_finds_229 rfl rfl (by decide) (by decide) ?_
                  exact absurd c_221 c_45
                · skip
                  refine g_iconst (v := 1) dX5_finds_224 (by decide) ?_
                  refine g_goto 229 dX5_finds_225 (by decide) ?_
                  rw [hQ]
                  refine g_iret dX5_finds_229 rfl rfl (by decide) (by decide) ?_
                  exact ⟨1, G, r, m, rfl, w', fr, hbj, Or.inl ⟨rfl, c_221⟩⟩
              · skip
                refine g_aload_n dX5_finds_48 rfl ?_
                refine w_getR w' dX5_finds_49 fl_X5_83 rfl rfl (by first | rfl | assumption) rfl ?_
                refine g_iload_n dX5_finds_52 rfl ?_
                refine w_ald w' dX5_finds_53 (by decide) (by first | rfl | assumption) (by first | assumption | omega | (show _ < 8; omega) | (show _ < 24; omega) | (show _ < 9; omega)) ?_
                rw [(hbj.2.2.2.1 aa (by omega)).1]
                obtain ⟨e, ee⟩ : ∃ e, e = r aa := ⟨_, rfl⟩
                have he8 : e ≤ 8 := by rw [ee]; exact (hbj.2.2.2.1 aa (by omega)).2
                rw [← ee]
                refine g_istore dX5_finds_54 (by decide) rfl ?_
                refine g_iconst (v := 0) dX5_finds_56 (by decide) ?_
                refine g_istore dX5_finds_57 (by decide) rfl ?_
                have lp_59 : ∀ (f : Nat) (j : Nat) (G : Nat → Nat → Nat → Int32) (r : Nat → Nat) (m : Nat) (h' : am_H), j ≤ q → q - j < f → WI N n p ord L G o h' → fr31 Γ G → bJ q A B (sp_pw Γ 1) (sp_pw Γ 0) G r m → aa < m → r aa = e → (∀ i j, i < aa → j < q → clo A B (sp_pw Γ 1) (sp_pw Γ 0) r m i j) → (∀ j', j' < j → clo A B (sp_pw Γ 1) (sp_pw Γ 0) r m aa j') → am_G k RX5 yX5_finds.name cX5_finds 9 (some .boolean) 0 0 Qf 59 [(5, .int (nI j)), (4, .int (nI e)), (3, .int (nI aa)), (2, .int (nI m)), (1, .int (nI t)), (0, .ref (L 11 0))] [] h' := by
                  intro f
                  induction f with
                  | zero => intro j G r m h' hj hf w' fr hbj hkm hre hcl hck; omega
                  | succ f ih2 =>
                    intro j G r m h' hj hf w' fr hbj hkm hre hcl hck
                    have hm9 := hbj.le
                    refine g_iload dX5_finds_59 rfl ?_
                    refine g_aload_n dX5_finds_61 rfl ?_
                    refine w_getI w' dX5_finds_62 fl_X5_100 rfl rfl (by first | rfl | assumption) ?_
                    rw [(fr 11 0 24 (by omega)).trans ep]
                    refine gN_ge 208 dX5_finds_65 (by decide) (by omega) (by omega) (fun c_65 => ?_) (fun c_65 => ?_)
                    · skip
                      refine g_iinc dX5_finds_208 rfl (nI_i1 _) (by decide) rfl ?_
                      refine g_goto 33 dX5_finds_211 (by decide) ?_
                      refine g_ls [(3, .int (nI (aa + 1))), (2, .int (nI m)), (1, .int (nI t)), (0, .ref (L 11 0))] ⟨rfl, rfl, rfl, rfl, trivial⟩ ?_
                      exact ih1 (aa + 1) G r m _ (by omega) (by omega) w' fr hbj (fun i j' hi hj' => by
                        by_cases z : i = aa
                        · subst z
                          exact hck j' (by omega)
                        · exact hcl i j' (by omega) hj')
                    · skip
                      have hj24 : j < 24 := by omega
                      obtain ⟨pA, hA8, pB, hB8, hAB⟩ := hp j c_65
                      refine g_aload_n dX5_finds_68 rfl ?_
                      refine w_getR w' dX5_finds_69 fl_X5_65 rfl rfl (by first | rfl | assumption) rfl ?_
                      refine g_iload dX5_finds_72 rfl ?_
                      refine w_ald w' dX5_finds_74 (by decide) (by first | rfl | assumption) (by first | assumption | omega | (show _ < 8; omega) | (show _ < 24; omega) | (show _ < 9; omega)) ?_
                      rw [(fr 12 25 j (by omega)).trans pA]
                      refine g_iload dX5_finds_75 rfl ?_
                      refine gN_ne 84 dX5_finds_77 (by decide) (by omega) (by omega) (fun c_77 => ?_) (fun c_77 => ?_)
                      · skip
                        refine g_iconst (v := 0) dX5_finds_84 (by decide) ?_
                        refine g_istore dX5_finds_85 (by decide) rfl ?_
                        refine g_iload dX5_finds_87 rfl ?_
                        refine g_if_eq 102 dX5_finds_89 (by decide) (fun _ => ?_) (fun z => absurd z (by decide))
                        refine g_aload_n dX5_finds_102 rfl ?_
                        refine w_getR w' dX5_finds_103 fl_X5_65 rfl rfl (by first | rfl | assumption) rfl ?_
                        refine g_iload dX5_finds_106 rfl ?_
                        refine w_ald w' dX5_finds_108 (by decide) (by first | rfl | assumption) (by first | assumption | omega | (show _ < 8; omega) | (show _ < 24; omega) | (show _ < 9; omega)) ?_
                        first | rw [(fr 12 26 j (by omega)).trans pB] | rw [(fr 12 25 j (by omega)).trans pA]
                        refine g_istore dX5_finds_109 (by decide) rfl ?_
                        refine g_iload dX5_finds_111 rfl ?_
                        refine g_if_ne 128 dX5_finds_113 (by decide) (fun z => absurd z (by decide)) (fun _ => ?_)
                        refine g_aload_n dX5_finds_116 rfl ?_
                        refine w_getR w' dX5_finds_117 fl_X5_68 rfl rfl (by first | rfl | assumption) rfl ?_
                        refine g_iload dX5_finds_120 rfl ?_
                        refine w_ald w' dX5_finds_122 (by decide) (by first | rfl | assumption) (by first | assumption | omega | (show _ < 8; omega) | (show _ < 24; omega) | (show _ < 9; omega)) ?_
                        rw [(fr 12 26 j (by omega)).trans pB]
                        refine g_iload dX5_finds_123 rfl ?_
                        refine gN_ne 161 dX5_finds_125 (by decide) (by omega) (by omega) (fun c_125 => ?_) (fun c_125 => ?_)
                        · skip
                          refine g_iconst (v := 0) dX5_finds_161 (by decide) ?_
                          refine g_istore dX5_finds_162 (by decide) rfl ?_
                          refine g_iload dX5_finds_164 rfl ?_
                          refine g_if_eq 202 dX5_finds_166 (by decide) (fun _ => ?_) (fun z => absurd z (by decide))
                          refine g_iinc dX5_finds_202 rfl (nI_i1 _) (by decide) rfl ?_
                          refine g_goto 59 dX5_finds_205 (by decide) ?_
                          have hsk := bfs_skip (k := aa) hbj hAB hA8 hB8 (Or.inr ⟨by omega, Or.inl (by omega)⟩)
                          refine g_ls [(5, .int (nI (j + 1))), (4, .int (nI e)), (3, .int (nI aa)), (2, .int (nI m)), (1, .int (nI t)), (0, .ref (L 11 0))] ⟨rfl, rfl, rfl, rfl, rfl, rfl, trivial⟩ ?_
                          exact ih2 (j + 1) G r m _ (by omega) (by omega) w' fr hbj (by omega) hre hcl (fun j' hj' => by
                            by_cases z : j' = j
                            · subst z
                              exact hsk
                            · exact hck j' (by omega))
                        · skip
                          refine g_iload dX5_finds_128 rfl ?_
                          refine g_bipush (v := nI 8) dX5_finds_130 (by decide) ?_
                          refine gN_eq 161 dX5_finds_132 (by decide) (by omega) (by omega) (fun c_132 => ?_) (fun c_132 => ?_)
                          · skip
                            refine g_iconst (v := 0) dX5_finds_161 (by decide) ?_
                            refine g_istore dX5_finds_162 (by decide) rfl ?_
                            refine g_iload dX5_finds_164 rfl ?_
                            refine g_if_eq 202 dX5_finds_166 (by decide) (fun _ => ?_) (fun z => absurd z (by decide))
                            refine g_iinc dX5_finds_202 rfl (nI_i1 _) (by decide) rfl ?_
                            refine g_goto 59 dX5_finds_205 (by decide) ?_
                            have hsk := bfs_skip (k := aa) hbj hAB hA8 hB8 (Or.inr ⟨by omega, Or.inr (Or.inl c_132)⟩)
                            refine g_ls [(5, .int (nI (j + 1))), (4, .int (nI e)), (3, .int (nI aa)), (2, .int (nI m)), (1, .int (nI t)), (0, .ref (L 11 0))] ⟨rfl, rfl, rfl, rfl, rfl, rfl, trivial⟩ ?_
                            exact ih2 (j + 1) G r m _ (by omega) (by omega) w' fr hbj (by omega) hre hcl (fun j' hj' => by
                              by_cases z : j' = j
                              · subst z
                                exact hsk
                              · exact hck j' (by omega))
                          · skip
                            refine g_aload_n dX5_finds_135 rfl ?_
                            refine w_getR w' dX5_finds_136 fl_X5_80 rfl rfl (by first | rfl | assumption) rfl ?_
                            refine g_iload dX5_finds_139 rfl ?_
                            refine w_ald w' dX5_finds_141 (by decide) (by first | rfl | assumption) (by first | assumption | omega | (show _ < 8; omega) | (show _ < 24; omega) | (show _ < 9; omega)) ?_
                            refine g_iconst (v := (-1)) dX5_finds_142 (by decide) ?_
                            refine g_icmp_ne 161 dX5_finds_143 (by decide) (fun c_143 => ?_) (fun c_143 => ?_)
                            · skip
                              refine g_iconst (v := 0) dX5_finds_161 (by decide) ?_
                              refine g_istore dX5_finds_162 (by decide) rfl ?_
                              refine g_iload dX5_finds_164 rfl ?_
                              refine g_if_eq 202 dX5_finds_166 (by decide) (fun _ => ?_) (fun z => absurd z (by decide))
                              refine g_iinc dX5_finds_202 rfl (nI_i1 _) (by decide) rfl ?_
                              refine g_goto 59 dX5_finds_205 (by decide) ?_
                              have hsk := bfs_skip (k := aa) hbj hAB hA8 hB8 (Or.inr ⟨by omega, Or.inr (Or.inr (Or.inl c_143))⟩)
                              refine g_ls [(5, .int (nI (j + 1))), (4, .int (nI e)), (3, .int (nI aa)), (2, .int (nI m)), (1, .int (nI t)), (0, .ref (L 11 0))] ⟨rfl, rfl, rfl, rfl, rfl, rfl, trivial⟩ ?_
                              exact ih2 (j + 1) G r m _ (by omega) (by omega) w' fr hbj (by omega) hre hcl (fun j' hj' => by
                                by_cases z : j' = j
                                · subst z
                                  exact hsk
                                · exact hck j' (by omega))
                            · skip
                              refine g_aload_n dX5_finds_146 rfl ?_
                              refine g_iload dX5_finds_147 rfl ?_
                              refine g_iload dX5_finds_149 rfl ?_
                              refine g_callV [_, _] dX5_finds_151 mc_X5_119 mi_X5_room se_X5_room (c_X5_rm hlt w' (by omega) _) (w'.k (by first | rfl | assumption)) rfl rfl (Nat.le_of_ble_eq_true rfl) (am_rm hR (by decide)) (fun _ _ z => z) (fun v hx hq hE => ?_)
                              obtain ⟨rfl, rfl⟩ := hq
                              rw [fr.rm j]
                              refine g_if_le 161 dX5_finds_154 (by decide) (fun c_154 => ?_) (fun c_154 => ?_)
                              · skip
                                refine g_iconst (v := 0) dX5_finds_161 (by decide) ?_
                                refine g_istore dX5_finds_162 (by decide) rfl ?_
                                refine g_iload dX5_finds_164 rfl ?_
                                refine g_if_eq 202 dX5_finds_166 (by decide) (fun _ => ?_) (fun z => absurd z (by decide))
                                refine g_iinc dX5_finds_202 rfl (nI_i1 _) (by decide) rfl ?_
                                refine g_goto 59 dX5_finds_205 (by decide) ?_
                                have hsk := bfs_skip (k := aa) hbj hAB hA8 hB8 (Or.inr ⟨by omega, Or.inr (Or.inr (Or.inr (fun z => z c_154)))⟩)
                                refine g_ls [(5, .int (nI (j + 1))), (4, .int (nI e)), (3, .int (nI aa)), (2, .int (nI m)), (1, .int (nI t)), (0, .ref (L 11 0))] ⟨rfl, rfl, rfl, rfl, rfl, rfl, trivial⟩ ?_
                                exact ih2 (j + 1) G r m _ (by omega) (by omega) w' fr hbj (by omega) hre hcl (fun j' hj' => by
                                  by_cases z : j' = j
                                  · subst z
                                    exact hsk
                                  · exact hck j' (by omega))
                              · skip
                                refine g_iconst (v := 1) dX5_finds_157 (by decide) ?_
                                refine g_goto 162 dX5_finds_158 (by decide) ?_
                                refine g_istore dX5_finds_162 (by decide) rfl ?_
                                refine g_iload dX5_finds_164 rfl ?_
                                refine g_if_eq 202 dX5_finds_166 (by decide) (fun z => absurd z (by decide)) (fun _ => ?_)
                                refine g_aload_n dX5_finds_169 rfl ?_
                                refine w_getR w' dX5_finds_170 fl_X5_80 rfl rfl (by first | rfl | assumption) rfl ?_
                                refine g_iload dX5_finds_173 rfl ?_
                                refine g_iload dX5_finds_175 rfl ?_
                                refine g_if_eq 185 dX5_finds_177 (by decide) (fun _ => ?_) (fun z => absurd z (by decide))
                                refine g_iload dX5_finds_185 rfl ?_
                                refine g_bipush (v := nI 24) dX5_finds_187 (by decide) ?_
                                refine g_iadd dX5_finds_189 ?_
                                try rw [nI_add]
                                refine w_ast w' dX5_finds_190 (by decide) (by first | rfl | assumption) (by first | assumption | omega | (show _ < 8; omega) | (show _ < 24; omega) | (show _ < 9; omega)) (fun h62 w62 => ?_)
                                have hm9 : m < 9 := by first | exact hbj.lt hB8 c_143 | exact hbj.lt (by omega) c_143
                                refine g_aload_n dX5_finds_191 rfl ?_
                                refine w_getR w62 dX5_finds_192 fl_X5_83 rfl rfl (by first | rfl | assumption) rfl ?_
                                refine g_iload_n dX5_finds_195 rfl ?_
                                refine g_iload dX5_finds_196 rfl ?_
                                refine w_ast w62 dX5_finds_198 (by decide) (by first | rfl | assumption) (by first | assumption | omega | (show _ < 8; omega) | (show _ < 24; omega) | (show _ < 9; omega)) (fun h63 w63 => ?_)
                                refine g_iinc dX5_finds_199 rfl (nI_i1 _) (by decide) rfl ?_
                                refine g_iinc dX5_finds_202 rfl (nI_i1 _) (by decide) rfl ?_
                                refine g_goto 59 dX5_finds_205 (by decide) ?_
                                have hb2 := hbj.add (k := aa) (v := (A j)) (w := (j + 24)) (by omega) (by omega) c_143 (by omega) (Or.inr ⟨by omega, by omega, by rw [Nat.add_sub_cancel], by rw [Nat.add_sub_cancel]; omega, by rw [Nat.add_sub_cancel]; exact c_154⟩)
                                refine g_ls [(5, .int (nI (j + 1))), (4, .int (nI e)), (3, .int (nI aa)), (2, .int (nI (m + 1))), (1, .int (nI t)), (0, .ref (L 11 0))] ⟨rfl, rfl, rfl, rfl, rfl, rfl, trivial⟩ ?_
                                exact ih2 (j + 1) _ (fun i => if i = m then A j else r i) (m + 1) _ (by omega) (by omega) w63 ((fr.u31 _ _).u32 _ _) hb2 (by omega) (by show (if aa = m then _ else r aa) = e; rw [if_neg (by omega)]; exact hre) (fun i j' hi hj' => (hcl i j' hi hj').up (by omega)) (fun j' hj' => by
                                  by_cases z : j' = j
                                  · subst z
                                    exact clo.new (by omega) hAB (Or.inr ⟨by omega, rfl⟩)
                                  · exact (hck j' (by omega)).up (by omega))
                      · skip
                        refine g_iconst (v := 1) dX5_finds_80 (by decide) ?_
                        refine g_goto 85 dX5_finds_81 (by decide) ?_
                        refine g_istore dX5_finds_85 (by decide) rfl ?_
                        refine g_iload dX5_finds_87 rfl ?_
                        refine g_if_eq 102 dX5_finds_89 (by decide) (fun z => absurd z (by decide)) (fun _ => ?_)
                        refine g_aload_n dX5_finds_92 rfl ?_
                        refine w_getR w' dX5_finds_93 fl_X5_68 rfl rfl (by first | rfl | assumption) rfl ?_
                        refine g_iload dX5_finds_96 rfl ?_
                        refine w_ald w' dX5_finds_98 (by decide) (by first | rfl | assumption) (by first | assumption | omega | (show _ < 8; omega) | (show _ < 24; omega) | (show _ < 9; omega)) ?_
                        refine g_goto 109 dX5_finds_99 (by decide) ?_
                        first | rw [(fr 12 26 j (by omega)).trans pB] | rw [(fr 12 25 j (by omega)).trans pA]
                        refine g_istore dX5_finds_109 (by decide) rfl ?_
                        refine g_iload dX5_finds_111 rfl ?_
                        refine g_if_ne 128 dX5_finds_113 (by decide) (fun _ => ?_) (fun z => absurd z (by decide))
                        refine g_iload dX5_finds_128 rfl ?_
                        refine g_bipush (v := nI 8) dX5_finds_130 (by decide) ?_
                        refine gN_eq 161 dX5_finds_132 (by decide) (by omega) (by omega) (fun c_132 => ?_) (fun c_132 => ?_)
                        · skip
                          refine g_iconst (v := 0) dX5_finds_161 (by decide) ?_
                          refine g_istore dX5_finds_162 (by decide) rfl ?_
                          refine g_iload dX5_finds_164 rfl ?_
                          refine g_if_eq 202 dX5_finds_166 (by decide) (fun _ => ?_) (fun z => absurd z (by decide))
                          refine g_iinc dX5_finds_202 rfl (nI_i1 _) (by decide) rfl ?_
                          refine g_goto 59 dX5_finds_205 (by decide) ?_
                          have hsk := bfs_skip (k := aa) hbj hAB hA8 hB8 (absurd c_132 (by omega))
                          refine g_ls [(5, .int (nI (j + 1))), (4, .int (nI e)), (3, .int (nI aa)), (2, .int (nI m)), (1, .int (nI t)), (0, .ref (L 11 0))] ⟨rfl, rfl, rfl, rfl, rfl, rfl, trivial⟩ ?_
                          exact ih2 (j + 1) G r m _ (by omega) (by omega) w' fr hbj (by omega) hre hcl (fun j' hj' => by
                            by_cases z : j' = j
                            · subst z
                              exact hsk
                            · exact hck j' (by omega))
                        · skip
                          refine g_aload_n dX5_finds_135 rfl ?_
                          refine w_getR w' dX5_finds_136 fl_X5_80 rfl rfl (by first | rfl | assumption) rfl ?_
                          refine g_iload dX5_finds_139 rfl ?_
                          refine w_ald w' dX5_finds_141 (by decide) (by first | rfl | assumption) (by first | assumption | omega | (show _ < 8; omega) | (show _ < 24; omega) | (show _ < 9; omega)) ?_
                          refine g_iconst (v := (-1)) dX5_finds_142 (by decide) ?_
                          refine g_icmp_ne 161 dX5_finds_143 (by decide) (fun c_143 => ?_) (fun c_143 => ?_)
                          · skip
                            refine g_iconst (v := 0) dX5_finds_161 (by decide) ?_
                            refine g_istore dX5_finds_162 (by decide) rfl ?_
                            refine g_iload dX5_finds_164 rfl ?_
                            refine g_if_eq 202 dX5_finds_166 (by decide) (fun _ => ?_) (fun z => absurd z (by decide))
                            refine g_iinc dX5_finds_202 rfl (nI_i1 _) (by decide) rfl ?_
                            refine g_goto 59 dX5_finds_205 (by decide) ?_
                            have hsk := bfs_skip (k := aa) hbj hAB hA8 hB8 (Or.inl ⟨by omega, Or.inl c_143⟩)
                            refine g_ls [(5, .int (nI (j + 1))), (4, .int (nI e)), (3, .int (nI aa)), (2, .int (nI m)), (1, .int (nI t)), (0, .ref (L 11 0))] ⟨rfl, rfl, rfl, rfl, rfl, rfl, trivial⟩ ?_
                            exact ih2 (j + 1) G r m _ (by omega) (by omega) w' fr hbj (by omega) hre hcl (fun j' hj' => by
                              by_cases z : j' = j
                              · subst z
                                exact hsk
                              · exact hck j' (by omega))
                          · skip
                            refine g_aload_n dX5_finds_146 rfl ?_
                            refine g_iload dX5_finds_147 rfl ?_
                            refine g_iload dX5_finds_149 rfl ?_
                            refine g_callV [_, _] dX5_finds_151 mc_X5_119 mi_X5_room se_X5_room (c_X5_rm hlt w' (by omega) _) (w'.k (by first | rfl | assumption)) rfl rfl (Nat.le_of_ble_eq_true rfl) (am_rm hR (by decide)) (fun _ _ z => z) (fun v hx hq hE => ?_)
                            obtain ⟨rfl, rfl⟩ := hq
                            rw [fr.rm j]
                            refine g_if_le 161 dX5_finds_154 (by decide) (fun c_154 => ?_) (fun c_154 => ?_)
                            · skip
                              refine g_iconst (v := 0) dX5_finds_161 (by decide) ?_
                              refine g_istore dX5_finds_162 (by decide) rfl ?_
                              refine g_iload dX5_finds_164 rfl ?_
                              refine g_if_eq 202 dX5_finds_166 (by decide) (fun _ => ?_) (fun z => absurd z (by decide))
                              refine g_iinc dX5_finds_202 rfl (nI_i1 _) (by decide) rfl ?_
                              refine g_goto 59 dX5_finds_205 (by decide) ?_
                              have hsk := bfs_skip (k := aa) hbj hAB hA8 hB8 (Or.inl ⟨by omega, Or.inr (fun z => z c_154)⟩)
                              refine g_ls [(5, .int (nI (j + 1))), (4, .int (nI e)), (3, .int (nI aa)), (2, .int (nI m)), (1, .int (nI t)), (0, .ref (L 11 0))] ⟨rfl, rfl, rfl, rfl, rfl, rfl, trivial⟩ ?_
                              exact ih2 (j + 1) G r m _ (by omega) (by omega) w' fr hbj (by omega) hre hcl (fun j' hj' => by
                                by_cases z : j' = j
                                · subst z
                                  exact hsk
                                · exact hck j' (by omega))
                            · skip
                              refine g_iconst (v := 1) dX5_finds_157 (by decide) ?_
                              refine g_goto 162 dX5_finds_158 (by decide) ?_
                              refine g_istore dX5_finds_162 (by decide) rfl ?_
                              refine g_iload dX5_finds_164 rfl ?_
                              refine g_if_eq 202 dX5_finds_166 (by decide) (fun z => absurd z (by decide)) (fun _ => ?_)
                              refine g_aload_n dX5_finds_169 rfl ?_
                              refine w_getR w' dX5_finds_170 fl_X5_80 rfl rfl (by first | rfl | assumption) rfl ?_
                              refine g_iload dX5_finds_173 rfl ?_
                              refine g_iload dX5_finds_175 rfl ?_
                              refine g_if_eq 185 dX5_finds_177 (by decide) (fun z => absurd z (by decide)) (fun _ => ?_)
                              refine g_iload dX5_finds_180 rfl ?_
                              refine g_goto 190 dX5_finds_182 (by decide) ?_
                              try rw [nI_add]
                              refine w_ast w' dX5_finds_190 (by decide) (by first | rfl | assumption) (by first | assumption | omega | (show _ < 8; omega) | (show _ < 24; omega) | (show _ < 9; omega)) (fun h64 w64 => ?_)
                              have hm9 : m < 9 := by first | exact hbj.lt hB8 c_143 | exact hbj.lt (by omega) c_143
                              refine g_aload_n dX5_finds_191 rfl ?_
                              refine w_getR w64 dX5_finds_192 fl_X5_83 rfl rfl (by first | rfl | assumption) rfl ?_
                              refine g_iload_n dX5_finds_195 rfl ?_
                              refine g_iload dX5_finds_196 rfl ?_
                              refine w_ast w64 dX5_finds_198 (by decide) (by first | rfl | assumption) (by first | assumption | omega | (show _ < 8; omega) | (show _ < 24; omega) | (show _ < 9; omega)) (fun h65 w65 => ?_)
                              refine g_iinc dX5_finds_199 rfl (nI_i1 _) (by decide) rfl ?_
                              refine g_iinc dX5_finds_202 rfl (nI_i1 _) (by decide) rfl ?_
                              refine g_goto 59 dX5_finds_205 (by decide) ?_
                              have hb2 := hbj.add (k := aa) (v := (B j)) (w := j) (by omega) (by omega) c_143 (by omega) (Or.inl ⟨by omega, by omega, rfl, by omega, c_154⟩)
                              refine g_ls [(5, .int (nI (j + 1))), (4, .int (nI e)), (3, .int (nI aa)), (2, .int (nI (m + 1))), (1, .int (nI t)), (0, .ref (L 11 0))] ⟨rfl, rfl, rfl, rfl, rfl, rfl, trivial⟩ ?_
                              exact ih2 (j + 1) _ (fun i => if i = m then B j else r i) (m + 1) _ (by omega) (by omega) w65 ((fr.u31 _ _).u32 _ _) hb2 (by omega) (by show (if aa = m then _ else r aa) = e; rw [if_neg (by omega)]; exact hre) (fun i j' hi hj' => (hcl i j' hi hj').up (by omega)) (fun j' hj' => by
                                by_cases z : j' = j
                                · subst z
                                  exact clo.new (by omega) hAB (Or.inl ⟨by omega, rfl⟩)
                                · exact (hck j' (by omega)).up (by omega))
                refine g_ls [(5, .int (nI 0)), (4, .int (nI e)), (3, .int (nI aa)), (2, .int (nI m)), (1, .int (nI t)), (0, .ref (L 11 0))] ⟨rfl, rfl, rfl, rfl, rfl, rfl, trivial⟩ ?_
                exact lp_59 (q + 1) 0 G r m _ (by omega) (by omega) w' fr hbj (by omega) ee.symm hcl (fun j' hj' => absurd hj' (Nat.not_lt_zero _))
        refine g_ls [(3, .int (nI 0)), (2, .int (nI 1)), (1, .int (nI t)), (0, .ref (L 11 0))] ⟨rfl, rfl, rfl, rfl, trivial⟩ ?_
        exact lp_33 10 0 _ (fun _ => 8) 1 _ (by omega) (by omega) w21 ((sp_w31_fr Γ 9).u32 _ _) (bJ.init Γ) (fun i j hi => absurd hi (Nat.not_lt_zero _))
      · skip
        refine g_aload_n dX5_finds_8 rfl ?_
        refine w_getR w' dX5_finds_9 fl_X5_80 rfl rfl (by first | rfl | assumption) rfl ?_
        refine g_iload_n dX5_finds_12 rfl ?_
        refine g_iconst (v := (-1)) dX5_finds_13 (by decide) ?_
        refine w_ast w' dX5_finds_14 (by decide) (by first | rfl | assumption) (by first | assumption | omega | (show _ < 8; omega) | (show _ < 24; omega) | (show _ < 9; omega)) (fun h22 w22 => ?_)
        refine g_iinc dX5_finds_15 rfl (nI_i1 _) (by decide) rfl ?_
        refine g_goto 2 dX5_finds_18 (by decide) ?_
        refine g_ls [(2, .int (nI (j + 1))), (1, .int (nI t)), (0, .ref (L 11 0))] ⟨rfl, rfl, rfl, trivial⟩ ?_
        exact ih (j + 1) _ (by omega) (by omega) w22
  refine g_ls [(2, .int (nI 0)), (1, .int (nI t)), (0, .ref (L 11 0))] ⟨rfl, rfl, rfl, trivial⟩ ?_
  exact lp_2 10 0 _ (by omega) (by omega) w
