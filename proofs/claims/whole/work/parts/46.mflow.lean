theorem it_at {f : Nat → (Nat → Nat → Nat → Int32) → Nat → Nat → Nat → Int32} (key : Nat → Nat → Nat → Nat) (hf : ∀ k Γ c i j, key c i j ≠ k → f k Γ c i j = Γ c i j) (Γ : Nat → Nat → Nat → Int32) : ∀ m c i j, sp_it f m Γ c i j = if key c i j < m then f (key c i j) (sp_it f (key c i j) Γ) c i j else Γ c i j
  | 0, c, i, j => (if_neg (Nat.not_lt_zero _)).symm
  | m + 1, c, i, j => by
    show f m (sp_it f m Γ) c i j = _
    by_cases e : key c i j = m
    · rw [if_pos (by omega), e]
    · rw [hf m _ c i j e, it_at key hf Γ m c i j]
      by_cases h : key c i j < m
      · rw [if_pos h, if_pos (by omega)]
      · rw [if_neg h, if_neg (by omega)]
/-- row 33 out of another row -/
def sp_m33 (s b : Nat) (Γ : Nat → Nat → Nat → Int32) : Nat → Nat → Nat → Int32 := sp_it (fun k Γ => u3 Γ 12 33 k (Γ 12 s k)) b Γ
theorem sp_m33_fr {s b : Nat} {Γ : Nat → Nat → Nat → Int32} {c i j : Nat} (h : ¬ (c = 12 ∧ i = 33)) : sp_m33 s b Γ c i j = Γ c i j := sp_it_pres (fun k Γ => u3_n (fun z => h ⟨z.1, z.2.1⟩)) Γ b
theorem sp_m33_at {s : Nat} (hs : s ≠ 33) {Γ : Nat → Nat → Nat → Int32} {j : Nat} : ∀ {b : Nat}, j < b → sp_m33 s b Γ 12 33 j = Γ 12 s j
  | 0, h => absurd h (Nat.not_lt_zero _)
  | b + 1, h => by
    show u3 (sp_m33 s b Γ) 12 33 b (sp_m33 s b Γ 12 s b) 12 33 j = _
    by_cases c : j = b
    · rw [c, u3_s, sp_m33_fr (by omega)]
    · rw [u3_n (by omega)]
      exact sp_m33_at hs (by omega)
def sp_mpay (b : Nat) (Γ : Nat → Nat → Nat → Int32) : Nat → Nat → Nat → Int32 := sp_it (fun k Γ => u3 Γ 12 18 k (Γ 12 18 k + Γ 12 17 k * Γ 12 7 k)) b Γ
theorem sp_mpay_fr {b : Nat} {Γ : Nat → Nat → Nat → Int32} {c i j : Nat} (h : ¬ (c = 12 ∧ i = 18)) : sp_mpay b Γ c i j = Γ c i j := sp_it_pres (fun k Γ => u3_n (fun z => h ⟨z.1, z.2.1⟩)) Γ b
theorem sp_mpay_at {Γ : Nat → Nat → Nat → Int32} {j : Nat} : ∀ {b : Nat}, sp_mpay b Γ 12 18 j = if j < b then Γ 12 18 j + Γ 12 17 j * Γ 12 7 j else Γ 12 18 j
  | 0 => rfl
  | b + 1 => by
    show u3 (sp_mpay b Γ) 12 18 b (sp_mpay b Γ 12 18 b + sp_mpay b Γ 12 17 b * sp_mpay b Γ 12 7 b) 12 18 j = _
    by_cases c : j = b
    · rw [c, u3_s, sp_mpay_at, if_neg (Nat.lt_irrefl _), if_pos (Nat.lt_succ_self _), sp_mpay_fr (by omega), sp_mpay_fr (by omega)]
    · rw [u3_n (by omega), sp_mpay_at]
      by_cases d : j < b
      · rw [if_pos d, if_pos (by omega)]
      · rw [if_neg d, if_neg (by omega)]
def sp_mbk (Γ : Nat → Nat → Nat → Int32) (k : Nat) : Int32 := Γ 12 19 k + ((Γ 12 33 k - Γ 12 17 k) * Γ 12 7 k + (Γ 12 33 k - Γ 12 17 k) * Γ 12 7 k / 10)
def sp_mback (b : Nat) (Γ : Nat → Nat → Nat → Int32) : Nat → Nat → Nat → Int32 := sp_it (fun k Γ => u3 Γ 12 19 k (sp_mbk Γ k)) b Γ
theorem sp_mback_fr {b : Nat} {Γ : Nat → Nat → Nat → Int32} {c i j : Nat} (h : ¬ (c = 12 ∧ i = 19)) : sp_mback b Γ c i j = Γ c i j := sp_it_pres (fun k Γ => u3_n (fun z => h ⟨z.1, z.2.1⟩)) Γ b
theorem sp_mback_at {Γ : Nat → Nat → Nat → Int32} {j : Nat} : ∀ {b : Nat}, sp_mback b Γ 12 19 j = if j < b then sp_mbk Γ j else Γ 12 19 j
  | 0 => rfl
  | b + 1 => by
    show u3 (sp_mback b Γ) 12 19 b (sp_mbk (sp_mback b Γ) b) 12 19 j = _
    by_cases c : j = b
    · rw [c, u3_s, if_pos (Nat.lt_succ_self _)]
      unfold sp_mbk
      rw [sp_mback_at, if_neg (Nat.lt_irrefl _), sp_mback_fr (by omega), sp_mback_fr (by omega), sp_mback_fr (by omega)]
    · rw [u3_n (by omega), sp_mback_at]
      by_cases d : j < b
      · rw [if_pos d, if_pos (by omega)]
      · rw [if_neg d, if_neg (by omega)]
theorem frJ_m33 (s b : Nat) (Γ : Nat → Nat → Nat → Int32) : frJ Γ (sp_m33 s b Γ) := fun c i j z => sp_m33_fr (by omega)
set_option maxRecDepth 100000 in
set_option maxHeartbeats 4000000 in
theorem c_X5_begins {l : Launch} (hlt : l.stackTraces = false) {N n p : Nat} {ord : List Nat} {L : Nat → Nat → Nat} {Γ : Nat → Nat → Nat → Int32} {o : Int64} {h : am_H} (w : WI N n p ord L Γ o h) {b : Nat} (hb : b ≤ 8) (en : Γ 11 0 3 = nI b) {q : Nat} (hq : q ≤ 24) (ep : Γ 11 0 24 = nI q) {A B od : Nat → Nat} {len : Nat} (hs : SJ Γ b q A B od len) (hod : ∀ i, i < len → od i < b) (hmo : ∀ i, i < len → 0 ≤ (Γ 12 8 (od i)).toInt ∧ (Γ 12 8 (od i)).toInt ≤ 9999) : am_Con l yX5_begins (.code yX5_begins cX5_begins 2 none) 5 0 0 [.ref (L 11 0)] h (fun v h' => ∃ (x : Nat → Int) (G : Nat → Nat → Nat → Int32), v = none ∧ WI N n p ord L (u3 (sp_mpay b G) 11 0 1 (-1)) o h' ∧ STL (sp_m33 8 b Γ) G q A B od len x) (fun _ _ => False) := by
  refine am_body hlt (by decide +kernel) (Nat.le_of_ble_eq_true rfl) (fun k hl hR h0 hno => ?_)
  subst hl
  obtain ⟨Qf, hQ⟩ : ∃ Qf, Qf = am_Q k 0 0 (fun v h' => ∃ (x : Nat → Int) (G : Nat → Nat → Nat → Int32), v = none ∧ WI N n p ord L (u3 (sp_mpay b G) 11 0 1 (-1)) o h' ∧ STL (sp_m33 8 b Γ) G q A B od len x) (fun _ _ => False) := ⟨_, rfl⟩
  rw [← hQ]
  have hm : wdm n p 11 0 = true := rfl
  refine g_iconst (v := 0) dX5_begins_0 (by decide) ?_
  refine g_istore_n dX5_begins_1 (by decide) rfl ?_
  have lp_2 : ∀ (f : Nat) (j : Nat) (h' : am_H), j ≤ b → b - j < f → WI N n p ord L (sp_m33 8 j Γ) o h' → am_G k RX5 yX5_begins.name cX5_begins 2 none 0 0 Qf 2 [(1, .int (nI j)), (0, .ref (L 11 0))] [] h' := by
    intro f
    induction f with
    | zero => intro j h' hj hf w'; omega
    | succ f ih =>
      intro j h' hj hf w'
      refine g_iload_n dX5_begins_2 rfl ?_
      refine g_aload_n dX5_begins_3 rfl ?_
      refine w_getI w' dX5_begins_4 fl_X5_93 rfl rfl (by first | rfl | assumption) ?_
      rw [(sp_m33_fr (s := 8) (b := j) (Γ := Γ) (c := 11) (i := 0) (j := 3) (by omega)).trans en]
      refine gN_ge 28 dX5_begins_7 (by decide) (by omega) (by omega) (fun c_7 => ?_) (fun c_7 => ?_)
      · skip
        have ej : j = b := by omega
        rw [ej] at w'
        refine g_aload_n dX5_begins_28 rfl ?_
        refine g_callV [] dX5_begins_29 mc_X5_160 mi_X5_settles se_X5_settles (c_X5_settles hlt w' hb ((sp_m33_fr (by omega)).trans en) hq ((sp_m33_fr (by omega)).trans ep) (hs.congr (frJ_m33 8 b Γ)) (fun i hi => by rw [sp_m33_at (by decide) (hod i hi)]; exact hmo i hi)) (w'.k (by first | rfl | assumption)) rfl rfl (Nat.le_of_ble_eq_true rfl) (am_rm hR (by decide)) (fun _ _ z => z) (fun v hx hq hE => ?_)
        obtain ⟨x, G, rfl, w21, hstl⟩ := hq
        have enG : G 11 0 3 = nI b := (hstl.1 11 0 3 (by omega) (by omega) (by omega)).trans ((sp_m33_fr (by omega)).trans en)
        refine g_iconst (v := 0) dX5_begins_32 (by decide) ?_
        refine g_istore_n dX5_begins_33 (by decide) rfl ?_
        have lp_34 : ∀ (f : Nat) (j : Nat) (h' : am_H), j ≤ b → b - j < f → WI N n p ord L (sp_mpay j G) o h' → am_G k RX5 yX5_begins.name cX5_begins 2 none 0 0 Qf 34 [(1, .int (nI j)), (0, .ref (L 11 0))] [] h' := by
          intro f
          induction f with
          | zero => intro j h' hj hf w'; omega
          | succ f ih2 =>
            intro j h' hj hf w'
            refine g_iload_n dX5_begins_34 rfl ?_
            refine g_aload_n dX5_begins_35 rfl ?_
            refine w_getI w' dX5_begins_36 fl_X5_93 rfl rfl (by first | rfl | assumption) ?_
            rw [(sp_mpay_fr (b := j) (Γ := G) (c := 11) (i := 0) (j := 3) (by omega)).trans enG]
            refine gN_ge 70 dX5_begins_39 (by decide) (by omega) (by omega) (fun c_39 => ?_) (fun c_39 => ?_)
            · skip
              have ej : j = b := by omega
              rw [ej] at w'
              refine g_aload_n dX5_begins_70 rfl ?_
              refine g_iconst (v := (-1)) dX5_begins_71 (by decide) ?_
              refine w_putI w' dX5_begins_72 fl_X5_110 rfl rfl (by decide) (fun q hq => by cases hq; rfl) (by first | rfl | assumption) rfl rfl (fun h42 w42 => ?_)
              rw [hQ]
              refine g_vret dX5_begins_75 rfl (by decide) (by decide) ?_
              exact ⟨x, G, rfl, w42, hstl⟩
            · skip
              refine g_aload_n dX5_begins_42 rfl ?_
              refine w_getR w' dX5_begins_43 fl_X5_50 rfl rfl (by first | rfl | assumption) rfl ?_
              refine g_iload_n dX5_begins_46 rfl ?_
              refine g_dup2 dX5_begins_47 rfl rfl ?_
              refine w_ald w' dX5_begins_48 (by decide) (by first | rfl | assumption) (by first | assumption | omega | (show _ < 8; omega) | (show _ < 24; omega) | (show _ < 9; omega)) ?_
              refine g_aload_n dX5_begins_49 rfl ?_
              refine w_getR w' dX5_begins_50 fl_X5_47 rfl rfl (by first | rfl | assumption) rfl ?_
              refine g_iload_n dX5_begins_53 rfl ?_
              refine w_ald w' dX5_begins_54 (by decide) (by first | rfl | assumption) (by first | assumption | omega | (show _ < 8; omega) | (show _ < 24; omega) | (show _ < 9; omega)) ?_
              refine g_aload_n dX5_begins_55 rfl ?_
              refine w_getR w' dX5_begins_56 fl_X5_19 rfl rfl (by first | rfl | assumption) rfl ?_
              refine g_iload_n dX5_begins_59 rfl ?_
              refine w_ald w' dX5_begins_60 (by decide) (by first | rfl | assumption) (by first | assumption | omega | (show _ < 8; omega) | (show _ < 24; omega) | (show _ < 9; omega)) ?_
              refine g_imul dX5_begins_61 ?_
              refine g_iadd dX5_begins_62 ?_
              refine w_ast w' dX5_begins_63 (by decide) (by first | rfl | assumption) (by first | assumption | omega | (show _ < 8; omega) | (show _ < 24; omega) | (show _ < 9; omega)) (fun h43 w43 => ?_)
              refine g_iinc dX5_begins_64 rfl (nI_i1 _) (by decide) rfl ?_
              refine g_goto 34 dX5_begins_67 (by decide) ?_
              refine g_ls [(1, .int (nI (j + 1))), (0, .ref (L 11 0))] ⟨rfl, rfl, trivial⟩ ?_
              exact ih2 (j + 1) _ (by omega) (by omega) w43
        refine g_ls [(1, .int (nI 0)), (0, .ref (L 11 0))] ⟨rfl, rfl, trivial⟩ ?_
        exact lp_34 (b + 1) 0 _ (by omega) (by omega) w21
      · skip
        refine g_aload_n dX5_begins_10 rfl ?_
        refine w_getR w' dX5_begins_11 fl_X5_86 rfl rfl (by first | rfl | assumption) rfl ?_
        refine g_iload_n dX5_begins_14 rfl ?_
        refine g_aload_n dX5_begins_15 rfl ?_
        refine w_getR w' dX5_begins_16 fl_X5_22 rfl rfl (by first | rfl | assumption) rfl ?_
        refine g_iload_n dX5_begins_19 rfl ?_
        refine w_ald w' dX5_begins_20 (by decide) (by first | rfl | assumption) (by first | assumption | omega | (show _ < 8; omega) | (show _ < 24; omega) | (show _ < 9; omega)) ?_
        refine w_ast w' dX5_begins_21 (by decide) (by first | rfl | assumption) (by first | assumption | omega | (show _ < 8; omega) | (show _ < 24; omega) | (show _ < 9; omega)) (fun h22 w22 => ?_)
        refine g_iinc dX5_begins_22 rfl (nI_i1 _) (by decide) rfl ?_
        refine g_goto 2 dX5_begins_25 (by decide) ?_
        refine g_ls [(1, .int (nI (j + 1))), (0, .ref (L 11 0))] ⟨rfl, rfl, trivial⟩ ?_
        exact ih (j + 1) _ (by omega) (by omega) w22
  refine g_ls [(1, .int (nI 0)), (0, .ref (L 11 0))] ⟨rfl, rfl, trivial⟩ ?_
  exact lp_2 (b + 1) 0 _ (by omega) (by omega) w
set_option maxRecDepth 100000 in
set_option maxHeartbeats 4000000 in
theorem c_X5_burst_0b {l : Launch} (hlt : l.stackTraces = false) {N n p : Nat} {ord : List Nat} {L : Nat → Nat → Nat} {Γ : Nat → Nat → Nat → Int32} {o : Int64} {h : am_H} (w : WI N n p ord L Γ o h) {b : Nat} (hb : b ≤ 8) (en : Γ 11 0 3 = nI b) {q : Nat} (hq : q ≤ 24) (ep : Γ 11 0 24 = nI q) {A B od : Nat → Nat} {len : Nat} {i : Nat} (hi : i < q) (hf0 : Γ 13 28 i = 0) (hg : Γ 11 0 1 = -1) (hs : SJ (u3 (u3 Γ 11 0 34 0) 13 28 i 1) b q A B od len) (hod : ∀ i, i < len → od i < b) (hmo : ∀ i, i < len → 0 ≤ (Γ 12 17 (od i)).toInt ∧ (Γ 12 17 (od i)).toInt ≤ 9999) : am_Con l yX5_burst (.code yX5_burst cX5_burst 6 (some .int)) 20 0 0 [.ref (L 11 0), .int (nI i)] h (fun v h' => ∃ (x : Nat → Int) (G : Nat → Nat → Nat → Int32), v = some (.int (sp_sum (fun k => G 12 33 k - G 12 17 k) b)) ∧ WI N n p ord L (sp_mback b G) o h' ∧ STL (sp_m33 17 b (u3 (u3 Γ 11 0 34 0) 13 28 i 1)) G q A B od len x) (fun _ _ => False) := by
  refine am_body hlt (by decide +kernel) (Nat.le_of_ble_eq_true rfl) (fun k hl hR h0 hno => ?_)
  subst hl
  obtain ⟨Qf, hQ⟩ : ∃ Qf, Qf = am_Q k 0 0 (fun v h' => ∃ (x : Nat → Int) (G : Nat → Nat → Nat → Int32), v = some (.int (sp_sum (fun k => G 12 33 k - G 12 17 k) b)) ∧ WI N n p ord L (sp_mback b G) o h' ∧ STL (sp_m33 17 b (u3 (u3 Γ 11 0 34 0) 13 28 i 1)) G q A B od len x) (fun _ _ => False) := ⟨_, rfl⟩
  rw [← hQ]
  have hm : wdm n p 11 0 = true := rfl
  refine g_aload_n dX5_burst_0 rfl ?_
  refine g_iload_n dX5_burst_1 rfl ?_
  refine g_callV [_] dX5_burst_2 mc_X5_166 mi_X5_isPipe se_X5_isPipe (c_X5_isP_1 hlt w hq ep (by assumption)) (w.k (by first | rfl | assumption)) rfl rfl (Nat.le_of_ble_eq_true rfl) (am_rm hR (by decide)) (fun _ _ z => z) (fun v hx hq hE => ?_)
  obtain ⟨rfl, rfl⟩ := hq
  refine g_istore_n dX5_burst_5 (by decide) rfl ?_
  refine g_aload_n dX5_burst_6 rfl ?_
  refine g_iload_n dX5_burst_7 rfl ?_
  refine g_if_ne 15 dX5_burst_8 (by decide) (fun _ => ?_) (fun z => absurd z (by decide))
  refine g_aload_n dX5_burst_15 rfl ?_
  refine w_getR w dX5_burst_16 fl_X5_74 rfl rfl (by first | rfl | assumption) rfl ?_
  refine g_iload_n dX5_burst_19 rfl ?_
  refine w_zald w dX5_burst_20 (by first | rfl | assumption) (by first | assumption | omega | (show _ < 8; omega) | (show _ < 24; omega) | (show _ < 9; omega)) ?_
  refine g_if_eq 28 dX5_burst_21 (by decide) (fun c_21 => ?_) (fun z => absurd hf0 z)
  refine g_iconst (v := 0) dX5_burst_28 (by decide) ?_
  refine g_callV [_] dX5_burst_29 mc_X5_103 mi_X5_can se_X5_can (c_X5_can_0 hlt w) (w.k (by first | rfl | assumption)) rfl rfl (Nat.le_of_ble_eq_true rfl) (am_rm hR (by decide)) (fun _ _ z => z) (fun v hx hq hE => ?_)
  obtain ⟨rfl, w1⟩ := hq
  obtain ⟨Γ1, hG⟩ : ∃ G, G = u3 Γ 11 0 34 0 := ⟨_, rfl⟩
  rw [← hG] at w1
  have en1 : Γ1 11 0 3 = Γ 11 0 3 := by rw [hG]; rfl
  have ep1 : Γ1 11 0 24 = Γ 11 0 24 := by rw [hG]; rfl
  refine g_if_ne 37 dX5_burst_32 (by decide) (fun _ => ?_) (fun z => absurd z (by decide))
  refine g_aload_n dX5_burst_37 rfl ?_
  refine w_getR w1 dX5_burst_38 fl_X5_74 rfl rfl (by first | rfl | assumption) rfl ?_
  refine g_iload_n dX5_burst_41 rfl ?_
  refine g_iconst (v := 1) dX5_burst_42 (by decide) ?_
  refine w_zast w1 dX5_burst_43 (by first | rfl | assumption) (by first | assumption | omega | (show _ < 8; omega) | (show _ < 24; omega) | (show _ < 9; omega)) rfl (fun h2 w2 => ?_)
  subst hG
  obtain ⟨GB, hGB⟩ : ∃ G, G = (u3 (u3 Γ 11 0 34 0) 13 28 i 1) := ⟨_, rfl⟩
  rw [← hGB] at hs w2
  have enB : GB 11 0 3 = nI b := by rw [hGB]; exact en
  have epB : GB 11 0 24 = nI q := by rw [hGB]; exact ep
  refine g_aload_n dX5_burst_44 rfl ?_
  refine w_getI w2 dX5_burst_45 fl_X5_110 rfl rfl (by first | rfl | assumption) ?_
  refine g_iconst (v := (-1)) dX5_burst_48 (by decide) ?_
  refine g_icmp_eq 54 dX5_burst_49 (by decide) (fun c_49 => ?_) (fun z => absurd (show GB 11 0 1 = -1 from by rw [hGB]; exact hg) z)
  refine g_iconst (v := 0) dX5_burst_54 (by decide) ?_
  refine g_istore_n dX5_burst_55 (by decide) rfl ?_
  have lp_56 : ∀ (f : Nat) (j : Nat) (h' : am_H), j ≤ b → b - j < f → WI N n p ord L (sp_m33 17 j GB) o h' → am_G k RX5 yX5_burst.name cX5_burst 6 (some .int) 0 0 Qf 56 [(3, .int (nI j)), (1, .int (nI i)), (0, .ref (L 11 0))] [] h' := by
    intro f
    induction f with
    | zero => intro j h' hj hf w'; omega
    | succ f ih =>
      intro j h' hj hf w'
      refine g_iload_n dX5_burst_56 rfl ?_
      refine g_aload_n dX5_burst_57 rfl ?_
      refine w_getI w' dX5_burst_58 fl_X5_93 rfl rfl (by first | rfl | assumption) ?_
      rw [(sp_m33_fr (s := 17) (b := j) (Γ := GB) (c := 11) (i := 0) (j := 3) (by omega)).trans enB]
      refine gN_ge 82 dX5_burst_61 (by decide) (by omega) (by omega) (fun c_61 => ?_) (fun c_61 => ?_)
      · skip
        have ej : j = b := by omega
        rw [ej] at w'
        refine g_aload_n dX5_burst_82 rfl ?_
        refine g_callV [] dX5_burst_83 mc_X5_160 mi_X5_settles se_X5_settles (c_X5_settles hlt w' hb ((sp_m33_fr (by omega)).trans enB) hq ((sp_m33_fr (by omega)).trans epB) (hs.congr (frJ_m33 17 b GB)) (fun y hy => by rw [sp_m33_at (by decide) (hod y hy), hGB]; exact hmo y hy)) (w'.k (by first | rfl | assumption)) rfl rfl (Nat.le_of_ble_eq_true rfl) (am_rm hR (by decide)) (fun _ _ z => z) (fun v hx hq hE => ?_)
        obtain ⟨x, G, rfl, w23, hstl⟩ := hq
        have enG : G 11 0 3 = nI b := (hstl.1 11 0 3 (by omega) (by omega) (by omega)).trans ((sp_m33_fr (by omega)).trans enB)
        refine g_iconst (v := 0) dX5_burst_86 (by decide) ?_
        refine g_istore_n dX5_burst_87 (by decide) rfl ?_
        refine g_iconst (v := 0) dX5_burst_88 (by decide) ?_
        refine g_istore dX5_burst_89 (by decide) rfl ?_
        have lp_91 : ∀ (f : Nat) (j : Nat) (y : Int32) (h' : am_H), j ≤ b → b - j < f → y = sp_sum (fun k => G 12 33 k - G 12 17 k) j → WI N n p ord L (sp_mback j G) o h' → am_G k RX5 yX5_burst.name cX5_burst 6 (some .int) 0 0 Qf 91 [(4, .int (nI j)), (3, .int y), (0, .ref (L 11 0))] [] h' := by
          intro f
          induction f with
          | zero => intro j y h' hj hf ex w'; omega
          | succ f ih2 =>
            intro j y h' hj hf ex w'
            refine g_iload dX5_burst_91 rfl ?_
            refine g_aload_n dX5_burst_93 rfl ?_
            refine w_getI w' dX5_burst_94 fl_X5_93 rfl rfl (by first | rfl | assumption) ?_
            rw [(sp_mback_fr (b := j) (Γ := G) (c := 11) (i := 0) (j := 3) (by omega)).trans enG]
            refine gN_ge 162 dX5_burst_97 (by decide) (by omega) (by omega) (fun c_97 => ?_) (fun c_97 => ?_)
            · skip
              have ej : j = b := by omega
              rw [ej] at w'
              rw [hGB] at hstl
              refine g_iload_n dX5_burst_162 rfl ?_
              rw [hQ]
              refine g_iret dX5_burst_163 rfl rfl (by decide) (by decide) ?_
              exact ⟨x, G, by rw [ex, ej], w', hstl⟩
            · skip
              refine g_aload_n dX5_burst_100 rfl ?_
              refine w_getR w' dX5_burst_101 fl_X5_86 rfl rfl (by first | rfl | assumption) rfl ?_
              refine g_iload dX5_burst_104 rfl ?_
              refine w_ald w' dX5_burst_106 (by decide) (by first | rfl | assumption) (by first | assumption | omega | (show _ < 8; omega) | (show _ < 24; omega) | (show _ < 9; omega)) ?_
              refine g_aload_n dX5_burst_107 rfl ?_
              refine w_getR w' dX5_burst_108 fl_X5_47 rfl rfl (by first | rfl | assumption) rfl ?_
              refine g_iload dX5_burst_111 rfl ?_
              refine w_ald w' dX5_burst_113 (by decide) (by first | rfl | assumption) (by first | assumption | omega | (show _ < 8; omega) | (show _ < 24; omega) | (show _ < 9; omega)) ?_
              refine g_isub dX5_burst_114 ?_
              rw [sp_mback_fr (b := j) (Γ := G) (c := 12) (i := 33) (j := j) (by omega), sp_mback_fr (b := j) (Γ := G) (c := 12) (i := 17) (j := j) (by omega)]
              refine g_istore dX5_burst_115 (by decide) rfl ?_
              refine g_aload_n dX5_burst_117 rfl ?_
              refine w_getR w' dX5_burst_118 fl_X5_53 rfl rfl (by first | rfl | assumption) rfl ?_
              refine g_iload dX5_burst_121 rfl ?_
              refine g_dup2 dX5_burst_123 rfl rfl ?_
              refine w_ald w' dX5_burst_124 (by decide) (by first | rfl | assumption) (by first | assumption | omega | (show _ < 8; omega) | (show _ < 24; omega) | (show _ < 9; omega)) ?_
              refine g_iload dX5_burst_125 rfl ?_
              refine g_aload_n dX5_burst_127 rfl ?_
              refine w_getR w' dX5_burst_128 fl_X5_19 rfl rfl (by first | rfl | assumption) rfl ?_
              refine g_iload dX5_burst_131 rfl ?_
              refine w_ald w' dX5_burst_133 (by decide) (by first | rfl | assumption) (by first | assumption | omega | (show _ < 8; omega) | (show _ < 24; omega) | (show _ < 9; omega)) ?_
              refine g_imul dX5_burst_134 ?_
              refine g_iload dX5_burst_135 rfl ?_
              refine g_aload_n dX5_burst_137 rfl ?_
              refine w_getR w' dX5_burst_138 fl_X5_19 rfl rfl (by first | rfl | assumption) rfl ?_
              refine g_iload dX5_burst_141 rfl ?_
              refine w_ald w' dX5_burst_143 (by decide) (by first | rfl | assumption) (by first | assumption | omega | (show _ < 8; omega) | (show _ < 24; omega) | (show _ < 9; omega)) ?_
              refine g_imul dX5_burst_144 ?_
              refine g_bipush (v := 10) dX5_burst_145 (by decide) ?_
              refine g_idiv dX5_burst_147 (by decide) ?_
              refine g_iadd dX5_burst_148 ?_
              refine g_iadd dX5_burst_149 ?_
              refine w_ast w' dX5_burst_150 (by decide) (by first | rfl | assumption) (by first | assumption | omega | (show _ < 8; omega) | (show _ < 24; omega) | (show _ < 9; omega)) (fun h44 w44 => ?_)
              refine g_iload_n dX5_burst_151 rfl ?_
              refine g_iload dX5_burst_152 rfl ?_
              refine g_iadd dX5_burst_154 ?_
              refine g_istore_n dX5_burst_155 (by decide) rfl ?_
              refine g_iinc dX5_burst_156 rfl (nI_i1 _) (by decide) rfl ?_
              refine g_goto 91 dX5_burst_159 (by decide) ?_
              refine g_ls [(4, .int (nI (j + 1))), (3, .int _), (0, .ref (L 11 0))] ⟨rfl, rfl, rfl, trivial⟩ ?_
              refine ih2 (j + 1) _ _ (by omega) (by omega) (by rw [ex]; rfl) ?_
              show WI N n p ord L (u3 (sp_mback j G) 12 19 j (sp_mbk (sp_mback j G) j)) o _
              unfold sp_mbk
              rw [sp_mback_fr (b := j) (Γ := G) (c := 12) (i := 33) (j := j) (by omega), sp_mback_fr (b := j) (Γ := G) (c := 12) (i := 17) (j := j) (by omega)]
              exact w44
        refine g_ls [(4, .int (nI 0)), (3, .int 0), (0, .ref (L 11 0))] ⟨rfl, rfl, rfl, trivial⟩ ?_
        exact lp_91 (b + 1) 0 0 _ (by omega) (by omega) rfl w23
      · skip
        refine g_aload_n dX5_burst_64 rfl ?_
        refine w_getR w' dX5_burst_65 fl_X5_86 rfl rfl (by first | rfl | assumption) rfl ?_
        refine g_iload_n dX5_burst_68 rfl ?_
        refine g_aload_n dX5_burst_69 rfl ?_
        refine w_getR w' dX5_burst_70 fl_X5_47 rfl rfl (by first | rfl | assumption) rfl ?_
        refine g_iload_n dX5_burst_73 rfl ?_
        refine w_ald w' dX5_burst_74 (by decide) (by first | rfl | assumption) (by first | assumption | omega | (show _ < 8; omega) | (show _ < 24; omega) | (show _ < 9; omega)) ?_
        refine w_ast w' dX5_burst_75 (by decide) (by first | rfl | assumption) (by first | assumption | omega | (show _ < 8; omega) | (show _ < 24; omega) | (show _ < 9; omega)) (fun h24 w24 => ?_)
        refine g_iinc dX5_burst_76 rfl (nI_i1 _) (by decide) rfl ?_
        refine g_goto 56 dX5_burst_79 (by decide) ?_
        refine g_ls [(3, .int (nI (j + 1))), (1, .int (nI i)), (0, .ref (L 11 0))] ⟨rfl, rfl, rfl, trivial⟩ ?_
        exact ih (j + 1) _ (by omega) (by omega) w24
  refine g_ls [(3, .int (nI 0)), (1, .int (nI i)), (0, .ref (L 11 0))] ⟨rfl, rfl, rfl, trivial⟩ ?_
  exact lp_56 (b + 1) 0 _ (by omega) (by omega) w2
/-- what a district's row becomes when a round closes -/
def sp_mset (k : Nat) (Γ : Nat → Nat → Nat → Int32) : Nat → Nat → Nat → Int32 :=
  u3 (u3 (if Γ 13 14 k = 0 then u3 Γ 13 10 k (if Γ 13 10 k = 0 then 0 else if Γ 13 15 k = 0 then 1 else 0) else u3 (u3 (u3 (u3 Γ 12 7 k (Γ 12 11 k)) 12 8 k (Γ 12 12 k)) 12 9 k (Γ 12 13 k)) 13 10 k 1) 13 15 k (if Γ 13 14 k = 0 then 1 else 0)) 13 14 k 0
theorem sp_mset_fr {k : Nat} {Γ : Nat → Nat → Nat → Int32} {c i j : Nat} (h : ¬ ((c = 12 ∨ c = 13) ∧ j = k)) : sp_mset k Γ c i j = Γ c i j := by
  unfold sp_mset
  rw [u3_n (by omega), u3_n (by omega)]
  by_cases e : Γ 13 14 k = 0
  · rw [if_pos e, u3_n (by omega)]
  · rw [if_neg e, u3_n (by omega), u3_n (by omega), u3_n (by omega), u3_n (by omega)]
theorem sp_mset_g {k : Nat} {Γ : Nat → Nat → Nat → Int32} {c i j : Nat} (h : ¬ (c = 12 ∨ c = 13)) : sp_mset k Γ c i j = Γ c i j := sp_mset_fr (fun z => h z.1)
def sp_msets (b : Nat) (Γ : Nat → Nat → Nat → Int32) : Nat → Nat → Nat → Int32 := sp_it sp_mset b (u3 Γ 11 0 34 0)
theorem sp_msets_g {b : Nat} {Γ : Nat → Nat → Nat → Int32} {c i j : Nat} (h : ¬ (c = 12 ∨ c = 13)) (h2 : ¬ (c = 11 ∧ j = 34)) : sp_msets b Γ c i j = Γ c i j := (sp_it_pres (fun k Γ => sp_mset_g h) _ b).trans (u3_n (fun z => h2 ⟨z.1, z.2.2⟩))
def sp_mclose (b : Nat) (Γ : Nat → Nat → Nat → Int32) : Nat → Nat → Nat → Int32 := u3 (sp_msets b Γ) 11 0 1 (sp_msets b Γ 11 0 1 + 1)
set_option maxRecDepth 100000 in
set_option maxHeartbeats 4000000 in
theorem c_X5_close_0a {l : Launch} (hlt : l.stackTraces = false) {N n p : Nat} {ord : List Nat} {L : Nat → Nat → Nat} {Γ : Nat → Nat → Nat → Int32} {o : Int64} {h : am_H} (w : WI N n p ord L Γ o h) {b : Nat} (hb : b ≤ 8) (en : Γ 11 0 3 = nI b) {q : Nat} (hq : q ≤ 24) (ep : Γ 11 0 24 = nI q) {A B od : Nat → Nat} {len : Nat} (hs : SJ (sp_mclose b Γ) b q A B od len) (hod : ∀ i, i < len → od i < b) (hmo : ∀ i, i < len → 0 ≤ (sp_mclose b Γ 12 8 (od i)).toInt ∧ (sp_mclose b Γ 12 8 (od i)).toInt ≤ 9999) (hr : ¬ Γ 11 0 1 = -1) (ht : sp_sum (fun j => if (u3 Γ 11 0 34 0) 13 14 j = 0 then (0 : Int32) else 1) b = 0) : am_Con l yX5_close (.code yX5_close cX5_close 3 (some .boolean)) 20 0 0 [.ref (L 11 0)] h (fun v h' => ∃ (x : Nat → Int) (G : Nat → Nat → Nat → Int32), v = some (.int 1) ∧ WI N n p ord L (u3 (sp_mpay b G) 11 0 1 (-1)) o h' ∧ STL (sp_m33 8 b (sp_mclose b Γ)) G q A B od len x) (fun _ _ => False) := by
  refine am_body hlt (by decide +kernel) (Nat.le_of_ble_eq_true rfl) (fun k hl hR h0 hno => ?_)
  subst hl
  obtain ⟨Qf, hQ⟩ : ∃ Qf, Qf = am_Q k 0 0 (fun v h' => ∃ (x : Nat → Int) (G : Nat → Nat → Nat → Int32), v = some (.int 1) ∧ WI N n p ord L (u3 (sp_mpay b G) 11 0 1 (-1)) o h' ∧ STL (sp_m33 8 b (sp_mclose b Γ)) G q A B od len x) (fun _ _ => False) := ⟨_, rfl⟩
  rw [← hQ]
  have hm : wdm n p 11 0 = true := rfl
  refine g_aload_n dX5_close_0 rfl ?_
  refine g_aload_n dX5_close_1 rfl ?_
  refine w_getI w dX5_close_2 fl_X5_110 rfl rfl (by first | rfl | assumption) ?_
  refine g_iconst (v := (-1)) dX5_close_5 (by decide) ?_
  refine g_icmp_ne 13 dX5_close_6 (by decide) (fun c_6 => ?_) (fun z => absurd z hr)
  refine g_iconst (v := 0) dX5_close_13 (by decide) ?_
  refine g_callV [_] dX5_close_14 mc_X5_103 mi_X5_can se_X5_can (c_X5_can_0 hlt w) (w.k (by first | rfl | assumption)) rfl rfl (Nat.le_of_ble_eq_true rfl) (am_rm hR (by decide)) (fun _ _ z => z) (fun v hx hq hE => ?_)
  obtain ⟨rfl, w1⟩ := hq
  obtain ⟨Γ1, hG⟩ : ∃ G, G = u3 Γ 11 0 34 0 := ⟨_, rfl⟩
  rw [← hG] at w1
  have en1 : Γ1 11 0 3 = Γ 11 0 3 := by rw [hG]; rfl
  have ep1 : Γ1 11 0 24 = Γ 11 0 24 := by rw [hG]; rfl
  refine g_if_ne 22 dX5_close_17 (by decide) (fun _ => ?_) (fun z => absurd z (by decide))
  refine g_aload_n dX5_close_22 rfl ?_
  refine g_callV [] dX5_close_23 mc_X5_157 mi_X5_toldNow se_X5_toldNow (c_X5_toldNow hlt w1 hb (en1.trans en)) (w1.k (by first | rfl | assumption)) rfl rfl (Nat.le_of_ble_eq_true rfl) (am_rm hR (by decide)) (fun _ _ z => z) (fun v hx hq hE => ?_)
  obtain ⟨rfl, rfl⟩ := hq
  refine g_if_eq 37 dX5_close_26 (by decide) (fun c_26 => ?_) (fun z => absurd (by rw [hG]; exact ht) z)
  refine g_iconst (v := 1) dX5_close_37 (by decide) ?_
  refine g_goto 42 dX5_close_38 (by decide) ?_
  refine g_istore_n dX5_close_42 (by decide) rfl ?_
  subst hG
  refine g_iconst (v := 0) dX5_close_43 (by decide) ?_
  refine g_istore_n dX5_close_44 (by decide) rfl ?_
  have lp_45 : ∀ (f : Nat) (j : Nat) (h' : am_H), j ≤ b → b - j < f → WI N n p ord L (sp_msets j Γ) o h' → am_G k RX5 yX5_close.name cX5_close 3 (some .boolean) 0 0 Qf 45 [(2, .int (nI j)), (1, .int 1), (0, .ref (L 11 0))] [] h' := by
    intro f
    induction f with
    | zero => intro j h' hj hf w'; omega
    | succ f ih =>
      intro j h' hj hf w'
      refine g_iload_n dX5_close_45 rfl ?_
      refine g_aload_n dX5_close_46 rfl ?_
      refine w_getI w' dX5_close_47 fl_X5_93 rfl rfl (by first | rfl | assumption) ?_
      rw [(sp_msets_g (b := j) (Γ := Γ) (c := 11) (i := 0) (j := 3) (by omega) (by omega)).trans en]
      refine gN_ge 170 dX5_close_50 (by decide) (by omega) (by omega) (fun c_50 => ?_) (fun c_50 => ?_)
      · skip
        have ej : j = b := by omega
        rw [ej] at w'
        rw [ej]
        refine g_aload_n dX5_close_170 rfl ?_
        refine g_dup dX5_close_171 rfl ?_
        refine w_getI w' dX5_close_172 fl_X5_110 rfl rfl (by first | rfl | assumption) ?_
        refine g_iconst (v := 1) dX5_close_175 (by decide) ?_
        refine g_iadd dX5_close_176 ?_
        refine w_putI w' dX5_close_177 fl_X5_110 rfl rfl (by decide) (fun q hq => by cases hq; rfl) (by first | rfl | assumption) rfl rfl (fun h22 w22 => ?_)
        refine g_iload_n dX5_close_180 rfl ?_
        refine g_if_eq 188 dX5_close_181 (by decide) (fun z => absurd z (by decide)) (fun _ => ?_)
        have en2 : sp_mclose b Γ 11 0 3 = nI b := by unfold sp_mclose; rw [u3_n (by omega), sp_msets_g (by omega) (by omega)]; exact en
        have ep2 : sp_mclose b Γ 11 0 24 = nI q := by unfold sp_mclose; rw [u3_n (by omega), sp_msets_g (by omega) (by omega)]; exact ep
        refine g_aload_n dX5_close_184 rfl ?_
        refine g_callV [] dX5_close_185 mc_X5_163 mi_X5_begins se_X5_begins (c_X5_begins hlt w22 hb en2 hq ep2 hs hod hmo) (w22.k (by first | rfl | assumption)) rfl rfl (Nat.le_of_ble_eq_true rfl) (am_rm hR (by decide)) (fun _ _ z => z) (fun v hx hq hE => ?_)
        obtain ⟨x, G, rfl, w23, hstl⟩ := hq
        refine g_iload_n dX5_close_188 rfl ?_
        rw [hQ]
        refine g_iret dX5_close_189 rfl rfl (by decide) (by decide) ?_
        exact ⟨x, G, rfl, w23, hstl⟩
      · skip
        refine g_aload_n dX5_close_53 rfl ?_
        refine w_getR w' dX5_close_54 fl_X5_41 rfl rfl (by first | rfl | assumption) rfl ?_
        refine g_iload_n dX5_close_57 rfl ?_
        refine w_zald w' dX5_close_58 (by first | rfl | assumption) (by first | assumption | omega | (show _ < 8; omega) | (show _ < 24; omega) | (show _ < 9; omega)) ?_
        refine g_if_eq 108 dX5_close_59 (by decide) (fun c_59 => ?_) (fun c_59 => ?_)
        · skip
          refine g_aload_n dX5_close_108 rfl ?_
          refine w_getR w' dX5_close_109 fl_X5_28 rfl rfl (by first | rfl | assumption) rfl ?_
          refine g_iload_n dX5_close_112 rfl ?_
          refine g_aload_n dX5_close_113 rfl ?_
          refine w_getR w' dX5_close_114 fl_X5_28 rfl rfl (by first | rfl | assumption) rfl ?_
          refine g_iload_n dX5_close_117 rfl ?_
          refine w_zald w' dX5_close_118 (by first | rfl | assumption) (by first | assumption | omega | (show _ < 8; omega) | (show _ < 24; omega) | (show _ < 9; omega)) ?_
          refine g_if_eq 135 dX5_close_119 (by decide) (fun c_119 => ?_) (fun c_119 => ?_)
          · skip
            refine g_iconst (v := 0) dX5_close_135 (by decide) ?_
            refine w_zast w' dX5_close_136 (by first | rfl | assumption) (by first | assumption | omega | (show _ < 8; omega) | (show _ < 24; omega) | (show _ < 9; omega)) rfl (fun h24 w24 => ?_)
            refine g_aload_n dX5_close_137 rfl ?_
            refine w_getR w24 dX5_close_138 fl_X5_44 rfl rfl (by first | rfl | assumption) rfl ?_
            refine g_iload_n dX5_close_141 rfl ?_
            refine g_aload_n dX5_close_142 rfl ?_
            refine w_getR w24 dX5_close_143 fl_X5_41 rfl rfl (by first | rfl | assumption) rfl ?_
            refine g_iload_n dX5_close_146 rfl ?_
            refine w_zald w24 dX5_close_147 (by first | rfl | assumption) (by first | assumption | omega | (show _ < 8; omega) | (show _ < 24; omega) | (show _ < 9; omega)) ?_
            refine g_if_ne 155 dX5_close_148 (by decide) (fun z => absurd ((u3_n (by omega)).trans c_59) z) (fun c_148 => ?_)
            refine g_iconst (v := 1) dX5_close_151 (by decide) ?_
            refine g_goto 156 dX5_close_152 (by decide) ?_
            refine w_zast w24 dX5_close_156 (by first | rfl | assumption) (by first | assumption | omega | (show _ < 8; omega) | (show _ < 24; omega) | (show _ < 9; omega)) rfl (fun h25 w25 => ?_)
            refine g_aload_n dX5_close_157 rfl ?_
            refine w_getR w25 dX5_close_158 fl_X5_41 rfl rfl (by first | rfl | assumption) rfl ?_
            refine g_iload_n dX5_close_161 rfl ?_
            refine g_iconst (v := 0) dX5_close_162 (by decide) ?_
            refine w_zast w25 dX5_close_163 (by first | rfl | assumption) (by first | assumption | omega | (show _ < 8; omega) | (show _ < 24; omega) | (show _ < 9; omega)) rfl (fun h26 w26 => ?_)
            refine g_iinc dX5_close_164 rfl (nI_i1 _) (by decide) rfl ?_
            refine g_goto 45 dX5_close_167 (by decide) ?_
            refine g_ls [(2, .int (nI (j + 1))), (1, .int 1), (0, .ref (L 11 0))] ⟨rfl, rfl, rfl, trivial⟩ ?_
            refine ih (j + 1) _ (by omega) (by omega) ?_
            show WI N n p ord L (sp_mset j (sp_msets j Γ)) o _
            unfold sp_mset
            simp only [c_59, c_119, reduceIte]
            exact w26
          · skip
            refine g_aload_n dX5_close_122 rfl ?_
            refine w_getR w' dX5_close_123 fl_X5_44 rfl rfl (by first | rfl | assumption) rfl ?_
            refine g_iload_n dX5_close_126 rfl ?_
            refine w_zald w' dX5_close_127 (by first | rfl | assumption) (by first | assumption | omega | (show _ < 8; omega) | (show _ < 24; omega) | (show _ < 9; omega)) ?_
            refine g_if_ne 135 dX5_close_128 (by decide) (fun c_128 => ?_) (fun c_128 => ?_)
            · skip
              refine g_iconst (v := 0) dX5_close_135 (by decide) ?_
              refine w_zast w' dX5_close_136 (by first | rfl | assumption) (by first | assumption | omega | (show _ < 8; omega) | (show _ < 24; omega) | (show _ < 9; omega)) rfl (fun h27 w27 => ?_)
              refine g_aload_n dX5_close_137 rfl ?_
              refine w_getR w27 dX5_close_138 fl_X5_44 rfl rfl (by first | rfl | assumption) rfl ?_
              refine g_iload_n dX5_close_141 rfl ?_
              refine g_aload_n dX5_close_142 rfl ?_
              refine w_getR w27 dX5_close_143 fl_X5_41 rfl rfl (by first | rfl | assumption) rfl ?_
              refine g_iload_n dX5_close_146 rfl ?_
              refine w_zald w27 dX5_close_147 (by first | rfl | assumption) (by first | assumption | omega | (show _ < 8; omega) | (show _ < 24; omega) | (show _ < 9; omega)) ?_
              refine g_if_ne 155 dX5_close_148 (by decide) (fun z => absurd ((u3_n (by omega)).trans c_59) z) (fun c_148 => ?_)
              refine g_iconst (v := 1) dX5_close_151 (by decide) ?_
              refine g_goto 156 dX5_close_152 (by decide) ?_
              refine w_zast w27 dX5_close_156 (by first | rfl | assumption) (by first | assumption | omega | (show _ < 8; omega) | (show _ < 24; omega) | (show _ < 9; omega)) rfl (fun h28 w28 => ?_)
              refine g_aload_n dX5_close_157 rfl ?_
              refine w_getR w28 dX5_close_158 fl_X5_41 rfl rfl (by first | rfl | assumption) rfl ?_
              refine g_iload_n dX5_close_161 rfl ?_
              refine g_iconst (v := 0) dX5_close_162 (by decide) ?_
              refine w_zast w28 dX5_close_163 (by first | rfl | assumption) (by first | assumption | omega | (show _ < 8; omega) | (show _ < 24; omega) | (show _ < 9; omega)) rfl (fun h29 w29 => ?_)
              refine g_iinc dX5_close_164 rfl (nI_i1 _) (by decide) rfl ?_
              refine g_goto 45 dX5_close_167 (by decide) ?_
              refine g_ls [(2, .int (nI (j + 1))), (1, .int 1), (0, .ref (L 11 0))] ⟨rfl, rfl, rfl, trivial⟩ ?_
              refine ih (j + 1) _ (by omega) (by omega) ?_
              show WI N n p ord L (sp_mset j (sp_msets j Γ)) o _
              unfold sp_mset
              simp only [c_59, c_119, c_128, reduceIte]
              exact w29
            · skip
              refine g_iconst (v := 1) dX5_close_131 (by decide) ?_
              refine g_goto 136 dX5_close_132 (by decide) ?_
              refine w_zast w' dX5_close_136 (by first | rfl | assumption) (by first | assumption | omega | (show _ < 8; omega) | (show _ < 24; omega) | (show _ < 9; omega)) rfl (fun h30 w30 => ?_)
              refine g_aload_n dX5_close_137 rfl ?_
              refine w_getR w30 dX5_close_138 fl_X5_44 rfl rfl (by first | rfl | assumption) rfl ?_
              refine g_iload_n dX5_close_141 rfl ?_
              refine g_aload_n dX5_close_142 rfl ?_
              refine w_getR w30 dX5_close_143 fl_X5_41 rfl rfl (by first | rfl | assumption) rfl ?_
              refine g_iload_n dX5_close_146 rfl ?_
              refine w_zald w30 dX5_close_147 (by first | rfl | assumption) (by first | assumption | omega | (show _ < 8; omega) | (show _ < 24; omega) | (show _ < 9; omega)) ?_
              refine g_if_ne 155 dX5_close_148 (by decide) (fun z => absurd ((u3_n (by omega)).trans c_59) z) (fun c_148 => ?_)
              refine g_iconst (v := 1) dX5_close_151 (by decide) ?_
              refine g_goto 156 dX5_close_152 (by decide) ?_
              refine w_zast w30 dX5_close_156 (by first | rfl | assumption) (by first | assumption | omega | (show _ < 8; omega) | (show _ < 24; omega) | (show _ < 9; omega)) rfl (fun h31 w31 => ?_)
              refine g_aload_n dX5_close_157 rfl ?_
              refine w_getR w31 dX5_close_158 fl_X5_41 rfl rfl (by first | rfl | assumption) rfl ?_
              refine g_iload_n dX5_close_161 rfl ?_
              refine g_iconst (v := 0) dX5_close_162 (by decide) ?_
              refine w_zast w31 dX5_close_163 (by first | rfl | assumption) (by first | assumption | omega | (show _ < 8; omega) | (show _ < 24; omega) | (show _ < 9; omega)) rfl (fun h32 w32 => ?_)
              refine g_iinc dX5_close_164 rfl (nI_i1 _) (by decide) rfl ?_
              refine g_goto 45 dX5_close_167 (by decide) ?_
              refine g_ls [(2, .int (nI (j + 1))), (1, .int 1), (0, .ref (L 11 0))] ⟨rfl, rfl, rfl, trivial⟩ ?_
              refine ih (j + 1) _ (by omega) (by omega) ?_
              show WI N n p ord L (sp_mset j (sp_msets j Γ)) o _
              unfold sp_mset
              simp only [c_59, c_119, c_128, reduceIte]
              exact w32
        · skip
          refine g_aload_n dX5_close_62 rfl ?_
          refine w_getR w' dX5_close_63 fl_X5_19 rfl rfl (by first | rfl | assumption) rfl ?_
          refine g_iload_n dX5_close_66 rfl ?_
          refine g_aload_n dX5_close_67 rfl ?_
          refine w_getR w' dX5_close_68 fl_X5_32 rfl rfl (by first | rfl | assumption) rfl ?_
          refine g_iload_n dX5_close_71 rfl ?_
          refine w_ald w' dX5_close_72 (by decide) (by first | rfl | assumption) (by first | assumption | omega | (show _ < 8; omega) | (show _ < 24; omega) | (show _ < 9; omega)) ?_
          refine w_ast w' dX5_close_73 (by decide) (by first | rfl | assumption) (by first | assumption | omega | (show _ < 8; omega) | (show _ < 24; omega) | (show _ < 9; omega)) (fun h33 w33 => ?_)
          refine g_aload_n dX5_close_74 rfl ?_
          refine w_getR w33 dX5_close_75 fl_X5_22 rfl rfl (by first | rfl | assumption) rfl ?_
          refine g_iload_n dX5_close_78 rfl ?_
          refine g_aload_n dX5_close_79 rfl ?_
          refine w_getR w33 dX5_close_80 fl_X5_35 rfl rfl (by first | rfl | assumption) rfl ?_
          refine g_iload_n dX5_close_83 rfl ?_
          refine w_ald w33 dX5_close_84 (by decide) (by first | rfl | assumption) (by first | assumption | omega | (show _ < 8; omega) | (show _ < 24; omega) | (show _ < 9; omega)) ?_
          refine w_ast w33 dX5_close_85 (by decide) (by first | rfl | assumption) (by first | assumption | omega | (show _ < 8; omega) | (show _ < 24; omega) | (show _ < 9; omega)) (fun h34 w34 => ?_)
          refine g_aload_n dX5_close_86 rfl ?_
          refine w_getR w34 dX5_close_87 fl_X5_25 rfl rfl (by first | rfl | assumption) rfl ?_
          refine g_iload_n dX5_close_90 rfl ?_
          refine g_aload_n dX5_close_91 rfl ?_
          refine w_getR w34 dX5_close_92 fl_X5_38 rfl rfl (by first | rfl | assumption) rfl ?_
          refine g_iload_n dX5_close_95 rfl ?_
          refine w_ald w34 dX5_close_96 (by decide) (by first | rfl | assumption) (by first | assumption | omega | (show _ < 8; omega) | (show _ < 24; omega) | (show _ < 9; omega)) ?_
          refine w_ast w34 dX5_close_97 (by decide) (by first | rfl | assumption) (by first | assumption | omega | (show _ < 8; omega) | (show _ < 24; omega) | (show _ < 9; omega)) (fun h35 w35 => ?_)
          refine g_aload_n dX5_close_98 rfl ?_
          refine w_getR w35 dX5_close_99 fl_X5_28 rfl rfl (by first | rfl | assumption) rfl ?_
          refine g_iload_n dX5_close_102 rfl ?_
          refine g_iconst (v := 1) dX5_close_103 (by decide) ?_
          refine w_zast w35 dX5_close_104 (by first | rfl | assumption) (by first | assumption | omega | (show _ < 8; omega) | (show _ < 24; omega) | (show _ < 9; omega)) rfl (fun h36 w36 => ?_)
          refine g_goto 137 dX5_close_105 (by decide) ?_
          refine g_aload_n dX5_close_137 rfl ?_
          refine w_getR w36 dX5_close_138 fl_X5_44 rfl rfl (by first | rfl | assumption) rfl ?_
          refine g_iload_n dX5_close_141 rfl ?_
          refine g_aload_n dX5_close_142 rfl ?_
          refine w_getR w36 dX5_close_143 fl_X5_41 rfl rfl (by first | rfl | assumption) rfl ?_
          refine g_iload_n dX5_close_146 rfl ?_
          refine w_zald w36 dX5_close_147 (by first | rfl | assumption) (by first | assumption | omega | (show _ < 8; omega) | (show _ < 24; omega) | (show _ < 9; omega)) ?_
          refine g_if_ne 155 dX5_close_148 (by decide) (fun c_148 => ?_) (fun z => absurd z c_59)
          refine g_iconst (v := 0) dX5_close_155 (by decide) ?_
          refine w_zast w36 dX5_close_156 (by first | rfl | assumption) (by first | assumption | omega | (show _ < 8; omega) | (show _ < 24; omega) | (show _ < 9; omega)) rfl (fun h37 w37 => ?_)
          refine g_aload_n dX5_close_157 rfl ?_
          refine w_getR w37 dX5_close_158 fl_X5_41 rfl rfl (by first | rfl | assumption) rfl ?_
          refine g_iload_n dX5_close_161 rfl ?_
          refine g_iconst (v := 0) dX5_close_162 (by decide) ?_
          refine w_zast w37 dX5_close_163 (by first | rfl | assumption) (by first | assumption | omega | (show _ < 8; omega) | (show _ < 24; omega) | (show _ < 9; omega)) rfl (fun h38 w38 => ?_)
          refine g_iinc dX5_close_164 rfl (nI_i1 _) (by decide) rfl ?_
          refine g_goto 45 dX5_close_167 (by decide) ?_
          refine g_ls [(2, .int (nI (j + 1))), (1, .int 1), (0, .ref (L 11 0))] ⟨rfl, rfl, rfl, trivial⟩ ?_
          refine ih (j + 1) _ (by omega) (by omega) ?_
          show WI N n p ord L (sp_mset j (sp_msets j Γ)) o _
          unfold sp_mset
          simp only [c_59, reduceIte]
          exact w38
  refine g_ls [(2, .int (nI 0)), (1, .int 1), (0, .ref (L 11 0))] ⟨rfl, rfl, rfl, trivial⟩ ?_
  exact lp_45 (b + 1) 0 _ (by omega) (by omega) w1
set_option maxRecDepth 100000 in
set_option maxHeartbeats 4000000 in
theorem c_X5_close_0b {l : Launch} (hlt : l.stackTraces = false) {N n p : Nat} {ord : List Nat} {L : Nat → Nat → Nat} {Γ : Nat → Nat → Nat → Int32} {o : Int64} {h : am_H} (w : WI N n p ord L Γ o h) {b : Nat} (hb : b ≤ 8) (en : Γ 11 0 3 = nI b) {q : Nat} (hq : q ≤ 24) (ep : Γ 11 0 24 = nI q) {A B od : Nat → Nat} {len : Nat} (hs : SJ (sp_mclose b Γ) b q A B od len) (hod : ∀ i, i < len → od i < b) (hmo : ∀ i, i < len → 0 ≤ (sp_mclose b Γ 12 8 (od i)).toInt ∧ (sp_mclose b Γ 12 8 (od i)).toInt ≤ 9999) (hr : ¬ Γ 11 0 1 = -1) (ht : ¬ sp_sum (fun j => if (u3 Γ 11 0 34 0) 13 14 j = 0 then (0 : Int32) else 1) b = 0) (hr4 : Γ 11 0 1 = 4) : am_Con l yX5_close (.code yX5_close cX5_close 3 (some .boolean)) 20 0 0 [.ref (L 11 0)] h (fun v h' => ∃ (x : Nat → Int) (G : Nat → Nat → Nat → Int32), v = some (.int 1) ∧ WI N n p ord L (u3 (sp_mpay b G) 11 0 1 (-1)) o h' ∧ STL (sp_m33 8 b (sp_mclose b Γ)) G q A B od len x) (fun _ _ => False) := by
  refine am_body hlt (by decide +kernel) (Nat.le_of_ble_eq_true rfl) (fun k hl hR h0 hno => ?_)
  subst hl
  obtain ⟨Qf, hQ⟩ : ∃ Qf, Qf = am_Q k 0 0 (fun v h' => ∃ (x : Nat → Int) (G : Nat → Nat → Nat → Int32), v = some (.int 1) ∧ WI N n p ord L (u3 (sp_mpay b G) 11 0 1 (-1)) o h' ∧ STL (sp_m33 8 b (sp_mclose b Γ)) G q A B od len x) (fun _ _ => False) := ⟨_, rfl⟩
  rw [← hQ]
  have hm : wdm n p 11 0 = true := rfl
  refine g_aload_n dX5_close_0 rfl ?_
  refine g_aload_n dX5_close_1 rfl ?_
  refine w_getI w dX5_close_2 fl_X5_110 rfl rfl (by first | rfl | assumption) ?_
  refine g_iconst (v := (-1)) dX5_close_5 (by decide) ?_
  refine g_icmp_ne 13 dX5_close_6 (by decide) (fun c_6 => ?_) (fun z => absurd z hr)
  refine g_iconst (v := 0) dX5_close_13 (by decide) ?_
  refine g_callV [_] dX5_close_14 mc_X5_103 mi_X5_can se_X5_can (c_X5_can_0 hlt w) (w.k (by first | rfl | assumption)) rfl rfl (Nat.le_of_ble_eq_true rfl) (am_rm hR (by decide)) (fun _ _ z => z) (fun v hx hq hE => ?_)
  obtain ⟨rfl, w1⟩ := hq
  obtain ⟨Γ1, hG⟩ : ∃ G, G = u3 Γ 11 0 34 0 := ⟨_, rfl⟩
  rw [← hG] at w1
  have en1 : Γ1 11 0 3 = Γ 11 0 3 := by rw [hG]; rfl
  have ep1 : Γ1 11 0 24 = Γ 11 0 24 := by rw [hG]; rfl
  refine g_if_ne 22 dX5_close_17 (by decide) (fun _ => ?_) (fun z => absurd z (by decide))
  refine g_aload_n dX5_close_22 rfl ?_
  refine g_callV [] dX5_close_23 mc_X5_157 mi_X5_toldNow se_X5_toldNow (c_X5_toldNow hlt w1 hb (en1.trans en)) (w1.k (by first | rfl | assumption)) rfl rfl (Nat.le_of_ble_eq_true rfl) (am_rm hR (by decide)) (fun _ _ z => z) (fun v hx hq hE => ?_)
  obtain ⟨rfl, rfl⟩ := hq
  refine g_if_eq 37 dX5_close_26 (by decide) (fun z => absurd z (by rw [hG]; exact ht)) (fun c_26 => ?_)
  refine g_aload_n dX5_close_29 rfl ?_
  refine w_getI w1 dX5_close_30 fl_X5_110 rfl rfl (by first | rfl | assumption) ?_
  refine g_iconst (v := 4) dX5_close_33 (by decide) ?_
  refine g_icmp_ne 41 dX5_close_34 (by decide) (fun z => absurd (by rw [hG]; exact hr4) z) (fun c_34 => ?_)
  refine g_iconst (v := 1) dX5_close_37 (by decide) ?_
  refine g_goto 42 dX5_close_38 (by decide) ?_
  refine g_istore_n dX5_close_42 (by decide) rfl ?_
  subst hG
  refine g_iconst (v := 0) dX5_close_43 (by decide) ?_
  refine g_istore_n dX5_close_44 (by decide) rfl ?_
  have lp_45 : ∀ (f : Nat) (j : Nat) (h' : am_H), j ≤ b → b - j < f → WI N n p ord L (sp_msets j Γ) o h' → am_G k RX5 yX5_close.name cX5_close 3 (some .boolean) 0 0 Qf 45 [(2, .int (nI j)), (1, .int 1), (0, .ref (L 11 0))] [] h' := by
    intro f
    induction f with
    | zero => intro j h' hj hf w'; omega
    | succ f ih =>
      intro j h' hj hf w'
      refine g_iload_n dX5_close_45 rfl ?_
      refine g_aload_n dX5_close_46 rfl ?_
      refine w_getI w' dX5_close_47 fl_X5_93 rfl rfl (by first | rfl | assumption) ?_
      rw [(sp_msets_g (b := j) (Γ := Γ) (c := 11) (i := 0) (j := 3) (by omega) (by omega)).trans en]
      refine gN_ge 170 dX5_close_50 (by decide) (by omega) (by omega) (fun c_50 => ?_) (fun c_50 => ?_)
      · skip
        have ej : j = b := by omega
        rw [ej] at w'
        rw [ej]
        refine g_aload_n dX5_close_170 rfl ?_
        refine g_dup dX5_close_171 rfl ?_
        refine w_getI w' dX5_close_172 fl_X5_110 rfl rfl (by first | rfl | assumption) ?_
        refine g_iconst (v := 1) dX5_close_175 (by decide) ?_
        refine g_iadd dX5_close_176 ?_
        refine w_putI w' dX5_close_177 fl_X5_110 rfl rfl (by decide) (fun q hq => by cases hq; rfl) (by first | rfl | assumption) rfl rfl (fun h22 w22 => ?_)
        refine g_iload_n dX5_close_180 rfl ?_
        refine g_if_eq 188 dX5_close_181 (by decide) (fun z => absurd z (by decide)) (fun _ => ?_)
        have en2 : sp_mclose b Γ 11 0 3 = nI b := by unfold sp_mclose; rw [u3_n (by omega), sp_msets_g (by omega) (by omega)]; exact en
        have ep2 : sp_mclose b Γ 11 0 24 = nI q := by unfold sp_mclose; rw [u3_n (by omega), sp_msets_g (by omega) (by omega)]; exact ep
        refine g_aload_n dX5_close_184 rfl ?_
        refine g_callV [] dX5_close_185 mc_X5_163 mi_X5_begins se_X5_begins (c_X5_begins hlt w22 hb en2 hq ep2 hs hod hmo) (w22.k (by first | rfl | assumption)) rfl rfl (Nat.le_of_ble_eq_true rfl) (am_rm hR (by decide)) (fun _ _ z => z) (fun v hx hq hE => ?_)
        obtain ⟨x, G, rfl, w23, hstl⟩ := hq
        refine g_iload_n dX5_close_188 rfl ?_
        rw [hQ]
        refine g_iret dX5_close_189 rfl rfl (by decide) (by decide) ?_
        exact ⟨x, G, rfl, w23, hstl⟩
      · skip
        refine g_aload_n dX5_close_53 rfl ?_
        refine w_getR w' dX5_close_54 fl_X5_41 rfl rfl (by first | rfl | assumption) rfl ?_
        refine g_iload_n dX5_close_57 rfl ?_
        refine w_zald w' dX5_close_58 (by first | rfl | assumption) (by first | assumption | omega | (show _ < 8; omega) | (show _ < 24; omega) | (show _ < 9; omega)) ?_
        refine g_if_eq 108 dX5_close_59 (by decide) (fun c_59 => ?_) (fun c_59 => ?_)
        · skip
          refine g_aload_n dX5_close_108 rfl ?_
          refine w_getR w' dX5_close_109 fl_X5_28 rfl rfl (by first | rfl | assumption) rfl ?_
          refine g_iload_n dX5_close_112 rfl ?_
          refine g_aload_n dX5_close_113 rfl ?_
          refine w_getR w' dX5_close_114 fl_X5_28 rfl rfl (by first | rfl | assumption) rfl ?_
          refine g_iload_n dX5_close_117 rfl ?_
          refine w_zald w' dX5_close_118 (by first | rfl | assumption) (by first | assumption | omega | (show _ < 8; omega) | (show _ < 24; omega) | (show _ < 9; omega)) ?_
          refine g_if_eq 135 dX5_close_119 (by decide) (fun c_119 => ?_) (fun c_119 => ?_)
          · skip
            refine g_iconst (v := 0) dX5_close_135 (by decide) ?_
            refine w_zast w' dX5_close_136 (by first | rfl | assumption) (by first | assumption | omega | (show _ < 8; omega) | (show _ < 24; omega) | (show _ < 9; omega)) rfl (fun h24 w24 => ?_)
            refine g_aload_n dX5_close_137 rfl ?_
            refine w_getR w24 dX5_close_138 fl_X5_44 rfl rfl (by first | rfl | assumption) rfl ?_
            refine g_iload_n dX5_close_141 rfl ?_
            refine g_aload_n dX5_close_142 rfl ?_
            refine w_getR w24 dX5_close_143 fl_X5_41 rfl rfl (by first | rfl | assumption) rfl ?_
            refine g_iload_n dX5_close_146 rfl ?_
            refine w_zald w24 dX5_close_147 (by first | rfl | assumption) (by first | assumption | omega | (show _ < 8; omega) | (show _ < 24; omega) | (show _ < 9; omega)) ?_
            refine g_if_ne 155 dX5_close_148 (by decide) (fun z => absurd ((u3_n (by omega)).trans c_59) z) (fun c_148 => ?_)
            refine g_iconst (v := 1) dX5_close_151 (by decide) ?_
            refine g_goto 156 dX5_close_152 (by decide) ?_
            refine w_zast w24 dX5_close_156 (by first | rfl | assumption) (by first | assumption | omega | (show _ < 8; omega) | (show _ < 24; omega) | (show _ < 9; omega)) rfl (fun h25 w25 => ?_)
            refine g_aload_n dX5_close_157 rfl ?_
            refine w_getR w25 dX5_close_158 fl_X5_41 rfl rfl (by first | rfl | assumption) rfl ?_
            refine g_iload_n dX5_close_161 rfl ?_
            refine g_iconst (v := 0) dX5_close_162 (by decide) ?_
            refine w_zast w25 dX5_close_163 (by first | rfl | assumption) (by first | assumption | omega | (show _ < 8; omega) | (show _ < 24; omega) | (show _ < 9; omega)) rfl (fun h26 w26 => ?_)
            refine g_iinc dX5_close_164 rfl (nI_i1 _) (by decide) rfl ?_
            refine g_goto 45 dX5_close_167 (by decide) ?_
            refine g_ls [(2, .int (nI (j + 1))), (1, .int 1), (0, .ref (L 11 0))] ⟨rfl, rfl, rfl, trivial⟩ ?_
            refine ih (j + 1) _ (by omega) (by omega) ?_
            show WI N n p ord L (sp_mset j (sp_msets j Γ)) o _
            unfold sp_mset
            simp only [c_59, c_119, reduceIte]
            exact w26
          · skip
            refine g_aload_n dX5_close_122 rfl ?_
            refine w_getR w' dX5_close_123 fl_X5_44 rfl rfl (by first | rfl | assumption) rfl ?_
            refine g_iload_n dX5_close_126 rfl ?_
            refine w_zald w' dX5_close_127 (by first | rfl | assumption) (by first | assumption | omega | (show _ < 8; omega) | (show _ < 24; omega) | (show _ < 9; omega)) ?_
            refine g_if_ne 135 dX5_close_128 (by decide) (fun c_128 => ?_) (fun c_128 => ?_)
            · skip
              refine g_iconst (v := 0) dX5_close_135 (by decide) ?_
              refine w_zast w' dX5_close_136 (by first | rfl | assumption) (by first | assumption | omega | (show _ < 8; omega) | (show _ < 24; omega) | (show _ < 9; omega)) rfl (fun h27 w27 => ?_)
              refine g_aload_n dX5_close_137 rfl ?_
              refine w_getR w27 dX5_close_138 fl_X5_44 rfl rfl (by first | rfl | assumption) rfl ?_
              refine g_iload_n dX5_close_141 rfl ?_
              refine g_aload_n dX5_close_142 rfl ?_
              refine w_getR w27 dX5_close_143 fl_X5_41 rfl rfl (by first | rfl | assumption) rfl ?_
              refine g_iload_n dX5_close_146 rfl ?_
              refine w_zald w27 dX5_close_147 (by first | rfl | assumption) (by first | assumption | omega | (show _ < 8; omega) | (show _ < 24; omega) | (show _ < 9; omega)) ?_
              refine g_if_ne 155 dX5_close_148 (by decide) (fun z => absurd ((u3_n (by omega)).trans c_59) z) (fun c_148 => ?_)
              refine g_iconst (v := 1) dX5_close_151 (by decide) ?_
              refine g_goto 156 dX5_close_152 (by decide) ?_
              refine w_zast w27 dX5_close_156 (by first | rfl | assumption) (by first | assumption | omega | (show _ < 8; omega) | (show _ < 24; omega) | (show _ < 9; omega)) rfl (fun h28 w28 => ?_)
              refine g_aload_n dX5_close_157 rfl ?_
              refine w_getR w28 dX5_close_158 fl_X5_41 rfl rfl (by first | rfl | assumption) rfl ?_
              refine g_iload_n dX5_close_161 rfl ?_
              refine g_iconst (v := 0) dX5_close_162 (by decide) ?_
              refine w_zast w28 dX5_close_163 (by first | rfl | assumption) (by first | assumption | omega | (show _ < 8; omega) | (show _ < 24; omega) | (show _ < 9; omega)) rfl (fun h29 w29 => ?_)
              refine g_iinc dX5_close_164 rfl (nI_i1 _) (by decide) rfl ?_
              refine g_goto 45 dX5_close_167 (by decide) ?_
              refine g_ls [(2, .int (nI (j + 1))), (1, .int 1), (0, .ref (L 11 0))] ⟨rfl, rfl, rfl, trivial⟩ ?_
              refine ih (j + 1) _ (by omega) (by omega) ?_
              show WI N n p ord L (sp_mset j (sp_msets j Γ)) o _
              unfold sp_mset
              simp only [c_59, c_119, c_128, reduceIte]
              exact w29
            · skip
              refine g_iconst (v := 1) dX5_close_131 (by decide) ?_
              refine g_goto 136 dX5_close_132 (by decide) ?_
              refine w_zast w' dX5_close_136 (by first | rfl | assumption) (by first | assumption | omega | (show _ < 8; omega) | (show _ < 24; omega) | (show _ < 9; omega)) rfl (fun h30 w30 => ?_)
              refine g_aload_n dX5_close_137 rfl ?_
              refine w_getR w30 dX5_close_138 fl_X5_44 rfl rfl (by first | rfl | assumption) rfl ?_
              refine g_iload_n dX5_close_141 rfl ?_
              refine g_aload_n dX5_close_142 rfl ?_
              refine w_getR w30 dX5_close_143 fl_X5_41 rfl rfl (by first | rfl | assumption) rfl ?_
              refine g_iload_n dX5_close_146 rfl ?_
              refine w_zald w30 dX5_close_147 (by first | rfl | assumption) (by first | assumption | omega | (show _ < 8; omega) | (show _ < 24; omega) | (show _ < 9; omega)) ?_
              refine g_if_ne 155 dX5_close_148 (by decide) (fun z => absurd ((u3_n (by omega)).trans c_59) z) (fun c_148 => ?_)
              refine g_iconst (v := 1) dX5_close_151 (by decide) ?_
              refine g_goto 156 dX5_close_152 (by decide) ?_
              refine w_zast w30 dX5_close_156 (by first | rfl | assumption) (by first | assumption | omega | (show _ < 8; omega) | (show _ < 24; omega) | (show _ < 9; omega)) rfl (fun h31 w31 => ?_)
              refine g_aload_n dX5_close_157 rfl ?_
              refine w_getR w31 dX5_close_158 fl_X5_41 rfl rfl (by first | rfl | assumption) rfl ?_
              refine g_iload_n dX5_close_161 rfl ?_
              refine g_iconst (v := 0) dX5_close_162 (by decide) ?_
              refine w_zast w31 dX5_close_163 (by first | rfl | assumption) (by first | assumption | omega | (show _ < 8; omega) | (show _ < 24; omega) | (show _ < 9; omega)) rfl (fun h32 w32 => ?_)
              refine g_iinc dX5_close_164 rfl (nI_i1 _) (by decide) rfl ?_
              refine g_goto 45 dX5_close_167 (by decide) ?_
              refine g_ls [(2, .int (nI (j + 1))), (1, .int 1), (0, .ref (L 11 0))] ⟨rfl, rfl, rfl, trivial⟩ ?_
              refine ih (j + 1) _ (by omega) (by omega) ?_
              show WI N n p ord L (sp_mset j (sp_msets j Γ)) o _
              unfold sp_mset
              simp only [c_59, c_119, c_128, reduceIte]
              exact w32
        · skip
          refine g_aload_n dX5_close_62 rfl ?_
          refine w_getR w' dX5_close_63 fl_X5_19 rfl rfl (by first | rfl | assumption) rfl ?_
          refine g_iload_n dX5_close_66 rfl ?_
          refine g_aload_n dX5_close_67 rfl ?_
          refine w_getR w' dX5_close_68 fl_X5_32 rfl rfl (by first | rfl | assumption) rfl ?_
          refine g_iload_n dX5_close_71 rfl ?_
          refine w_ald w' dX5_close_72 (by decide) (by first | rfl | assumption) (by first | assumption | omega | (show _ < 8; omega) | (show _ < 24; omega) | (show _ < 9; omega)) ?_
          refine w_ast w' dX5_close_73 (by decide) (by first | rfl | assumption) (by first | assumption | omega | (show _ < 8; omega) | (show _ < 24; omega) | (show _ < 9; omega)) (fun h33 w33 => ?_)
          refine g_aload_n dX5_close_74 rfl ?_
          refine w_getR w33 dX5_close_75 fl_X5_22 rfl rfl (by first | rfl | assumption) rfl ?_
          refine g_iload_n dX5_close_78 rfl ?_
          refine g_aload_n dX5_close_79 rfl ?_
          refine w_getR w33 dX5_close_80 fl_X5_35 rfl rfl (by first | rfl | assumption) rfl ?_
          refine g_iload_n dX5_close_83 rfl ?_
          refine w_ald w33 dX5_close_84 (by decide) (by first | rfl | assumption) (by first | assumption | omega | (show _ < 8; omega) | (show _ < 24; omega) | (show _ < 9; omega)) ?_
          refine w_ast w33 dX5_close_85 (by decide) (by first | rfl | assumption) (by first | assumption | omega | (show _ < 8; omega) | (show _ < 24; omega) | (show _ < 9; omega)) (fun h34 w34 => ?_)
          refine g_aload_n dX5_close_86 rfl ?_
          refine w_getR w34 dX5_close_87 fl_X5_25 rfl rfl (by first | rfl | assumption) rfl ?_
          refine g_iload_n dX5_close_90 rfl ?_
          refine g_aload_n dX5_close_91 rfl ?_
          refine w_getR w34 dX5_close_92 fl_X5_38 rfl rfl (by first | rfl | assumption) rfl ?_
          refine g_iload_n dX5_close_95 rfl ?_
          refine w_ald w34 dX5_close_96 (by decide) (by first | rfl | assumption) (by first | assumption | omega | (show _ < 8; omega) | (show _ < 24; omega) | (show _ < 9; omega)) ?_
          refine w_ast w34 dX5_close_97 (by decide) (by first | rfl | assumption) (by first | assumption | omega | (show _ < 8; omega) | (show _ < 24; omega) | (show _ < 9; omega)) (fun h35 w35 => ?_)
          refine g_aload_n dX5_close_98 rfl ?_
          refine w_getR w35 dX5_close_99 fl_X5_28 rfl rfl (by first | rfl | assumption) rfl ?_
          refine g_iload_n dX5_close_102 rfl ?_
          refine g_iconst (v := 1) dX5_close_103 (by decide) ?_
          refine w_zast w35 dX5_close_104 (by first | rfl | assumption) (by first | assumption | omega | (show _ < 8; omega) | (show _ < 24; omega) | (show _ < 9; omega)) rfl (fun h36 w36 => ?_)
          refine g_goto 137 dX5_close_105 (by decide) ?_
          refine g_aload_n dX5_close_137 rfl ?_
          refine w_getR w36 dX5_close_138 fl_X5_44 rfl rfl (by first | rfl | assumption) rfl ?_
          refine g_iload_n dX5_close_141 rfl ?_
          refine g_aload_n dX5_close_142 rfl ?_
          refine w_getR w36 dX5_close_143 fl_X5_41 rfl rfl (by first | rfl | assumption) rfl ?_
          refine g_iload_n dX5_close_146 rfl ?_
          refine w_zald w36 dX5_close_147 (by first | rfl | assumption) (by first | assumption | omega | (show _ < 8; omega) | (show _ < 24; omega) | (show _ < 9; omega)) ?_
          refine g_if_ne 155 dX5_close_148 (by decide) (fun c_148 => ?_) (fun z => absurd z c_59)
          refine g_iconst (v := 0) dX5_close_155 (by decide) ?_
          refine w_zast w36 dX5_close_156 (by first | rfl | assumption) (by first | assumption | omega | (show _ < 8; omega) | (show _ < 24; omega) | (show _ < 9; omega)) rfl (fun h37 w37 => ?_)
          refine g_aload_n dX5_close_157 rfl ?_
          refine w_getR w37 dX5_close_158 fl_X5_41 rfl rfl (by first | rfl | assumption) rfl ?_
          refine g_iload_n dX5_close_161 rfl ?_
          refine g_iconst (v := 0) dX5_close_162 (by decide) ?_
          refine w_zast w37 dX5_close_163 (by first | rfl | assumption) (by first | assumption | omega | (show _ < 8; omega) | (show _ < 24; omega) | (show _ < 9; omega)) rfl (fun h38 w38 => ?_)
          refine g_iinc dX5_close_164 rfl (nI_i1 _) (by decide) rfl ?_
          refine g_goto 45 dX5_close_167 (by decide) ?_
          refine g_ls [(2, .int (nI (j + 1))), (1, .int 1), (0, .ref (L 11 0))] ⟨rfl, rfl, rfl, trivial⟩ ?_
          refine ih (j + 1) _ (by omega) (by omega) ?_
          show WI N n p ord L (sp_mset j (sp_msets j Γ)) o _
          unfold sp_mset
          simp only [c_59, reduceIte]
          exact w38
  refine g_ls [(2, .int (nI 0)), (1, .int 1), (0, .ref (L 11 0))] ⟨rfl, rfl, rfl, trivial⟩ ?_
  exact lp_45 (b + 1) 0 _ (by omega) (by omega) w1
set_option maxRecDepth 100000 in
set_option maxHeartbeats 4000000 in
theorem c_X5_close_0c {l : Launch} (hlt : l.stackTraces = false) {N n p : Nat} {ord : List Nat} {L : Nat → Nat → Nat} {Γ : Nat → Nat → Nat → Int32} {o : Int64} {h : am_H} (w : WI N n p ord L Γ o h) {b : Nat} (hb : b ≤ 8) (en : Γ 11 0 3 = nI b) (hr : ¬ Γ 11 0 1 = -1) (ht : ¬ sp_sum (fun j => if (u3 Γ 11 0 34 0) 13 14 j = 0 then (0 : Int32) else 1) b = 0) (hr4 : ¬ Γ 11 0 1 = 4) : am_Con l yX5_close (.code yX5_close cX5_close 3 (some .boolean)) 20 0 0 [.ref (L 11 0)] h (fun v h' => v = some (.int 0) ∧ WI N n p ord L (sp_mclose b Γ) o h') (fun _ _ => False) := by
  refine am_body hlt (by decide +kernel) (Nat.le_of_ble_eq_true rfl) (fun k hl hR h0 hno => ?_)
  subst hl
  obtain ⟨Qf, hQ⟩ : ∃ Qf, Qf = am_Q k 0 0 (fun v h' => v = some (.int 0) ∧ WI N n p ord L (sp_mclose b Γ) o h') (fun _ _ => False) := ⟨_, rfl⟩
  rw [← hQ]
  have hm : wdm n p 11 0 = true := rfl
  refine g_aload_n dX5_close_0 rfl ?_
  refine g_aload_n dX5_close_1 rfl ?_
  refine w_getI w dX5_close_2 fl_X5_110 rfl rfl (by first | rfl | assumption) ?_
  refine g_iconst (v := (-1)) dX5_close_5 (by decide) ?_
  refine g_icmp_ne 13 dX5_close_6 (by decide) (fun c_6 => ?_) (fun z => absurd z hr)
  refine g_iconst (v := 0) dX5_close_13 (by decide) ?_
  refine g_callV [_] dX5_close_14 mc_X5_103 mi_X5_can se_X5_can (c_X5_can_0 hlt w) (w.k (by first | rfl | assumption)) rfl rfl (Nat.le_of_ble_eq_true rfl) (am_rm hR (by decide)) (fun _ _ z => z) (fun v hx hq hE => ?_)
  obtain ⟨rfl, w1⟩ := hq
  obtain ⟨Γ1, hG⟩ : ∃ G, G = u3 Γ 11 0 34 0 := ⟨_, rfl⟩
  rw [← hG] at w1
  have en1 : Γ1 11 0 3 = Γ 11 0 3 := by rw [hG]; rfl
  have ep1 : Γ1 11 0 24 = Γ 11 0 24 := by rw [hG]; rfl
  refine g_if_ne 22 dX5_close_17 (by decide) (fun _ => ?_) (fun z => absurd z (by decide))
  refine g_aload_n dX5_close_22 rfl ?_
  refine g_callV [] dX5_close_23 mc_X5_157 mi_X5_toldNow se_X5_toldNow (c_X5_toldNow hlt w1 hb (en1.trans en)) (w1.k (by first | rfl | assumption)) rfl rfl (Nat.le_of_ble_eq_true rfl) (am_rm hR (by decide)) (fun _ _ z => z) (fun v hx hq hE => ?_)
  obtain ⟨rfl, rfl⟩ := hq
  refine g_if_eq 37 dX5_close_26 (by decide) (fun z => absurd z (by rw [hG]; exact ht)) (fun c_26 => ?_)
  refine g_aload_n dX5_close_29 rfl ?_
  refine w_getI w1 dX5_close_30 fl_X5_110 rfl rfl (by first | rfl | assumption) ?_
  refine g_iconst (v := 4) dX5_close_33 (by decide) ?_
  refine g_icmp_ne 41 dX5_close_34 (by decide) (fun c_34 => ?_) (fun z => absurd z (by rw [hG]; exact hr4))
  refine g_iconst (v := 0) dX5_close_41 (by decide) ?_
  refine g_istore_n dX5_close_42 (by decide) rfl ?_
  subst hG
  refine g_iconst (v := 0) dX5_close_43 (by decide) ?_
  refine g_istore_n dX5_close_44 (by decide) rfl ?_
  have lp_45 : ∀ (f : Nat) (j : Nat) (h' : am_H), j ≤ b → b - j < f → WI N n p ord L (sp_msets j Γ) o h' → am_G k RX5 yX5_close.name cX5_close 3 (some .boolean) 0 0 Qf 45 [(2, .int (nI j)), (1, .int 0), (0, .ref (L 11 0))] [] h' := by
    intro f
    induction f with
    | zero => intro j h' hj hf w'; omega
    | succ f ih =>
      intro j h' hj hf w'
      refine g_iload_n dX5_close_45 rfl ?_
      refine g_aload_n dX5_close_46 rfl ?_
      refine w_getI w' dX5_close_47 fl_X5_93 rfl rfl (by first | rfl | assumption) ?_
      rw [(sp_msets_g (b := j) (Γ := Γ) (c := 11) (i := 0) (j := 3) (by omega) (by omega)).trans en]
      refine gN_ge 170 dX5_close_50 (by decide) (by omega) (by omega) (fun c_50 => ?_) (fun c_50 => ?_)
      · skip
        have ej : j = b := by omega
        rw [ej] at w'
        rw [ej]
        refine g_aload_n dX5_close_170 rfl ?_
        refine g_dup dX5_close_171 rfl ?_
        refine w_getI w' dX5_close_172 fl_X5_110 rfl rfl (by first | rfl | assumption) ?_
        refine g_iconst (v := 1) dX5_close_175 (by decide) ?_
        refine g_iadd dX5_close_176 ?_
        refine w_putI w' dX5_close_177 fl_X5_110 rfl rfl (by decide) (fun q hq => by cases hq; rfl) (by first | rfl | assumption) rfl rfl (fun h22 w22 => ?_)
        refine g_iload_n dX5_close_180 rfl ?_
        refine g_if_eq 188 dX5_close_181 (by decide) (fun _ => ?_) (fun z => absurd z (by decide))
        refine g_iload_n dX5_close_188 rfl ?_
        rw [hQ]
        refine g_iret dX5_close_189 rfl rfl (by decide) (by decide) ?_
        exact ⟨rfl, w22⟩
      · skip
        refine g_aload_n dX5_close_53 rfl ?_
        refine w_getR w' dX5_close_54 fl_X5_41 rfl rfl (by first | rfl | assumption) rfl ?_
        refine g_iload_n dX5_close_57 rfl ?_
        refine w_zald w' dX5_close_58 (by first | rfl | assumption) (by first | assumption | omega | (show _ < 8; omega) | (show _ < 24; omega) | (show _ < 9; omega)) ?_
        refine g_if_eq 108 dX5_close_59 (by decide) (fun c_59 => ?_) (fun c_59 => ?_)
        · skip
          refine g_aload_n dX5_close_108 rfl ?_
          refine w_getR w' dX5_close_109 fl_X5_28 rfl rfl (by first | rfl | assumption) rfl ?_
          refine g_iload_n dX5_close_112 rfl ?_
          refine g_aload_n dX5_close_113 rfl ?_
          refine w_getR w' dX5_close_114 fl_X5_28 rfl rfl (by first | rfl | assumption) rfl ?_
          refine g_iload_n dX5_close_117 rfl ?_
          refine w_zald w' dX5_close_118 (by first | rfl | assumption) (by first | assumption | omega | (show _ < 8; omega) | (show _ < 24; omega) | (show _ < 9; omega)) ?_
          refine g_if_eq 135 dX5_close_119 (by decide) (fun c_119 => ?_) (fun c_119 => ?_)
          · skip
            refine g_iconst (v := 0) dX5_close_135 (by decide) ?_
            refine w_zast w' dX5_close_136 (by first | rfl | assumption) (by first | assumption | omega | (show _ < 8; omega) | (show _ < 24; omega) | (show _ < 9; omega)) rfl (fun h23 w23 => ?_)
            refine g_aload_n dX5_close_137 rfl ?_
            refine w_getR w23 dX5_close_138 fl_X5_44 rfl rfl (by first | rfl | assumption) rfl ?_
            refine g_iload_n dX5_close_141 rfl ?_
            refine g_aload_n dX5_close_142 rfl ?_
            refine w_getR w23 dX5_close_143 fl_X5_41 rfl rfl (by first | rfl | assumption) rfl ?_
            refine g_iload_n dX5_close_146 rfl ?_
            refine w_zald w23 dX5_close_147 (by first | rfl | assumption) (by first | assumption | omega | (show _ < 8; omega) | (show _ < 24; omega) | (show _ < 9; omega)) ?_
            refine g_if_ne 155 dX5_close_148 (by decide) (fun z => absurd ((u3_n (by omega)).trans c_59) z) (fun c_148 => ?_)
            refine g_iconst (v := 1) dX5_close_151 (by decide) ?_
            refine g_goto 156 dX5_close_152 (by decide) ?_
            refine w_zast w23 dX5_close_156 (by first | rfl | assumption) (by first | assumption | omega | (show _ < 8; omega) | (show _ < 24; omega) | (show _ < 9; omega)) rfl (fun h24 w24 => ?_)
            refine g_aload_n dX5_close_157 rfl ?_
            refine w_getR w24 dX5_close_158 fl_X5_41 rfl rfl (by first | rfl | assumption) rfl ?_
            refine g_iload_n dX5_close_161 rfl ?_
            refine g_iconst (v := 0) dX5_close_162 (by decide) ?_
            refine w_zast w24 dX5_close_163 (by first | rfl | assumption) (by first | assumption | omega | (show _ < 8; omega) | (show _ < 24; omega) | (show _ < 9; omega)) rfl (fun h25 w25 => ?_)
            refine g_iinc dX5_close_164 rfl (nI_i1 _) (by decide) rfl ?_
            refine g_goto 45 dX5_close_167 (by decide) ?_
            refine g_ls [(2, .int (nI (j + 1))), (1, .int 0), (0, .ref (L 11 0))] ⟨rfl, rfl, rfl, trivial⟩ ?_
            refine ih (j + 1) _ (by omega) (by omega) ?_
            show WI N n p ord L (sp_mset j (sp_msets j Γ)) o _
            unfold sp_mset
            simp only [c_59, c_119, reduceIte]
            exact w25
          · skip
            refine g_aload_n dX5_close_122 rfl ?_
            refine w_getR w' dX5_close_123 fl_X5_44 rfl rfl (by first | rfl | assumption) rfl ?_
            refine g_iload_n dX5_close_126 rfl ?_
            refine w_zald w' dX5_close_127 (by first | rfl | assumption) (by first | assumption | omega | (show _ < 8; omega) | (show _ < 24; omega) | (show _ < 9; omega)) ?_
            refine g_if_ne 135 dX5_close_128 (by decide) (fun c_128 => ?_) (fun c_128 => ?_)
            · skip
              refine g_iconst (v := 0) dX5_close_135 (by decide) ?_
              refine w_zast w' dX5_close_136 (by first | rfl | assumption) (by first | assumption | omega | (show _ < 8; omega) | (show _ < 24; omega) | (show _ < 9; omega)) rfl (fun h26 w26 => ?_)
              refine g_aload_n dX5_close_137 rfl ?_
              refine w_getR w26 dX5_close_138 fl_X5_44 rfl rfl (by first | rfl | assumption) rfl ?_
              refine g_iload_n dX5_close_141 rfl ?_
              refine g_aload_n dX5_close_142 rfl ?_
              refine w_getR w26 dX5_close_143 fl_X5_41 rfl rfl (by first | rfl | assumption) rfl ?_
              refine g_iload_n dX5_close_146 rfl ?_
              refine w_zald w26 dX5_close_147 (by first | rfl | assumption) (by first | assumption | omega | (show _ < 8; omega) | (show _ < 24; omega) | (show _ < 9; omega)) ?_
              refine g_if_ne 155 dX5_close_148 (by decide) (fun z => absurd ((u3_n (by omega)).trans c_59) z) (fun c_148 => ?_)
              refine g_iconst (v := 1) dX5_close_151 (by decide) ?_
              refine g_goto 156 dX5_close_152 (by decide) ?_
              refine w_zast w26 dX5_close_156 (by first | rfl | assumption) (by first | assumption | omega | (show _ < 8; omega) | (show _ < 24; omega) | (show _ < 9; omega)) rfl (fun h27 w27 => ?_)
              refine g_aload_n dX5_close_157 rfl ?_
              refine w_getR w27 dX5_close_158 fl_X5_41 rfl rfl (by first | rfl | assumption) rfl ?_
              refine g_iload_n dX5_close_161 rfl ?_
              refine g_iconst (v := 0) dX5_close_162 (by decide) ?_
              refine w_zast w27 dX5_close_163 (by first | rfl | assumption) (by first | assumption | omega | (show _ < 8; omega) | (show _ < 24; omega) | (show _ < 9; omega)) rfl (fun h28 w28 => ?_)
              refine g_iinc dX5_close_164 rfl (nI_i1 _) (by decide) rfl ?_
              refine g_goto 45 dX5_close_167 (by decide) ?_
              refine g_ls [(2, .int (nI (j + 1))), (1, .int 0), (0, .ref (L 11 0))] ⟨rfl, rfl, rfl, trivial⟩ ?_
              refine ih (j + 1) _ (by omega) (by omega) ?_
              show WI N n p ord L (sp_mset j (sp_msets j Γ)) o _
              unfold sp_mset
              simp only [c_59, c_119, c_128, reduceIte]
              exact w28
            · skip
              refine g_iconst (v := 1) dX5_close_131 (by decide) ?_
              refine g_goto 136 dX5_close_132 (by decide) ?_
              refine w_zast w' dX5_close_136 (by first | rfl | assumption) (by first | assumption | omega | (show _ < 8; omega) | (show _ < 24; omega) | (show _ < 9; omega)) rfl (fun h29 w29 => ?_)
              refine g_aload_n dX5_close_137 rfl ?_
              refine w_getR w29 dX5_close_138 fl_X5_44 rfl rfl (by first | rfl | assumption) rfl ?_
              refine g_iload_n dX5_close_141 rfl ?_
              refine g_aload_n dX5_close_142 rfl ?_
              refine w_getR w29 dX5_close_143 fl_X5_41 rfl rfl (by first | rfl | assumption) rfl ?_
              refine g_iload_n dX5_close_146 rfl ?_
              refine w_zald w29 dX5_close_147 (by first | rfl | assumption) (by first | assumption | omega | (show _ < 8; omega) | (show _ < 24; omega) | (show _ < 9; omega)) ?_
              refine g_if_ne 155 dX5_close_148 (by decide) (fun z => absurd ((u3_n (by omega)).trans c_59) z) (fun c_148 => ?_)
              refine g_iconst (v := 1) dX5_close_151 (by decide) ?_
              refine g_goto 156 dX5_close_152 (by decide) ?_
              refine w_zast w29 dX5_close_156 (by first | rfl | assumption) (by first | assumption | omega | (show _ < 8; omega) | (show _ < 24; omega) | (show _ < 9; omega)) rfl (fun h30 w30 => ?_)
              refine g_aload_n dX5_close_157 rfl ?_
              refine w_getR w30 dX5_close_158 fl_X5_41 rfl rfl (by first | rfl | assumption) rfl ?_
              refine g_iload_n dX5_close_161 rfl ?_
              refine g_iconst (v := 0) dX5_close_162 (by decide) ?_
              refine w_zast w30 dX5_close_163 (by first | rfl | assumption) (by first | assumption | omega | (show _ < 8; omega) | (show _ < 24; omega) | (show _ < 9; omega)) rfl (fun h31 w31 => ?_)
              refine g_iinc dX5_close_164 rfl (nI_i1 _) (by decide) rfl ?_
              refine g_goto 45 dX5_close_167 (by decide) ?_
              refine g_ls [(2, .int (nI (j + 1))), (1, .int 0), (0, .ref (L 11 0))] ⟨rfl, rfl, rfl, trivial⟩ ?_
              refine ih (j + 1) _ (by omega) (by omega) ?_
              show WI N n p ord L (sp_mset j (sp_msets j Γ)) o _
              unfold sp_mset
              simp only [c_59, c_119, c_128, reduceIte]
              exact w31
        · skip
          refine g_aload_n dX5_close_62 rfl ?_
          refine w_getR w' dX5_close_63 fl_X5_19 rfl rfl (by first | rfl | assumption) rfl ?_
          refine g_iload_n dX5_close_66 rfl ?_
          refine g_aload_n dX5_close_67 rfl ?_
          refine w_getR w' dX5_close_68 fl_X5_32 rfl rfl (by first | rfl | assumption) rfl ?_
          refine g_iload_n dX5_close_71 rfl ?_
          refine w_ald w' dX5_close_72 (by decide) (by first | rfl | assumption) (by first | assumption | omega | (show _ < 8; omega) | (show _ < 24; omega) | (show _ < 9; omega)) ?_
          refine w_ast w' dX5_close_73 (by decide) (by first | rfl | assumption) (by first | assumption | omega | (show _ < 8; omega) | (show _ < 24; omega) | (show _ < 9; omega)) (fun h32 w32 => ?_)
          refine g_aload_n dX5_close_74 rfl ?_
          refine w_getR w32 dX5_close_75 fl_X5_22 rfl rfl (by first | rfl | assumption) rfl ?_
          refine g_iload_n dX5_close_78 rfl ?_
          refine g_aload_n dX5_close_79 rfl ?_
          refine w_getR w32 dX5_close_80 fl_X5_35 rfl rfl (by first | rfl | assumption) rfl ?_
          refine g_iload_n dX5_close_83 rfl ?_
          refine w_ald w32 dX5_close_84 (by decide) (by first | rfl | assumption) (by first | assumption | omega | (show _ < 8; omega) | (show _ < 24; omega) | (show _ < 9; omega)) ?_
          refine w_ast w32 dX5_close_85 (by decide) (by first | rfl | assumption) (by first | assumption | omega | (show _ < 8; omega) | (show _ < 24; omega) | (show _ < 9; omega)) (fun h33 w33 => ?_)
          refine g_aload_n dX5_close_86 rfl ?_
          refine w_getR w33 dX5_close_87 fl_X5_25 rfl rfl (by first | rfl | assumption) rfl ?_
          refine g_iload_n dX5_close_90 rfl ?_
          refine g_aload_n dX5_close_91 rfl ?_
          refine w_getR w33 dX5_close_92 fl_X5_38 rfl rfl (by first | rfl | assumption) rfl ?_
          refine g_iload_n dX5_close_95 rfl ?_
          refine w_ald w33 dX5_close_96 (by decide) (by first | rfl | assumption) (by first | assumption | omega | (show _ < 8; omega) | (show _ < 24; omega) | (show _ < 9; omega)) ?_
          refine w_ast w33 dX5_close_97 (by decide) (by first | rfl | assumption) (by first | assumption | omega | (show _ < 8; omega) | (show _ < 24; omega) | (show _ < 9; omega)) (fun h34 w34 => ?_)
          refine g_aload_n dX5_close_98 rfl ?_
          refine w_getR w34 dX5_close_99 fl_X5_28 rfl rfl (by first | rfl | assumption) rfl ?_
          refine g_iload_n dX5_close_102 rfl ?_
          refine g_iconst (v := 1) dX5_close_103 (by decide) ?_
          refine w_zast w34 dX5_close_104 (by first | rfl | assumption) (by first | assumption | omega | (show _ < 8; omega) | (show _ < 24; omega) | (show _ < 9; omega)) rfl (fun h35 w35 => ?_)
          refine g_goto 137 dX5_close_105 (by decide) ?_
          refine g_aload_n dX5_close_137 rfl ?_
          refine w_getR w35 dX5_close_138 fl_X5_44 rfl rfl (by first | rfl | assumption) rfl ?_
          refine g_iload_n dX5_close_141 rfl ?_
          refine g_aload_n dX5_close_142 rfl ?_
          refine w_getR w35 dX5_close_143 fl_X5_41 rfl rfl (by first | rfl | assumption) rfl ?_
          refine g_iload_n dX5_close_146 rfl ?_
          refine w_zald w35 dX5_close_147 (by first | rfl | assumption) (by first | assumption | omega | (show _ < 8; omega) | (show _ < 24; omega) | (show _ < 9; omega)) ?_
          refine g_if_ne 155 dX5_close_148 (by decide) (fun c_148 => ?_) (fun z => absurd z c_59)
          refine g_iconst (v := 0) dX5_close_155 (by decide) ?_
          refine w_zast w35 dX5_close_156 (by first | rfl | assumption) (by first | assumption | omega | (show _ < 8; omega) | (show _ < 24; omega) | (show _ < 9; omega)) rfl (fun h36 w36 => ?_)
          refine g_aload_n dX5_close_157 rfl ?_
          refine w_getR w36 dX5_close_158 fl_X5_41 rfl rfl (by first | rfl | assumption) rfl ?_
          refine g_iload_n dX5_close_161 rfl ?_
          refine g_iconst (v := 0) dX5_close_162 (by decide) ?_
          refine w_zast w36 dX5_close_163 (by first | rfl | assumption) (by first | assumption | omega | (show _ < 8; omega) | (show _ < 24; omega) | (show _ < 9; omega)) rfl (fun h37 w37 => ?_)
          refine g_iinc dX5_close_164 rfl (nI_i1 _) (by decide) rfl ?_
          refine g_goto 45 dX5_close_167 (by decide) ?_
          refine g_ls [(2, .int (nI (j + 1))), (1, .int 0), (0, .ref (L 11 0))] ⟨rfl, rfl, rfl, trivial⟩ ?_
          refine ih (j + 1) _ (by omega) (by omega) ?_
          show WI N n p ord L (sp_mset j (sp_msets j Γ)) o _
          unfold sp_mset
          simp only [c_59, reduceIte]
          exact w37
  refine g_ls [(2, .int (nI 0)), (1, .int 0), (0, .ref (L 11 0))] ⟨rfl, rfl, rfl, trivial⟩ ?_
  exact lp_45 (b + 1) 0 _ (by omega) (by omega) w1
set_option maxRecDepth 100000 in
set_option maxHeartbeats 4000000 in
theorem c_X5_close_1 {l : Launch} (hlt : l.stackTraces = false) {N n p : Nat} {ord : List Nat} {L : Nat → Nat → Nat} {Γ : Nat → Nat → Nat → Int32} {o : Int64} {h : am_H} (w : WI N n p ord L Γ o h) (hr : Γ 11 0 1 = -1) : am_Con l yX5_close (.code yX5_close cX5_close 3 (some .boolean)) 20 0 0 [.ref (L 11 0)] h (fun v h' => v = some (.int 0) ∧ WI N n p ord L (u3 Γ 11 0 34 1) o h') (fun _ _ => False) := by
  refine am_body hlt (by decide +kernel) (Nat.le_of_ble_eq_true rfl) (fun k hl hR h0 hno => ?_)
  subst hl
  obtain ⟨Qf, hQ⟩ : ∃ Qf, Qf = am_Q k 0 0 (fun v h' => v = some (.int 0) ∧ WI N n p ord L (u3 Γ 11 0 34 1) o h') (fun _ _ => False) := ⟨_, rfl⟩
  rw [← hQ]
  have hm : wdm n p 11 0 = true := rfl
  refine g_aload_n dX5_close_0 rfl ?_
  refine g_aload_n dX5_close_1 rfl ?_
  refine w_getI w dX5_close_2 fl_X5_110 rfl rfl (by first | rfl | assumption) ?_
  refine g_iconst (v := (-1)) dX5_close_5 (by decide) ?_
  refine g_icmp_ne 13 dX5_close_6 (by decide) (fun z => absurd hr z) (fun c_6 => ?_)
  refine g_iconst (v := 1) dX5_close_9 (by decide) ?_
  refine g_goto 14 dX5_close_10 (by decide) ?_
  refine g_callV [_] dX5_close_14 mc_X5_103 mi_X5_can se_X5_can (c_X5_can_1 hlt w (a := 1) (by decide)) (w.k (by first | rfl | assumption)) rfl rfl (Nat.le_of_ble_eq_true rfl) (am_rm hR (by decide)) (fun _ _ z => z) (fun v hx hq hE => ?_)
  obtain ⟨rfl, w1⟩ := hq
  obtain ⟨Γ1, hG⟩ : ∃ G, G = u3 Γ 11 0 34 1 := ⟨_, rfl⟩
  rw [← hG] at w1
  have en1 : Γ1 11 0 3 = Γ 11 0 3 := by rw [hG]; rfl
  have ep1 : Γ1 11 0 24 = Γ 11 0 24 := by rw [hG]; rfl
  refine g_if_ne 22 dX5_close_17 (by decide) (fun z => absurd z (by decide)) (fun _ => ?_)
  refine g_iconst (v := 0) dX5_close_20 (by decide) ?_
  rw [hQ]
  refine g_iret dX5_close_21 rfl rfl (by decide) (by decide) ?_
  subst hG
  exact ⟨rfl, w1⟩
