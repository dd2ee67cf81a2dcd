set_option maxRecDepth 100000 in
set_option maxHeartbeats 4000000 in
theorem c_add9 {l : Launch} (hlt : l.stackTraces = false) {h : am_H} {a b m x : Nat} (ha : LA h a b m) (hx : am_K h x = 2 ∨ am_K h x = 4) : am_Con l yJx4a65c_add_9ea2d (.code yJx4a65c_add_9ea2d cJx4a65c_add_9ea2d 2 (some .boolean)) 7 1 100 [.ref a, .ref x] h (fun v h' => v = some (.int 1) ∧ ∃ (z : Int32) (g : Nat → Option Nat), (∀ i, i < m → g i = am_B h b i) ∧ g m = some x ∧ AD (am_sI h 600 a z) a b m g h') (fun _ _ => False) := by
  refine am_body hlt (by decide +kernel) (Nat.le_of_ble_eq_true rfl) (fun k hl hR h0 hno => ?_)
  subst hl
  obtain ⟨Qf, hQ⟩ : ∃ Qf, Qf = am_Q k 1 100 (fun v h' => v = some (.int 1) ∧ ∃ (z : Int32) (g : Nat → Option Nat), (∀ i, i < m → g i = am_B h b i) ∧ g m = some x ∧ AD (am_sI h 600 a z) a b m g h') (fun _ _ => False) := ⟨_, rfl⟩
  rw [← hQ]
  obtain ⟨hk, hm, hr, hm24, hbb, hel⟩ := id ha
  have hN16 : am_K h b = 13 ∨ am_K h b = 16 := by rcases hbb with z | z; exact Or.inl z.1; exact Or.inr z.1
  have hNm : m ≤ am_N h b ∧ am_N h b ≤ 100 := by rcases hbb with z | z <;> omega
  refine g_aload_n dJx4a65c_add_9ea2d_0 rfl ?_
  refine g_dup dJx4a65c_add_9ea2d_1 rfl ?_
  refine g_getI dJx4a65c_add_9ea2d_2 fl_AL_63 rfl hk ?_
  refine g_iconst (v := 1) dJx4a65c_add_9ea2d_5 (by decide) ?_
  refine g_iadd dJx4a65c_add_9ea2d_6 ?_
  refine g_putI dJx4a65c_add_9ea2d_7 fl_AL_63 rfl (fun q hq => Or.inl (by cases hq; rfl)) hk rfl rfl ?_
  obtain ⟨v, ev⟩ : ∃ v, v = am_I h 600 a + 1 := ⟨_, rfl⟩
  rw [← ev]
  have ha1 : LA (am_sI h 600 a v) a b m := ⟨hk, by rw [am_I_sI, if_neg (by omega)]; exact hm, hr, hm24, hbb, hel⟩
  refine g_aload_n dJx4a65c_add_9ea2d_10 rfl ?_
  refine g_aload_n dJx4a65c_add_9ea2d_11 rfl ?_
  refine g_aload_n dJx4a65c_add_9ea2d_12 rfl ?_
  refine g_getR dJx4a65c_add_9ea2d_13 fl_AL_9 rfl hk hr ?_
  refine g_aload_n dJx4a65c_add_9ea2d_16 rfl ?_
  refine g_getI dJx4a65c_add_9ea2d_17 fl_AL_48 rfl hk ?_
  rw [ha1.2.1]
  refine g_callV [_, _, _] dJx4a65c_add_9ea2d_20 mc_AL_131 mi_Jx4a65c_add_72be8 se_Jx4a65c_add_72be8 (c_add72 hlt ha1 hx) (hk) rfl rfl (Nat.le_of_ble_eq_true rfl) (am_rm hR (by decide)) (fun _ _ z => z) (fun v1 hx1 hq hE => ?_)
  obtain ⟨rfl, g, q1, q2, q3⟩ := hq
  refine g_iconst (v := 1) dJx4a65c_add_9ea2d_23 (by decide) ?_
  rw [hQ]
  refine g_iret dJx4a65c_add_9ea2d_24 rfl rfl (by decide) (by decide) ?_
  exact ⟨rfl, v, g, q1, q2, q3⟩
set_option maxRecDepth 100000 in
set_option maxHeartbeats 4000000 in
theorem c_rangeAdd {l : Launch} (hlt : l.stackTraces = false) {h : am_H} {a b m i : Nat} (ha : LA h a b m) (hi : i ≤ m) : am_Con l yJx4a65c_rangeCheckForAdd_d00df (.code yJx4a65c_rangeCheckForAdd_d00df cJx4a65c_rangeCheckForAdd_d00df 2 none) 1 0 0 [.ref a, .int (nI i)] h (fun v h' => v = none ∧ h' = h) (fun _ _ => False) := by
  refine am_body hlt (by decide +kernel) (Nat.le_of_ble_eq_true rfl) (fun k hl hR h0 hno => ?_)
  subst hl
  obtain ⟨Qf, hQ⟩ : ∃ Qf, Qf = am_Q k 0 0 (fun v h' => v = none ∧ h' = h) (fun _ _ => False) := ⟨_, rfl⟩
  rw [← hQ]
  obtain ⟨hk, hm, hr, hm24, hbb, hel⟩ := id ha
  have hN16 : am_K h b = 13 ∨ am_K h b = 16 := by rcases hbb with z | z; exact Or.inl z.1; exact Or.inr z.1
  have hNm : m ≤ am_N h b ∧ am_N h b ≤ 100 := by rcases hbb with z | z <;> omega
  refine g_iload_n dJx4a65c_rangeCheckForAdd_d00df_0 rfl ?_
  refine g_aload_n dJx4a65c_rangeCheckForAdd_d00df_1 rfl ?_
  refine g_getI dJx4a65c_rangeCheckForAdd_d00df_2 fl_AL_48 rfl hk ?_
  rw [hm]
  refine gN_gt 12 dJx4a65c_rangeCheckForAdd_d00df_5 (by decide) (by omega) (by omega) (fun z => absurd z (by omega)) (fun c_5 => ?_)
  refine g_iload_n dJx4a65c_rangeCheckForAdd_d00df_8 rfl ?_
  refine g_if_ge 25 dJx4a65c_rangeCheckForAdd_d00df_9 (by decide) (fun c_9 => ?_) (fun z => absurd (nI_pos' (by omega)) z)
  rw [hQ]
  refine g_vret dJx4a65c_rangeCheckForAdd_d00df_25 rfl (by decide) (by decide) ?_
  exact ⟨rfl, rfl⟩
set_option maxRecDepth 100000 in
set_option maxHeartbeats 4000000 in
theorem c_add7 {l : Launch} (hlt : l.stackTraces = false) {h : am_H} {a b m x i : Nat} (ha : LA h a b m) (hx : am_K h x = 2 ∨ am_K h x = 4) (hi : i ≤ m) : am_Con l yJx4a65c_add_7a177 (.code yJx4a65c_add_7a177 cJx4a65c_add_7a177 5 none) 6 1 100 [.ref a, .int (nI i), .ref x] h (fun v h' => v = none ∧ ∃ (z : Int32) (g : Nat → Option Nat), (∀ j, j < i → g j = am_B h b j) ∧ g i = some x ∧ (∀ j, i < j → j ≤ m → g j = am_B h b (j - 1)) ∧ AD (am_sI h 600 a z) a b m g h') (fun _ _ => False) := by
  refine am_body hlt (by decide +kernel) (Nat.le_of_ble_eq_true rfl) (fun k hl hR h0 hno => ?_)
  subst hl
  obtain ⟨Qf, hQ⟩ : ∃ Qf, Qf = am_Q k 1 100 (fun v h' => v = none ∧ ∃ (z : Int32) (g : Nat → Option Nat), (∀ j, j < i → g j = am_B h b j) ∧ g i = some x ∧ (∀ j, i < j → j ≤ m → g j = am_B h b (j - 1)) ∧ AD (am_sI h 600 a z) a b m g h') (fun _ _ => False) := ⟨_, rfl⟩
  rw [← hQ]
  obtain ⟨hk, hm, hr, hm24, hbb, hel⟩ := id ha
  have hN16 : am_K h b = 13 ∨ am_K h b = 16 := by rcases hbb with z | z; exact Or.inl z.1; exact Or.inr z.1
  have hNm : m ≤ am_N h b ∧ am_N h b ≤ 100 := by rcases hbb with z | z <;> omega
  refine g_aload_n dJx4a65c_add_7a177_0 rfl ?_
  refine g_iload_n dJx4a65c_add_7a177_1 rfl ?_
  refine g_callV [_] dJx4a65c_add_7a177_2 mc_AL_135 mi_Jx4a65c_rangeCheckForAdd_d00df se_Jx4a65c_rangeCheckForAdd_d00df (c_rangeAdd hlt ha hi) (hk) rfl rfl (Nat.le_of_ble_eq_true rfl) (am_rm hR (by decide)) (fun _ _ z => z) (fun v1 hx1 hq hE => ?_)
  obtain ⟨rfl, hh⟩ := hq
  subst hx1
  refine g_aload_n dJx4a65c_add_7a177_5 rfl ?_
  refine g_dup dJx4a65c_add_7a177_6 rfl ?_
  refine g_getI dJx4a65c_add_7a177_7 fl_AL_63 rfl hk ?_
  refine g_iconst (v := 1) dJx4a65c_add_7a177_10 (by decide) ?_
  refine g_iadd dJx4a65c_add_7a177_11 ?_
  refine g_putI dJx4a65c_add_7a177_12 fl_AL_63 rfl (fun q hq => Or.inl (by cases hq; rfl)) hk rfl rfl ?_
  obtain ⟨v, ev⟩ : ∃ v, v = am_I h 600 a + 1 := ⟨_, rfl⟩
  rw [← ev]
  have ha1 : LA (am_sI h 600 a v) a b m := ⟨hk, by rw [am_I_sI, if_neg (by omega)]; exact hm, hr, hm24, hbb, hel⟩
  refine g_aload_n dJx4a65c_add_7a177_15 rfl ?_
  refine g_getI dJx4a65c_add_7a177_16 fl_AL_48 rfl hk ?_
  rw [ha1.2.1]
  refine g_dup dJx4a65c_add_7a177_19 rfl ?_
  refine g_istore_n dJx4a65c_add_7a177_20 (by decide) rfl ?_
  refine g_aload_n dJx4a65c_add_7a177_21 rfl ?_
  refine g_getR dJx4a65c_add_7a177_22 fl_AL_9 rfl hk hr ?_
  refine g_dup dJx4a65c_add_7a177_25 rfl ?_
  refine g_astore dJx4a65c_add_7a177_26 (by decide) rfl ?_
  refine g_alenO (v := nI (am_N h b)) dJx4a65c_add_7a177_28 hN16 rfl ?_
  refine gN_ne 38 dJx4a65c_add_7a177_29 (by decide) (by omega) (by omega) (fun c_29 => ?_) (fun c_29 => ?_)
  · skip
    refine g_aload dJx4a65c_add_7a177_38 rfl ?_
    refine g_iload_n dJx4a65c_add_7a177_40 rfl ?_
    refine g_aload dJx4a65c_add_7a177_41 rfl ?_
    refine g_iload_n dJx4a65c_add_7a177_43 rfl ?_
    refine g_iconst (v := 1) dJx4a65c_add_7a177_44 (by decide) ?_
    refine g_iadd dJx4a65c_add_7a177_45 ?_
    rw [nI_1]
    refine g_iload_n dJx4a65c_add_7a177_46 rfl ?_
    refine g_iload_n dJx4a65c_add_7a177_47 rfl ?_
    refine g_isub dJx4a65c_add_7a177_48 ?_
    rw [show nI m - nI i = nI (m - i) from by rw [show m = (m - i) + i by omega, ← nI_add, Int32.add_sub_cancel, Nat.add_sub_cancel]]
    have hb13 : am_K h b = 13 := by rcases hbb with z | z; exact z.1; omega
    refine g_copyB dJx4a65c_add_7a177_49 jw_112 hb13 hb13 (by show i + (m - i) ≤ am_N h b; omega) (by show i + 1 + (m - i) ≤ am_N h b; omega) (by show am_N h b < 2 ^ 30; omega) (by show am_N h b < 2 ^ 30; omega) (fun y hy q hq => hel (i + y) (by omega) q hq) (by rw [hR]; exact Nat.le_of_ble_eq_true rfl) (by rw [hR]; exact Nat.le_of_ble_eq_true rfl) ?_
    rw [show am_B (am_sI h 600 a v) b = am_B h b from rfl]
    refine g_aload dJx4a65c_add_7a177_52 rfl ?_
    refine g_iload_n dJx4a65c_add_7a177_54 rfl ?_
    refine g_aload_n dJx4a65c_add_7a177_55 rfl ?_
    refine g_oast dJx4a65c_add_7a177_56 hb13 (vp_in_nI (by show i < am_N h b; omega) (by show am_N h b < 2 ^ 31; omega)) hx ?_
    rw [nI_clamp (by omega)]
    refine g_aload_n dJx4a65c_add_7a177_57 rfl ?_
    refine g_iload_n dJx4a65c_add_7a177_58 rfl ?_
    refine g_iconst (v := 1) dJx4a65c_add_7a177_59 (by decide) ?_
    refine g_iadd dJx4a65c_add_7a177_60 ?_
    rw [nI_1]
    refine g_putI dJx4a65c_add_7a177_61 fl_AL_48 rfl (fun q hq => Or.inl (by cases hq; rfl)) hk rfl rfl ?_
    rw [hQ]
    refine g_vret dJx4a65c_add_7a177_64 rfl (by decide) (by decide) ?_
    refine ⟨rfl, v, (fun j => if j = i then some x else va_cpy (am_B h b) (am_B h b) i (i + 1) (m - i) j), fun j hj => ?_, if_pos rfl, fun j h1 h2 => ?_, Or.inl ⟨hb13, by show m < am_N h b; omega, by rw [am_sB_Br, am_sBr_sBr]; congr 2; funext j; by_cases e : j = i; rw [if_pos e, if_pos e]; rw [if_neg e, if_neg e, am_B_sBr, if_pos rfl]⟩⟩
    · show (if j = i then some x else va_cpy (am_B h b) (am_B h b) i (i + 1) (m - i) j) = _
      rw [if_neg (by omega)]
      unfold va_cpy
      rw [if_neg (by omega)]
    
    · show (if j = i then some x else va_cpy (am_B h b) (am_B h b) i (i + 1) (m - i) j) = _
      rw [if_neg (by omega)]
      unfold va_cpy
      rw [if_pos (by omega), show i + (j - (i + 1)) = j - 1 by omega]
    
  · skip
    refine g_aload_n dJx4a65c_add_7a177_32 rfl ?_
    refine g_callV [] dJx4a65c_add_7a177_33 mc_AL_129 mi_Jx4a65c_grow_d5877 se_Jx4a65c_grow_d5877 (c_grow hlt ha1 (by show am_N h b = m; omega)) (hk) rfl rfl (Nat.le_of_ble_eq_true rfl) (am_rm hR (by decide)) (fun _ _ z => z) (fun v1 hx1 hq hE => ?_)
    obtain ⟨b', c', f, rfl, q1, q2, q3, q4, rfl⟩ := hq
    have q1' : am_K h b' = 0 := q1
    have hnx : x ≠ b' := fun z => by rw [z, q1'] at hx; rcases hx with q | q <;> cases q
    have hna : a ≠ b' := fun z => by rw [z, q1'] at hk; cases hk
    refine g_astore dJx4a65c_add_7a177_36 (by decide) rfl ?_
    refine g_aload dJx4a65c_add_7a177_38 rfl ?_
    refine g_iload_n dJx4a65c_add_7a177_40 rfl ?_
    refine g_aload dJx4a65c_add_7a177_41 rfl ?_
    refine g_iload_n dJx4a65c_add_7a177_43 rfl ?_
    refine g_iconst (v := 1) dJx4a65c_add_7a177_44 (by decide) ?_
    refine g_iadd dJx4a65c_add_7a177_45 ?_
    rw [nI_1]
    refine g_iload_n dJx4a65c_add_7a177_46 rfl ?_
    refine g_iload_n dJx4a65c_add_7a177_47 rfl ?_
    refine g_isub dJx4a65c_add_7a177_48 ?_
    rw [show nI m - nI i = nI (m - i) from by rw [show m = (m - i) + i by omega, ← nI_add, Int32.add_sub_cancel, Nat.add_sub_cancel]]
    have kb2 : am_K (am_sR (am_sBr (am_nw (am_sI h 600 a v) b' 13 c') b' f) 601 a (some b')) b' = 13 := by show am_K (am_nw (am_sI h 600 a v) b' 13 c') b' = 13; rw [am_K_nw, if_pos rfl]
    have nb2 : am_N (am_sR (am_sBr (am_nw (am_sI h 600 a v) b' 13 c') b' f) 601 a (some b')) b' = c' := by show am_N (am_nw (am_sI h 600 a v) b' 13 c') b' = c'; rw [am_N_nw, if_pos rfl]
    have Bb2 : am_B (am_sR (am_sBr (am_nw (am_sI h 600 a v) b' 13 c') b' f) 601 a (some b')) b' = f := funext fun j => by show am_B (am_sBr _ b' f) b' j = f j; rw [am_B_sBr, if_pos rfl]
    refine g_copyB dJx4a65c_add_7a177_49 jw_112 kb2 kb2 (by rw [nb2]; omega) (by rw [nb2]; omega) (by rw [nb2]; omega) (by rw [nb2]; omega) (fun y hy q hq => ?_) (by rw [hR]; exact Nat.le_of_ble_eq_true rfl) (by rw [hR]; exact Nat.le_of_ble_eq_true rfl) ?_
    · rw [Bb2, q4 _ (by omega)] at hq
      have hq2 := hel (i + y) (by omega) q hq
      have hqn : q ≠ b' := fun z => by rw [z, q1'] at hq2; rcases hq2 with w | w <;> cases w
      show am_K (am_nw (am_sI h 600 a v) b' 13 c') q = 2 ∨ am_K (am_nw (am_sI h 600 a v) b' 13 c') q = 4
      rw [am_K_nw, if_neg hqn]
      exact hq2
    rw [Bb2]
    refine g_aload dJx4a65c_add_7a177_52 rfl ?_
    refine g_iload_n dJx4a65c_add_7a177_54 rfl ?_
    refine g_aload_n dJx4a65c_add_7a177_55 rfl ?_
    refine g_oast dJx4a65c_add_7a177_56 kb2 (by show vp_in (nI i) (am_N (am_sR (am_sBr (am_nw (am_sI h 600 a v) b' 13 c') b' f) 601 a (some b')) b'); rw [nb2]; exact vp_in_nI (by omega) (by omega)) (by show am_K (am_nw (am_sI h 600 a v) b' 13 c') x = 2 ∨ am_K (am_nw (am_sI h 600 a v) b' 13 c') x = 4; rw [am_K_nw, if_neg hnx]; exact hx) ?_
    rw [nI_clamp (by omega)]
    refine g_aload_n dJx4a65c_add_7a177_57 rfl ?_
    refine g_iload_n dJx4a65c_add_7a177_58 rfl ?_
    refine g_iconst (v := 1) dJx4a65c_add_7a177_59 (by decide) ?_
    refine g_iadd dJx4a65c_add_7a177_60 ?_
    rw [nI_1]
    refine g_putI dJx4a65c_add_7a177_61 fl_AL_48 rfl (fun q hq => Or.inl (by cases hq; rfl)) (by show am_K (am_nw (am_sI h 600 a v) b' 13 c') a = 6 + 1; rw [am_K_nw, if_neg hna]; exact hk) rfl rfl ?_
    rw [hQ]
    refine g_vret dJx4a65c_add_7a177_64 rfl (by decide) (by decide) ?_
    refine ⟨rfl, v, (fun j => if j = i then some x else va_cpy f f i (i + 1) (m - i) j), fun j hj => ?_, if_pos rfl, fun j h1 h2 => ?_, Or.inr ⟨b', c', q1, q2, q3, by rw [am_sR_sBr, am_sBr_sBr, am_sB_Br, am_sBr_sBr]; congr 2; funext j; by_cases e : j = i; rw [if_pos e, if_pos e]; rw [if_neg e, if_neg e, am_B_sBr, if_pos rfl]⟩⟩
    · show (if j = i then some x else va_cpy f f i (i + 1) (m - i) j) = _
      rw [if_neg (by omega)]
      unfold va_cpy
      rw [if_neg (by omega)]
      exact (q4 _ (by omega))
    · show (if j = i then some x else va_cpy f f i (i + 1) (m - i) j) = _
      rw [if_neg (by omega)]
      unfold va_cpy
      rw [if_pos (by omega), show i + (j - (i + 1)) = j - 1 by omega]
      exact (q4 _ (by omega))
theorem am_sBr_self {h : am_H} {b : Nat} : am_sBr h b (am_B h b) = h := by
  unfold am_sBr am_B
  have e : (fun (c i : Nat) => if c = b then h.2.2.2.2.2.1 b i else h.2.2.2.2.2.1 c i) = h.2.2.2.2.2.1 := by
    funext c i
    by_cases z : c = b
    · rw [if_pos z, z]
    · rw [if_neg z]
  rw [e]
set_option maxRecDepth 100000 in
set_option maxHeartbeats 4000000 in
theorem c_clear {l : Launch} (hlt : l.stackTraces = false) {h : am_H} {a b m : Nat} (ha : LA h a b m) : am_Con l yJx4a65c_clear_da8c8 (.code yJx4a65c_clear_da8c8 cJx4a65c_clear_da8c8 4 none) 1 0 0 [.ref a] h (fun v h' => v = none ∧ ∃ (z : Int32) (g : Nat → Option Nat), h' = am_sBr (am_sI (am_sI h 600 a z) 602 a (nI 0)) b g) (fun _ _ => False) := by
  refine am_body hlt (by decide +kernel) (Nat.le_of_ble_eq_true rfl) (fun k hl hR h0 hno => ?_)
  subst hl
  obtain ⟨Qf, hQ⟩ : ∃ Qf, Qf = am_Q k 0 0 (fun v h' => v = none ∧ ∃ (z : Int32) (g : Nat → Option Nat), h' = am_sBr (am_sI (am_sI h 600 a z) 602 a (nI 0)) b g) (fun _ _ => False) := ⟨_, rfl⟩
  rw [← hQ]
  obtain ⟨hk, hm, hr, hm24, hbb, hel⟩ := id ha
  have hN16 : am_K h b = 13 ∨ am_K h b = 16 := by rcases hbb with z | z; exact Or.inl z.1; exact Or.inr z.1
  have hNm : m ≤ am_N h b ∧ am_N h b ≤ 100 := by rcases hbb with z | z <;> omega
  refine g_aload_n dJx4a65c_clear_da8c8_0 rfl ?_
  refine g_dup dJx4a65c_clear_da8c8_1 rfl ?_
  refine g_getI dJx4a65c_clear_da8c8_2 fl_AL_63 rfl hk ?_
  refine g_iconst (v := 1) dJx4a65c_clear_da8c8_5 (by decide) ?_
  refine g_iadd dJx4a65c_clear_da8c8_6 ?_
  refine g_putI dJx4a65c_clear_da8c8_7 fl_AL_63 rfl (fun q hq => Or.inl (by cases hq; rfl)) hk rfl rfl ?_
  obtain ⟨v, ev⟩ : ∃ v, v = am_I h 600 a + 1 := ⟨_, rfl⟩
  rw [← ev]
  have ha1 : LA (am_sI h 600 a v) a b m := ⟨hk, by rw [am_I_sI, if_neg (by omega)]; exact hm, hr, hm24, hbb, hel⟩
  refine g_aload_n dJx4a65c_clear_da8c8_10 rfl ?_
  refine g_getR dJx4a65c_clear_da8c8_11 fl_AL_9 rfl hk hr ?_
  refine g_astore_n dJx4a65c_clear_da8c8_14 (by decide) rfl ?_
  refine g_aload_n dJx4a65c_clear_da8c8_15 rfl ?_
  refine g_getI dJx4a65c_clear_da8c8_16 fl_AL_48 rfl hk ?_
  rw [ha1.2.1]
  refine g_istore_n dJx4a65c_clear_da8c8_19 (by decide) rfl ?_
  refine g_aload_n dJx4a65c_clear_da8c8_20 rfl ?_
  refine g_iconst (v := nI 0) dJx4a65c_clear_da8c8_21 (by decide) ?_
  refine g_dup_x1 dJx4a65c_clear_da8c8_22 rfl rfl ?_
  refine g_putI dJx4a65c_clear_da8c8_23 fl_AL_48 rfl (fun q hq => Or.inl (by cases hq; rfl)) hk rfl rfl ?_
  refine g_istore_n dJx4a65c_clear_da8c8_26 (by decide) rfl ?_
  have lp_27 : ∀ (f : Nat) (j : Nat) (g : Nat → Option Nat), j ≤ m → m - j < f → am_G k RJx4a65c yJx4a65c_clear_da8c8.name cJx4a65c_clear_da8c8 4 none 0 0 Qf 27 [(3, .int (nI j)), (2, .int (nI m)), (1, .ref b), (0, .ref a)] [] (am_sBr (am_sI (am_sI h 600 a v) 602 a (nI 0)) b g) := by
    intro f
    induction f with
    | zero => intro j g hj hf; omega
    | succ f ih =>
      intro j g hj hf
      refine g_iload_n dJx4a65c_clear_da8c8_27 rfl ?_
      refine g_iload_n dJx4a65c_clear_da8c8_28 rfl ?_
      refine gN_ge 42 dJx4a65c_clear_da8c8_29 (by decide) (by omega) (by omega) (fun c_29 => ?_) (fun c_29 => ?_)
      · skip
        rw [hQ]
        refine g_vret dJx4a65c_clear_da8c8_42 rfl (by decide) (by decide) ?_
        exact ⟨rfl, v, g, rfl⟩
      · skip
        refine g_aload_n dJx4a65c_clear_da8c8_32 rfl ?_
        refine g_iload_n dJx4a65c_clear_da8c8_33 rfl ?_
        refine g_null dJx4a65c_clear_da8c8_34 ?_
        have hb13 : am_K h b = 13 := by rcases hbb with z | z; exact z.1; omega
        refine g_oastN dJx4a65c_clear_da8c8_35 hb13 (vp_in_nI (by show j < am_N h b; omega) (by show am_N h b < 2 ^ 31; omega)) ?_
        rw [nI_clamp (by omega), am_sB_Br, am_sBr_sBr]
        refine g_iinc dJx4a65c_clear_da8c8_36 rfl (nI_i1 _) (by decide) rfl ?_
        refine g_goto 27 dJx4a65c_clear_da8c8_39 (by decide) ?_
        refine g_ls [(3, .int (nI (j + 1))), (2, .int (nI m)), (1, .ref b), (0, .ref a)] ⟨rfl, rfl, rfl, rfl, trivial⟩ ?_
        exact ih (j + 1) _ (by omega) (by omega)
  refine g_ls [(3, .int (nI 0)), (2, .int (nI m)), (1, .ref b), (0, .ref a)] ⟨rfl, rfl, rfl, rfl, trivial⟩ ?_
  have := lp_27 (m + 1) 0 (am_B (am_sI (am_sI h 600 a v) 602 a (nI 0)) b) (by omega) (by omega)
  rw [am_sBr_self] at this
  exact this
