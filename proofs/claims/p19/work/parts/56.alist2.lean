theorem nI_s1 (m : Nat) : nI (m + 1) - nI m = nI 1 := by
  rw [Nat.add_comm, ← nI_add]
  exact Int32.add_sub_cancel _ _
theorem am_sBr_nw {h : am_H} {b k c : Nat} : am_sBr (am_nw h b k c) b (fun _ => none) = am_nw h b k c := by
  unfold am_sBr am_nw
  have e : (fun (b' i : Nat) => if b' = b then none else (if b' = b then none else h.2.2.2.2.2.1 b' i)) = fun (b' i : Nat) => if b' = b then none else h.2.2.2.2.2.1 b' i := by
    funext b' i
    split <;> rfl
  show (_, _, _, _, _, (fun b' i => if b' = b then none else (if b' = b then none else h.2.2.2.2.2.1 b' i)), _) = _
  rw [e]
/-- the list a of m elements in the row b -/
def LA (h : am_H) (a b m : Nat) : Prop := am_K h a = 6 + 1 ∧ am_I h 602 a = nI m ∧ am_R h 601 a = some b ∧ m ≤ 24 ∧ ((am_K h b = 13 ∧ m ≤ am_N h b ∧ am_N h b ≤ 100) ∨ (am_K h b = 16 ∧ m = 0 ∧ am_N h b = 0)) ∧ (∀ i, i < m → ∀ y, am_B h b i = some y → am_K h y = 2 ∨ am_K h y = 4)
set_option maxRecDepth 100000 in
set_option maxHeartbeats 4000000 in
theorem c_grow92A {l : Launch} (hlt : l.stackTraces = false) {h : am_H} {a b m : Nat} (ha : LA h a b m) (h13 : am_K h b = 13) (hN : am_N h b = m) : am_Con l yJx4a65c_grow_92f84 (.code yJx4a65c_grow_92f84 cJx4a65c_grow_92f84 4 (some (.array (.object "java/lang/Object")))) 4 1 100 [.ref a, .int (nI (m + 1))] h (fun v h' => ∃ (b' c' : Nat) (f : Nat → Option Nat), v = some (.ref b') ∧ am_K h b' = 0 ∧ m + 1 ≤ c' ∧ c' ≤ 100 ∧ (∀ i, i < m → f i = am_B h b i) ∧ h' = am_sR (am_sBr (am_nw h b' 13 c') b' f) 601 a (some b')) (fun _ _ => False) := by
  refine am_body hlt (by decide +kernel) (Nat.le_of_ble_eq_true rfl) (fun k hl hR h0 hno => ?_)
  subst hl
  obtain ⟨Qf, hQ⟩ : ∃ Qf, Qf = am_Q k 1 100 (fun v h' => ∃ (b' c' : Nat) (f : Nat → Option Nat), v = some (.ref b') ∧ am_K h b' = 0 ∧ m + 1 ≤ c' ∧ c' ≤ 100 ∧ (∀ i, i < m → f i = am_B h b i) ∧ h' = am_sR (am_sBr (am_nw h b' 13 c') b' f) 601 a (some b')) (fun _ _ => False) := ⟨_, rfl⟩
  rw [← hQ]
  obtain ⟨hk, hm, hr, hm24, hbb, hel⟩ := id ha
  refine g_aload_n dJx4a65c_grow_92f84_0 rfl ?_
  refine g_getR dJx4a65c_grow_92f84_1 fl_AL_9 rfl hk hr ?_
  refine g_alenO dJx4a65c_grow_92f84_4 (Or.inl h13) (by rw [hN]) ?_
  refine g_istore_n dJx4a65c_grow_92f84_5 (by decide) rfl ?_
  refine g_iload_n dJx4a65c_grow_92f84_6 rfl ?_
  refine g_if_gt 20 dJx4a65c_grow_92f84_7 (by decide) (fun c_7 => ?_) (fun c_7 => ?_)
  · skip
    refine g_iload_n dJx4a65c_grow_92f84_20 rfl ?_
    refine g_iload_n dJx4a65c_grow_92f84_21 rfl ?_
    refine g_iload_n dJx4a65c_grow_92f84_22 rfl ?_
    refine g_isub dJx4a65c_grow_92f84_23 ?_
    rw [nI_s1]
    refine g_iload_n dJx4a65c_grow_92f84_24 rfl ?_
    refine g_iconst (v := 1) dJx4a65c_grow_92f84_25 (by decide) ?_
    refine g_ishr dJx4a65c_grow_92f84_26 ?_
    rw [sh1_100 m (by omega)]
    refine g_callS [_, _, _] dJx4a65c_grow_92f84_27 mc_AL_73 ms_J8_newLength_cabcc (c_newLength hlt (a := m) (b := 1) (c := m / 2) (by omega) (by omega) (by omega) (by omega)) rfl (Nat.le_of_ble_eq_true rfl) (am_rm hR (by decide)) (fun _ _ z => z) (fun v hx hq hE => ?_)
    obtain ⟨rfl, hh⟩ := hq
    subst hx
    refine g_istore_n dJx4a65c_grow_92f84_30 (by decide) rfl ?_
    refine g_aload_n dJx4a65c_grow_92f84_31 rfl ?_
    refine g_aload_n dJx4a65c_grow_92f84_32 rfl ?_
    refine g_getR dJx4a65c_grow_92f84_33 fl_AL_9 rfl hk hr ?_
    refine g_iload_n dJx4a65c_grow_92f84_36 rfl ?_
    refine g_callS [_, _] dJx4a65c_grow_92f84_37 mc_AL_66 ms_J7_copyOf_1904c (c_copyOf hlt (c := m + max 1 (m / 2)) h13 (by omega) (by omega) (by omega) (fun i hi => hel i (by omega))) rfl (Nat.le_of_ble_eq_true rfl) (am_rm hR (by decide)) (fun _ _ z => z) (fun v hx hq hE => ?_)
    obtain ⟨b', f, rfl, q1, q2, rfl⟩ := hq
    refine g_dup_x1 dJx4a65c_grow_92f84_40 rfl rfl ?_
    have hne : a ≠ b' := fun z => by rw [z, q1] at hk; cases hk
    refine g_putRs dJx4a65c_grow_92f84_41 fl_AL_9 rfl (fun q hq => Or.inl (by cases hq; rfl)) (by show am_K (am_sBr (am_nw h b' 13 _) b' f) a = 6 + 1; rw [am_K_sBr, am_K_nw, if_neg hne]; exact hk) rfl rfl ?_
    rw [hQ]
    exact g_aret (r := some b') dJx4a65c_grow_92f84_44 rfl (Or.inr ⟨_, rfl⟩) (by decide) (by decide) ⟨b', _, f, rfl, q1, by omega, by omega, fun i hi => q2 i (by omega), rfl⟩
  · skip
    refine g_aload_n dJx4a65c_grow_92f84_10 rfl ?_
    refine g_getR dJx4a65c_grow_92f84_11 fl_AL_9 rfl hk hr ?_
    refine g_gets39 dJx4a65c_grow_92f84_14 (fun z hz hu => ?_)
    refine g_acmp_eq (x := some b) (y := some z) 45 dJx4a65c_grow_92f84_17 (by decide) (fun q => absurd (show am_K h b = 16 by rw [Option.some.inj q]; exact hz) (by rw [h13]; decide)) (fun _ => ?_)
    refine g_iload_n dJx4a65c_grow_92f84_20 rfl ?_
    refine g_iload_n dJx4a65c_grow_92f84_21 rfl ?_
    refine g_iload_n dJx4a65c_grow_92f84_22 rfl ?_
    refine g_isub dJx4a65c_grow_92f84_23 ?_
    rw [nI_s1]
    refine g_iload_n dJx4a65c_grow_92f84_24 rfl ?_
    refine g_iconst (v := 1) dJx4a65c_grow_92f84_25 (by decide) ?_
    refine g_ishr dJx4a65c_grow_92f84_26 ?_
    rw [sh1_100 m (by omega)]
    refine g_callS [_, _, _] dJx4a65c_grow_92f84_27 mc_AL_73 ms_J8_newLength_cabcc (c_newLength hlt (a := m) (b := 1) (c := m / 2) (by omega) (by omega) (by omega) (by omega)) rfl (Nat.le_of_ble_eq_true rfl) (am_rm hR (by decide)) (fun _ _ z => z) (fun v hx hq hE => ?_)
    obtain ⟨rfl, hh⟩ := hq
    subst hx
    refine g_istore_n dJx4a65c_grow_92f84_30 (by decide) rfl ?_
    refine g_aload_n dJx4a65c_grow_92f84_31 rfl ?_
    refine g_aload_n dJx4a65c_grow_92f84_32 rfl ?_
    refine g_getR dJx4a65c_grow_92f84_33 fl_AL_9 rfl hk hr ?_
    refine g_iload_n dJx4a65c_grow_92f84_36 rfl ?_
    refine g_callS [_, _] dJx4a65c_grow_92f84_37 mc_AL_66 ms_J7_copyOf_1904c (c_copyOf hlt (c := m + max 1 (m / 2)) h13 (by omega) (by omega) (by omega) (fun i hi => hel i (by omega))) rfl (Nat.le_of_ble_eq_true rfl) (am_rm hR (by decide)) (fun _ _ z => z) (fun v hx hq hE => ?_)
    obtain ⟨b', f, rfl, q1, q2, rfl⟩ := hq
    refine g_dup_x1 dJx4a65c_grow_92f84_40 rfl rfl ?_
    have hne : a ≠ b' := fun z => by rw [z, q1] at hk; cases hk
    refine g_putRs dJx4a65c_grow_92f84_41 fl_AL_9 rfl (fun q hq => Or.inl (by cases hq; rfl)) (by show am_K (am_sBr (am_nw h b' 13 _) b' f) a = 6 + 1; rw [am_K_sBr, am_K_nw, if_neg hne]; exact hk) rfl rfl ?_
    rw [hQ]
    exact g_aret (r := some b') dJx4a65c_grow_92f84_44 rfl (Or.inr ⟨_, rfl⟩) (by decide) (by decide) ⟨b', _, f, rfl, q1, by omega, by omega, fun i hi => q2 i (by omega), rfl⟩
set_option maxRecDepth 100000 in
set_option maxHeartbeats 4000000 in
theorem c_grow92B {l : Launch} (hlt : l.stackTraces = false) {h : am_H} {a b : Nat} (ha : LA h a b 0) (h16 : am_K h b = 16) (hN : am_N h b = 0) : am_Con l yJx4a65c_grow_92f84 (.code yJx4a65c_grow_92f84 cJx4a65c_grow_92f84 4 (some (.array (.object "java/lang/Object")))) 4 1 100 [.ref a, .int (nI 1)] h (fun v h' => ∃ (b' c' : Nat) (f : Nat → Option Nat), v = some (.ref b') ∧ am_K h b' = 0 ∧ 0 + 1 ≤ c' ∧ c' ≤ 100 ∧ (∀ i, i < 0 → f i = am_B h b i) ∧ h' = am_sR (am_sBr (am_nw h b' 13 c') b' f) 601 a (some b')) (fun _ _ => False) := by
  refine am_body hlt (by decide +kernel) (Nat.le_of_ble_eq_true rfl) (fun k hl hR h0 hno => ?_)
  subst hl
  obtain ⟨Qf, hQ⟩ : ∃ Qf, Qf = am_Q k 1 100 (fun v h' => ∃ (b' c' : Nat) (f : Nat → Option Nat), v = some (.ref b') ∧ am_K h b' = 0 ∧ 0 + 1 ≤ c' ∧ c' ≤ 100 ∧ (∀ i, i < 0 → f i = am_B h b i) ∧ h' = am_sR (am_sBr (am_nw h b' 13 c') b' f) 601 a (some b')) (fun _ _ => False) := ⟨_, rfl⟩
  rw [← hQ]
  obtain ⟨hk, hm, hr, hm24, hbb, hel⟩ := id ha
  refine g_aload_n dJx4a65c_grow_92f84_0 rfl ?_
  refine g_getR dJx4a65c_grow_92f84_1 fl_AL_9 rfl hk hr ?_
  refine g_alenO (v := nI 0) dJx4a65c_grow_92f84_4 (Or.inr h16) (by rw [hN]) ?_
  refine g_istore_n dJx4a65c_grow_92f84_5 (by decide) rfl ?_
  refine g_iload_n dJx4a65c_grow_92f84_6 rfl ?_
  refine g_if_gt 20 dJx4a65c_grow_92f84_7 (by decide) (fun z => absurd z (by decide)) (fun c_7 => ?_)
  refine g_aload_n dJx4a65c_grow_92f84_10 rfl ?_
  refine g_getR dJx4a65c_grow_92f84_11 fl_AL_9 rfl hk hr ?_
  refine g_gets39 dJx4a65c_grow_92f84_14 (fun z hz hu => ?_)
  refine g_acmp_eq (x := some b) (y := some z) 45 dJx4a65c_grow_92f84_17 (by decide) (fun _ => ?_) (fun q => absurd (congrArg some (hu b h16)) q)
  refine g_aload_n dJx4a65c_grow_92f84_45 rfl ?_
  refine g_bipush (v := nI 10) dJx4a65c_grow_92f84_46 (by decide) ?_
  refine g_iload_n dJx4a65c_grow_92f84_48 rfl ?_
  refine g_max dJx4a65c_grow_92f84_49 ml_AL_79 ms_max ini_Math mcode_max (by rw [hR]; decide) (by rw [hR]; exact Nat.le_of_ble_eq_true rfl) (by rw [hR]; decide) (by rw [hR]; first | decide | (show _ ≤ 100; omega)) ?_
  rw [max_nI (by omega) (by omega)]
  rw [show max 10 1 = 10 from rfl]
  refine g_newO (N := 10) dJx4a65c_grow_92f84_52 kl_AL_7 (nI_pos (by omega)) (nI_clamp (by omega)) (by omega) (by rw [hR]; exact Nat.le_of_ble_eq_true rfl) (by rw [hR]; exact Nat.le_of_ble_eq_true rfl) (fun b' hb9 => ?_)
  have hb' := am_new0 hb9
  refine g_dup_x1 dJx4a65c_grow_92f84_55 rfl rfl ?_
  have hne : a ≠ b' := fun z => by rw [z, hb'] at hk; cases hk
  refine g_putRs dJx4a65c_grow_92f84_56 fl_AL_9 rfl (fun q hq => Or.inl (by cases hq; rfl)) (by show am_K (am_nw h b' 13 10) a = 6 + 1; rw [am_K_nw, if_neg hne]; exact hk) rfl rfl ?_
  rw [hQ]
  exact g_aret (r := some b') dJx4a65c_grow_92f84_59 rfl (Or.inr ⟨_, rfl⟩) (by decide) (by decide) ⟨b', 10, fun _ => none, rfl, hb', by omega, by omega, fun i hi => absurd hi (Nat.not_lt_zero _), by rw [am_sBr_nw]⟩
theorem c_grow92 {l : Launch} (hlt : l.stackTraces = false) {h : am_H} {a b m : Nat} (ha : LA h a b m) (hN : am_N h b = m) : am_Con l yJx4a65c_grow_92f84 (.code yJx4a65c_grow_92f84 cJx4a65c_grow_92f84 4 (some (.array (.object "java/lang/Object")))) 4 1 100 [.ref a, .int (nI (m + 1))] h (fun v h' => ∃ (b' c' : Nat) (f : Nat → Option Nat), v = some (.ref b') ∧ am_K h b' = 0 ∧ m + 1 ≤ c' ∧ c' ≤ 100 ∧ (∀ i, i < m → f i = am_B h b i) ∧ h' = am_sR (am_sBr (am_nw h b' 13 c') b' f) 601 a (some b')) (fun _ _ => False) := by
  rcases ha.2.2.2.2.1 with z | z
  · exact c_grow92A hlt ha z.1 hN
  · obtain ⟨z1, z2, z3⟩ := z
    subst z2
    exact c_grow92B hlt ha z1 z3
set_option maxRecDepth 100000 in
set_option maxHeartbeats 4000000 in
theorem c_grow {l : Launch} (hlt : l.stackTraces = false) {h : am_H} {a b m : Nat} (ha : LA h a b m) (hN : am_N h b = m) : am_Con l yJx4a65c_grow_d5877 (.code yJx4a65c_grow_d5877 cJx4a65c_grow_d5877 1 (some (.array (.object "java/lang/Object")))) 5 1 100 [.ref a] h (fun v h' => ∃ (b' c' : Nat) (f : Nat → Option Nat), v = some (.ref b') ∧ am_K h b' = 0 ∧ m + 1 ≤ c' ∧ c' ≤ 100 ∧ (∀ i, i < m → f i = am_B h b i) ∧ h' = am_sR (am_sBr (am_nw h b' 13 c') b' f) 601 a (some b')) (fun _ _ => False) := by
  refine am_body hlt (by decide +kernel) (Nat.le_of_ble_eq_true rfl) (fun k hl hR h0 hno => ?_)
  subst hl
  obtain ⟨Qf, hQ⟩ : ∃ Qf, Qf = am_Q k 1 100 (fun v h' => ∃ (b' c' : Nat) (f : Nat → Option Nat), v = some (.ref b') ∧ am_K h b' = 0 ∧ m + 1 ≤ c' ∧ c' ≤ 100 ∧ (∀ i, i < m → f i = am_B h b i) ∧ h' = am_sR (am_sBr (am_nw h b' 13 c') b' f) 601 a (some b')) (fun _ _ => False) := ⟨_, rfl⟩
  rw [← hQ]
  obtain ⟨hk, hm, hr, hm24, hbb, hel⟩ := id ha
  refine g_aload_n dJx4a65c_grow_d5877_0 rfl ?_
  refine g_aload_n dJx4a65c_grow_d5877_1 rfl ?_
  refine g_getI dJx4a65c_grow_d5877_2 fl_AL_48 rfl hk ?_
  rw [hm]
  refine g_iconst (v := 1) dJx4a65c_grow_d5877_5 (by decide) ?_
  refine g_iadd dJx4a65c_grow_d5877_6 ?_
  rw [nI_1]
  refine g_callV [_] dJx4a65c_grow_d5877_7 mc_AL_69 mi_Jx4a65c_grow_92f84 se_Jx4a65c_grow_92f84 (c_grow92 hlt ha hN) (hk) rfl rfl (Nat.le_of_ble_eq_true rfl) (am_rm hR (by decide)) (fun _ _ z => z) (fun v hx hq hE => ?_)
  obtain ⟨b', c', f, rfl, q1, q2, q3, q4, rfl⟩ := hq
  rw [hQ]
  exact g_aret (r := some b') dJx4a65c_grow_d5877_10 rfl (Or.inr ⟨_, rfl⟩) (by decide) (by decide) ⟨b', c', f, rfl, q1, q2, q3, q4, rfl⟩
/-- what an addition leaves: base, with the size m + 1, in the old row or in a new one -/
def AD (h : am_H) (a b m : Nat) (g : Nat → Option Nat) (h' : am_H) : Prop :=
  (am_K h b = 13 ∧ m < am_N h b ∧ h' = am_sI (am_sBr h b g) 602 a (nI (m + 1))) ∨
  (∃ (b' c' : Nat), am_K h b' = 0 ∧ m + 1 ≤ c' ∧ c' ≤ 100 ∧ h' = am_sI (am_sBr (am_sR (am_nw h b' 13 c') 601 a (some b')) b' g) 602 a (nI (m + 1)))
theorem am_sB_Br {h : am_H} {b i : Nat} {v : Option Nat} : am_sB h b i v = am_sBr h b (fun j => if j = i then v else am_B h b j) := by
  unfold am_sB am_sBr am_u2 am_B
  have e : (fun (j c : Nat) => if j = b ∧ c = i then v else h.2.2.2.2.2.1 j c) = fun (c j : Nat) => if c = b then (if j = i then v else h.2.2.2.2.2.1 b j) else h.2.2.2.2.2.1 c j := by
    funext c j
    by_cases e1 : c = b
    · subst e1
      by_cases e2 : j = i
      · rw [if_pos ⟨rfl, e2⟩, if_pos rfl, if_pos e2]
      · rw [if_neg (fun z => e2 z.2), if_pos rfl, if_neg e2]
    · rw [if_neg (fun z => e1 z.1), if_neg e1]
  rw [e]
theorem am_sBr_sBr {h : am_H} {b : Nat} {f g : Nat → Option Nat} : am_sBr (am_sBr h b f) b g = am_sBr h b g := by
  unfold am_sBr
  have e : (fun (c i : Nat) => if c = b then g i else (if c = b then f i else h.2.2.2.2.2.1 c i)) = fun (c i : Nat) => if c = b then g i else h.2.2.2.2.2.1 c i := by
    funext c i
    split <;> rfl
  show (_, _, _, _, _, (fun c i => if c = b then g i else (if c = b then f i else h.2.2.2.2.2.1 c i)), _) = _
  rw [e]
theorem am_sR_sBr {h : am_H} {b a f : Nat} {v : Option Nat} {g : Nat → Option Nat} : am_sR (am_sBr h b g) f a v = am_sBr (am_sR h f a v) b g := rfl
set_option maxRecDepth 100000 in
set_option maxHeartbeats 4000000 in
theorem c_add72 {l : Launch} (hlt : l.stackTraces = false) {h : am_H} {a b m x : Nat} (ha : LA h a b m) (hx : am_K h x = 2 ∨ am_K h x = 4) : am_Con l yJx4a65c_add_72be8 (.code yJx4a65c_add_72be8 cJx4a65c_add_72be8 4 none) 6 1 100 [.ref a, .ref x, .ref b, .int (nI m)] h (fun v h' => v = none ∧ ∃ g : Nat → Option Nat, (∀ i, i < m → g i = am_B h b i) ∧ g m = some x ∧ AD h a b m g h') (fun _ _ => False) := by
  refine am_body hlt (by decide +kernel) (Nat.le_of_ble_eq_true rfl) (fun k hl hR h0 hno => ?_)
  subst hl
  obtain ⟨Qf, hQ⟩ : ∃ Qf, Qf = am_Q k 1 100 (fun v h' => v = none ∧ ∃ g : Nat → Option Nat, (∀ i, i < m → g i = am_B h b i) ∧ g m = some x ∧ AD h a b m g h') (fun _ _ => False) := ⟨_, rfl⟩
  rw [← hQ]
  obtain ⟨hk, hm, hr, hm24, hbb, hel⟩ := id ha
  have hN16 : am_K h b = 13 ∨ am_K h b = 16 := by rcases hbb with z | z; exact Or.inl z.1; exact Or.inr z.1
  have hNm : m ≤ am_N h b ∧ am_N h b ≤ 100 := by rcases hbb with z | z <;> omega
  refine g_iload_n dJx4a65c_add_72be8_0 rfl ?_
  refine g_aload_n dJx4a65c_add_72be8_1 rfl ?_
  refine g_alenO dJx4a65c_add_72be8_2 hN16 rfl ?_
  refine gN_ne 11 dJx4a65c_add_72be8_3 (by decide) (by omega) (by omega) (fun c_3 => ?_) (fun c_3 => ?_)
  · skip
    refine g_aload_n dJx4a65c_add_72be8_11 rfl ?_
    refine g_iload_n dJx4a65c_add_72be8_12 rfl ?_
    refine g_aload_n dJx4a65c_add_72be8_13 rfl ?_
    have hb13 : am_K h b = 13 := by rcases hbb with z | z; exact z.1; omega
    refine g_oast dJx4a65c_add_72be8_14 hb13 (vp_in_nI (by omega) (by omega)) hx ?_
    rw [nI_clamp (by omega)]
    refine g_aload_n dJx4a65c_add_72be8_15 rfl ?_
    refine g_iload_n dJx4a65c_add_72be8_16 rfl ?_
    refine g_iconst (v := 1) dJx4a65c_add_72be8_17 (by decide) ?_
    refine g_iadd dJx4a65c_add_72be8_18 ?_
    rw [nI_1]
    refine g_putI dJx4a65c_add_72be8_19 fl_AL_48 rfl (fun q hq => Or.inl (by cases hq; rfl)) hk rfl rfl ?_
    rw [hQ]
    refine g_vret dJx4a65c_add_72be8_22 rfl (by decide) (by decide) ?_
    exact ⟨rfl, fun j => if j = m then some x else am_B h b j, fun i hi => if_neg (by omega), if_pos rfl, Or.inl ⟨hb13, by omega, by rw [am_sB_Br]⟩⟩
  · skip
    refine g_aload_n dJx4a65c_add_72be8_6 rfl ?_
    refine g_callV [] dJx4a65c_add_72be8_7 mc_AL_129 mi_Jx4a65c_grow_d5877 se_Jx4a65c_grow_d5877 (c_grow hlt ha (by omega)) (hk) rfl rfl (Nat.le_of_ble_eq_true rfl) (am_rm hR (by decide)) (fun _ _ z => z) (fun v hx hq hE => ?_)
    obtain ⟨b', c', f, rfl, q1, q2, q3, q4, rfl⟩ := hq
    have hnx : x ≠ b' := fun z => by rw [z, q1] at hx; rcases hx with q | q <;> cases q
    have hna : a ≠ b' := fun z => by rw [z, q1] at hk; cases hk
    refine g_astore_n dJx4a65c_add_72be8_10 (by decide) rfl ?_
    refine g_aload_n dJx4a65c_add_72be8_11 rfl ?_
    refine g_iload_n dJx4a65c_add_72be8_12 rfl ?_
    refine g_aload_n dJx4a65c_add_72be8_13 rfl ?_
    refine g_oast dJx4a65c_add_72be8_14 (by show am_K (am_sBr (am_nw h b' 13 c') b' f) b' = 13; rw [am_K_sBr, am_K_nw, if_pos rfl]) (by show vp_in (nI m) (am_N (am_sBr (am_nw h b' 13 c') b' f) b'); rw [am_N_sBr, am_N_nw, if_pos rfl]; exact vp_in_nI (by omega) (by omega)) (by show am_K (am_sBr (am_nw h b' 13 c') b' f) x = 2 ∨ am_K (am_sBr (am_nw h b' 13 c') b' f) x = 4; rw [am_K_sBr, am_K_nw, if_neg hnx]; exact hx) ?_
    rw [nI_clamp (by omega)]
    refine g_aload_n dJx4a65c_add_72be8_15 rfl ?_
    refine g_iload_n dJx4a65c_add_72be8_16 rfl ?_
    refine g_iconst (v := 1) dJx4a65c_add_72be8_17 (by decide) ?_
    refine g_iadd dJx4a65c_add_72be8_18 ?_
    rw [nI_1]
    refine g_putI dJx4a65c_add_72be8_19 fl_AL_48 rfl (fun q hq => Or.inl (by cases hq; rfl)) (by show am_K (am_sBr (am_nw h b' 13 c') b' f) a = 6 + 1; rw [am_K_sBr, am_K_nw, if_neg hna]; exact hk) rfl rfl ?_
    rw [hQ]
    refine g_vret dJx4a65c_add_72be8_22 rfl (by decide) (by decide) ?_
    refine ⟨rfl, fun j => if j = m then some x else f j, fun i hi => (if_neg (by omega)).trans (q4 i hi), if_pos rfl, Or.inr ⟨b', c', q1, q2, q3, ?_⟩⟩
    rw [am_sB_Br, am_sR_sBr, am_sBr_sBr]
    congr 2
    funext j
    rw [show am_B (am_sBr (am_sR (am_nw h b' 13 c') 601 a (some b')) b' f) b' j = f j from by rw [am_B_sBr, if_pos rfl]]
