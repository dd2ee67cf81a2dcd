set_option maxRecDepth 100000 in
set_option maxHeartbeats 4000000 in
theorem c_isOutside_0 {l : Launch} (hlt : l.stackTraces = false) {h : am_H} {a lo hi : Int32} (h1 : ¬ a < lo) (h2 : a ≤ hi) : am_Con l yX4_isOutside (.code yX4_isOutside cX4_isOutside 3 (some .boolean)) 1 0 0 [.int a, .int lo, .int hi] h (fun v h' => v = some (.int 0) ∧ h' = h) (fun _ _ => False) := by
  refine am_body hlt (by decide +kernel) (Nat.le_of_ble_eq_true rfl) (fun k hl hR h0 hno => ?_)
  subst hl
  obtain ⟨Qf, hQ⟩ : ∃ Qf, Qf = am_Q k 0 0 (fun v h' => v = some (.int 0) ∧ h' = h) (fun _ _ => False) := ⟨_, rfl⟩
  rw [← hQ]
  refine g_iload_n dX4_isOutside_0 rfl ?_
  refine g_iload_n dX4_isOutside_1 rfl ?_
  refine g_icmp_lt 10 dX4_isOutside_2 (by decide) (fun z => absurd z h1) (fun c_2 => ?_)
  refine g_iload_n dX4_isOutside_5 rfl ?_
  refine g_iload_n dX4_isOutside_6 rfl ?_
  refine g_icmp_le 14 dX4_isOutside_7 (by decide) (fun c_7 => ?_) (fun z => absurd h2 z)
  refine g_iconst (v := 0) dX4_isOutside_14 (by decide) ?_
  rw [hQ]
  refine g_iret dX4_isOutside_15 rfl rfl (by decide) (by decide) ?_
  exact ⟨rfl, rfl⟩
set_option maxRecDepth 100000 in
set_option maxHeartbeats 4000000 in
theorem c_isOutside_1 {l : Launch} (hlt : l.stackTraces = false) {h : am_H} {a lo hi : Int32} (hb : a < lo ∨ ¬ a ≤ hi) : am_Con l yX4_isOutside (.code yX4_isOutside cX4_isOutside 3 (some .boolean)) 1 0 0 [.int a, .int lo, .int hi] h (fun v h' => v = some (.int 1) ∧ h' = h) (fun _ _ => False) := by
  refine am_body hlt (by decide +kernel) (Nat.le_of_ble_eq_true rfl) (fun k hl hR h0 hno => ?_)
  subst hl
  obtain ⟨Qf, hQ⟩ : ∃ Qf, Qf = am_Q k 0 0 (fun v h' => v = some (.int 1) ∧ h' = h) (fun _ _ => False) := ⟨_, rfl⟩
  rw [← hQ]
  refine g_iload_n dX4_isOutside_0 rfl ?_
  refine g_iload_n dX4_isOutside_1 rfl ?_
  refine g_icmp_lt 10 dX4_isOutside_2 (by decide) (fun c_2 => ?_) (fun c_2 => ?_)
  · skip
    refine g_iconst (v := 1) dX4_isOutside_10 (by decide) ?_
    refine g_goto 15 dX4_isOutside_11 (by decide) ?_
    rw [hQ]
    refine g_iret dX4_isOutside_15 rfl rfl (by decide) (by decide) ?_
    exact ⟨rfl, rfl⟩
  · skip
    refine g_iload_n dX4_isOutside_5 rfl ?_
    refine g_iload_n dX4_isOutside_6 rfl ?_
    refine g_icmp_le 14 dX4_isOutside_7 (by decide) (fun c_7 => ?_) (fun c_7 => ?_)
    · skip
      exact absurd hb (by intro z; rcases z with z | z; exact c_2 z; exact z c_7)
    · skip
      refine g_iconst (v := 1) dX4_isOutside_10 (by decide) ?_
      refine g_goto 15 dX4_isOutside_11 (by decide) ?_
      rw [hQ]
      refine g_iret dX4_isOutside_15 rfl rfl (by decide) (by decide) ?_
      exact ⟨rfl, rfl⟩
set_option maxRecDepth 100000 in
set_option maxHeartbeats 4000000 in
theorem c_isNoDistrict_0 {l : Launch} (hlt : l.stackTraces = false) {N n p : Nat} {ord : List Nat} {L : Nat → Nat → Nat} {Γ : Nat → Nat → Nat → Int32} {o : Nat} {h : am_H} (w : WI N n p ord L Γ o h) {i : Nat} (hi : i < n) : am_Con l yX4_isNoDistrict (.code yX4_isNoDistrict cX4_isNoDistrict 2 (some .boolean)) 2 0 0 [.ref (L 5 0), .int (nI i)] h (fun v h' => v = some (.int 0) ∧ h' = h) (fun _ _ => False) := by
  refine am_body hlt (by decide +kernel) (Nat.le_of_ble_eq_true rfl) (fun k hl hR h0 hno => ?_)
  subst hl
  obtain ⟨Qf, hQ⟩ : ∃ Qf, Qf = am_Q k 0 0 (fun v h' => v = some (.int 0) ∧ h' = h) (fun _ _ => False) := ⟨_, rfl⟩
  rw [← hQ]
  have hx0 : wdm n p o 5 0 = true := rfl
  have hn8 : n ≤ 8 := w.1.1
  have hp24 : p ≤ 24 := w.1.2.1
  have ho8 : ord.length ≤ 8 := w.1.2.2.2.2
  refine g_iload_n dX4_isNoDistrict_0 rfl ?_
  refine g_if_lt 15 dX4_isNoDistrict_1 (by decide) (fun z => absurd z (nI_pos (by omega))) (fun c_1 => ?_)
  refine g_iload_n dX4_isNoDistrict_4 rfl ?_
  refine g_aload_n dX4_isNoDistrict_5 rfl ?_
  refine w_getR w dX4_isNoDistrict_6 fl_X4_12 rfl rfl (by first | rfl | assumption) rfl ?_
  refine g_callV [] dX4_isNoDistrict_9 mc_X4_57 mi_Jx4a65c_size_8abf5 se_Jx4a65c_size_8abf5 (c_size0 hlt w) (w.k (by first | rfl | assumption)) rfl rfl (Nat.le_of_ble_eq_true rfl) (am_rm hR (by decide)) (fun _ _ z => z) (fun v hx hq hE => ?_)
  obtain ⟨rfl, rfl⟩ := hq
  refine gN_lt 19 dX4_isNoDistrict_12 (by decide) (by omega) (by omega) (fun c_12 => ?_) (fun z => absurd hi (by omega))
  refine g_iconst (v := 0) dX4_isNoDistrict_19 (by decide) ?_
  rw [hQ]
  refine g_iret dX4_isNoDistrict_20 rfl rfl (by decide) (by decide) ?_
  exact ⟨rfl, rfl⟩
set_option maxRecDepth 100000 in
set_option maxHeartbeats 4000000 in
theorem c_isNoDistrict_1 {l : Launch} (hlt : l.stackTraces = false) {N n p : Nat} {ord : List Nat} {L : Nat → Nat → Nat} {Γ : Nat → Nat → Nat → Int32} {o : Nat} {h : am_H} (w : WI N n p ord L Γ o h) {a : Int32} (hb : a < 0 ∨ nI n ≤ a) : am_Con l yX4_isNoDistrict (.code yX4_isNoDistrict cX4_isNoDistrict 2 (some .boolean)) 2 0 0 [.ref (L 5 0), .int a] h (fun v h' => v = some (.int 1) ∧ h' = h) (fun _ _ => False) := by
  refine am_body hlt (by decide +kernel) (Nat.le_of_ble_eq_true rfl) (fun k hl hR h0 hno => ?_)
  subst hl
  obtain ⟨Qf, hQ⟩ : ∃ Qf, Qf = am_Q k 0 0 (fun v h' => v = some (.int 1) ∧ h' = h) (fun _ _ => False) := ⟨_, rfl⟩
  rw [← hQ]
  have hx0 : wdm n p o 5 0 = true := rfl
  have hn8 : n ≤ 8 := w.1.1
  have hp24 : p ≤ 24 := w.1.2.1
  have ho8 : ord.length ≤ 8 := w.1.2.2.2.2
  refine g_iload_n dX4_isNoDistrict_0 rfl ?_
  refine g_if_lt 15 dX4_isNoDistrict_1 (by decide) (fun c_1 => ?_) (fun c_1 => ?_)
  · skip
    refine g_iconst (v := 1) dX4_isNoDistrict_15 (by decide) ?_
    refine g_goto 20 dX4_isNoDistrict_16 (by decide) ?_
    rw [hQ]
    refine g_iret dX4_isNoDistrict_20 rfl rfl (by decide) (by decide) ?_
    exact ⟨rfl, rfl⟩
  · skip
    refine g_iload_n dX4_isNoDistrict_4 rfl ?_
    refine g_aload_n dX4_isNoDistrict_5 rfl ?_
    refine w_getR w dX4_isNoDistrict_6 fl_X4_12 rfl rfl (by first | rfl | assumption) rfl ?_
    refine g_callV [] dX4_isNoDistrict_9 mc_X4_57 mi_Jx4a65c_size_8abf5 se_Jx4a65c_size_8abf5 (c_size0 hlt w) (w.k (by first | rfl | assumption)) rfl rfl (Nat.le_of_ble_eq_true rfl) (am_rm hR (by decide)) (fun _ _ z => z) (fun v hx hq hE => ?_)
    obtain ⟨rfl, rfl⟩ := hq
    refine g_icmp_lt 19 dX4_isNoDistrict_12 (by decide) (fun c_12 => ?_) (fun c_12 => ?_)
    · skip
      exact absurd hb (by intro z; rcases z with z | z; exact c_1 z; exact (Int32.not_lt.mpr z) c_12)
    · skip
      refine g_iconst (v := 1) dX4_isNoDistrict_15 (by decide) ?_
      refine g_goto 20 dX4_isNoDistrict_16 (by decide) ?_
      rw [hQ]
      refine g_iret dX4_isNoDistrict_20 rfl rfl (by decide) (by decide) ?_
      exact ⟨rfl, rfl⟩
set_option maxRecDepth 100000 in
set_option maxHeartbeats 4000000 in
theorem c_isNoPipe_0 {l : Launch} (hlt : l.stackTraces = false) {N n p : Nat} {ord : List Nat} {L : Nat → Nat → Nat} {Γ : Nat → Nat → Nat → Int32} {o : Nat} {h : am_H} (w : WI N n p ord L Γ o h) {i : Nat} (hi : i < p) : am_Con l yX4_isNoPipe (.code yX4_isNoPipe cX4_isNoPipe 2 (some .boolean)) 2 0 0 [.ref (L 5 0), .int (nI i)] h (fun v h' => v = some (.int 0) ∧ h' = h) (fun _ _ => False) := by
  refine am_body hlt (by decide +kernel) (Nat.le_of_ble_eq_true rfl) (fun k hl hR h0 hno => ?_)
  subst hl
  obtain ⟨Qf, hQ⟩ : ∃ Qf, Qf = am_Q k 0 0 (fun v h' => v = some (.int 0) ∧ h' = h) (fun _ _ => False) := ⟨_, rfl⟩
  rw [← hQ]
  have hx0 : wdm n p o 5 0 = true := rfl
  have hn8 : n ≤ 8 := w.1.1
  have hp24 : p ≤ 24 := w.1.2.1
  have ho8 : ord.length ≤ 8 := w.1.2.2.2.2
  refine g_iload_n dX4_isNoPipe_0 rfl ?_
  refine g_if_lt 18 dX4_isNoPipe_1 (by decide) (fun z => absurd z (nI_pos (by omega))) (fun c_1 => ?_)
  refine g_iload_n dX4_isNoPipe_4 rfl ?_
  refine g_aload_n dX4_isNoPipe_5 rfl ?_
  refine w_getR w dX4_isNoPipe_6 fl_X4_19 rfl rfl (by first | rfl | assumption) rfl ?_
  refine w_getR w dX4_isNoPipe_9 fl_X4_86 rfl rfl (by first | rfl | assumption) rfl ?_
  refine g_callV [] dX4_isNoPipe_12 mc_X4_57 mi_Jx4a65c_size_8abf5 se_Jx4a65c_size_8abf5 (c_size2 hlt w) (w.k (by first | rfl | assumption)) rfl rfl (Nat.le_of_ble_eq_true rfl) (am_rm hR (by decide)) (fun _ _ z => z) (fun v hx hq hE => ?_)
  obtain ⟨rfl, rfl⟩ := hq
  refine gN_lt 22 dX4_isNoPipe_15 (by decide) (by omega) (by omega) (fun c_15 => ?_) (fun z => absurd hi (by omega))
  refine g_iconst (v := 0) dX4_isNoPipe_22 (by decide) ?_
  rw [hQ]
  refine g_iret dX4_isNoPipe_23 rfl rfl (by decide) (by decide) ?_
  exact ⟨rfl, rfl⟩
set_option maxRecDepth 100000 in
set_option maxHeartbeats 4000000 in
theorem c_isNoPipe_1 {l : Launch} (hlt : l.stackTraces = false) {N n p : Nat} {ord : List Nat} {L : Nat → Nat → Nat} {Γ : Nat → Nat → Nat → Int32} {o : Nat} {h : am_H} (w : WI N n p ord L Γ o h) {a : Int32} (hb : a < 0 ∨ nI p ≤ a) : am_Con l yX4_isNoPipe (.code yX4_isNoPipe cX4_isNoPipe 2 (some .boolean)) 2 0 0 [.ref (L 5 0), .int a] h (fun v h' => v = some (.int 1) ∧ h' = h) (fun _ _ => False) := by
  refine am_body hlt (by decide +kernel) (Nat.le_of_ble_eq_true rfl) (fun k hl hR h0 hno => ?_)
  subst hl
  obtain ⟨Qf, hQ⟩ : ∃ Qf, Qf = am_Q k 0 0 (fun v h' => v = some (.int 1) ∧ h' = h) (fun _ _ => False) := ⟨_, rfl⟩
  rw [← hQ]
  have hx0 : wdm n p o 5 0 = true := rfl
  have hn8 : n ≤ 8 := w.1.1
  have hp24 : p ≤ 24 := w.1.2.1
  have ho8 : ord.length ≤ 8 := w.1.2.2.2.2
  refine g_iload_n dX4_isNoPipe_0 rfl ?_
  refine g_if_lt 18 dX4_isNoPipe_1 (by decide) (fun c_1 => ?_) (fun c_1 => ?_)
  · skip
    refine g_iconst (v := 1) dX4_isNoPipe_18 (by decide) ?_
    refine g_goto 23 dX4_isNoPipe_19 (by decide) ?_
    rw [hQ]
    refine g_iret dX4_isNoPipe_23 rfl rfl (by decide) (by decide) ?_
    exact ⟨rfl, rfl⟩
  · skip
    refine g_iload_n dX4_isNoPipe_4 rfl ?_
    refine g_aload_n dX4_isNoPipe_5 rfl ?_
    refine w_getR w dX4_isNoPipe_6 fl_X4_19 rfl rfl (by first | rfl | assumption) rfl ?_
    refine w_getR w dX4_isNoPipe_9 fl_X4_86 rfl rfl (by first | rfl | assumption) rfl ?_
    refine g_callV [] dX4_isNoPipe_12 mc_X4_57 mi_Jx4a65c_size_8abf5 se_Jx4a65c_size_8abf5 (c_size2 hlt w) (w.k (by first | rfl | assumption)) rfl rfl (Nat.le_of_ble_eq_true rfl) (am_rm hR (by decide)) (fun _ _ z => z) (fun v hx hq hE => ?_)
    obtain ⟨rfl, rfl⟩ := hq
    refine g_icmp_lt 22 dX4_isNoPipe_15 (by decide) (fun c_15 => ?_) (fun c_15 => ?_)
    · skip
      exact absurd hb (by intro z; rcases z with z | z; exact c_1 z; exact (Int32.not_lt.mpr z) c_15)
    · skip
      refine g_iconst (v := 1) dX4_isNoPipe_18 (by decide) ?_
      refine g_goto 23 dX4_isNoPipe_19 (by decide) ?_
      rw [hQ]
      refine g_iret dX4_isNoPipe_23 rfl rfl (by decide) (by decide) ?_
      exact ⟨rfl, rfl⟩
set_option maxRecDepth 100000 in
set_option maxHeartbeats 4000000 in
theorem c_X4_sumGot {l : Launch} (hlt : l.stackTraces = false) {N n p : Nat} {ord : List Nat} {L : Nat → Nat → Nat} {Γ : Nat → Nat → Nat → Int32} {o : Nat} {h : am_H} (w : WI N n p ord L Γ o h)  : am_Con l yX4_sumGot (.code yX4_sumGot cX4_sumGot 3 (some .int)) 4 0 0 [.ref (L 5 0)] h (fun v h' => v = some (.int (sp_sum (fun j => Γ 2 j 8) n)) ∧ h' = h) (fun _ _ => False) := by
  refine am_body hlt (by decide +kernel) (Nat.le_of_ble_eq_true rfl) (fun k hl hR h0 hno => ?_)
  subst hl
  obtain ⟨Qf, hQ⟩ : ∃ Qf, Qf = am_Q k 0 0 (fun v h' => v = some (.int (sp_sum (fun j => Γ 2 j 8) n)) ∧ h' = h) (fun _ _ => False) := ⟨_, rfl⟩
  rw [← hQ]
  have hx0 : wdm n p o 5 0 = true := rfl
  have hn8 : n ≤ 8 := w.1.1
  have hp24 : p ≤ 24 := w.1.2.1
  have ho8 : ord.length ≤ 8 := w.1.2.2.2.2
  refine g_iconst (v := 0) dX4_sumGot_0 (by decide) ?_
  refine g_istore_n dX4_sumGot_1 (by decide) rfl ?_
  refine g_iconst (v := 0) dX4_sumGot_2 (by decide) ?_
  refine g_istore_n dX4_sumGot_3 (by decide) rfl ?_
  have lp_4 : ∀ (f : Nat) (j : Nat) (x : Int32), j ≤ n → n - j < f → x = sp_sum (fun j => Γ 2 j 8) j → am_G k RX4 yX4_sumGot.name cX4_sumGot 3 (some .int) 0 0 Qf 4 [(2, .int (nI j)), (1, .int x), (0, .ref (L 5 0))] [] h := by
    intro f
    induction f with
    | zero => intro j x hj hf ex; omega
    | succ f ih =>
      intro j x hj hf ex
      refine g_iload_n dX4_sumGot_4 rfl ?_
      refine g_aload_n dX4_sumGot_5 rfl ?_
      refine w_getR w dX4_sumGot_6 fl_X4_12 rfl rfl (by first | rfl | assumption) rfl ?_
      refine g_callV [] dX4_sumGot_9 mc_X4_57 mi_Jx4a65c_size_8abf5 se_Jx4a65c_size_8abf5 (c_size0 hlt w) (w.k (by first | rfl | assumption)) rfl rfl (Nat.le_of_ble_eq_true rfl) (am_rm hR (by decide)) (fun _ _ z => z) (fun v hx hq hE => ?_)
      obtain ⟨rfl, rfl⟩ := hq
      refine gN_ge 38 dX4_sumGot_12 (by decide) (by omega) (by omega) (fun c_12 => ?_) (fun c_12 => ?_)
      · skip
        refine g_iload_n dX4_sumGot_38 rfl ?_
        rw [hQ]
        refine g_iret dX4_sumGot_39 rfl rfl (by decide) (by decide) ?_
        have ej : j = n := by omega
        subst ej
        exact ⟨by rw [ex], rfl⟩
      · skip
        refine g_iload_n dX4_sumGot_15 rfl ?_
        refine g_aload_n dX4_sumGot_16 rfl ?_
        refine w_getR w dX4_sumGot_17 fl_X4_12 rfl rfl (by first | rfl | assumption) rfl ?_
        refine g_iload_n dX4_sumGot_20 rfl ?_
        refine g_callV [_] dX4_sumGot_21 mc_X4_103 mi_Jx4a65c_get_915e3 se_Jx4a65c_get_915e3 (c_get0 hlt w (by first | assumption | omega)) (w.k (by first | rfl | assumption)) rfl rfl (Nat.le_of_ble_eq_true rfl) (am_rm hR (by decide)) (fun _ _ z => z) (fun v hx hq hE => ?_)
        obtain ⟨rfl, rfl⟩ := hq
        have hdj : wdm n p o 2 j = true := decide_eq_true (by omega)
        refine g_castS (q := (RX1, TX1, 14)) dX4_sumGot_24 kl_X4_66 (w.k (by first | rfl | assumption)) rfl ?_
        refine w_getI w dX4_sumGot_27 fl_X4_160 rfl rfl (by first | rfl | assumption) ?_
        refine g_iadd dX4_sumGot_30 ?_
        refine g_istore_n dX4_sumGot_31 (by decide) rfl ?_
        refine g_iinc dX4_sumGot_32 rfl (nI_i1 _) (by decide) rfl ?_
        refine g_goto 4 dX4_sumGot_35 (by decide) ?_
        refine g_ls [(2, .int (nI (j + 1))), (1, .int _), (0, .ref (L 5 0))] ⟨rfl, rfl, rfl, trivial⟩ ?_
        exact ih (j + 1) _ (by omega) (by omega) (by rw [ex]; simp only [sp_sum, reduceIte, c_12])
  refine g_ls [(2, .int (nI 0)), (1, .int 0), (0, .ref (L 5 0))] ⟨rfl, rfl, rfl, trivial⟩ ?_
  exact lp_4 (n + 1) 0 0 (by omega) (by omega) rfl
set_option maxRecDepth 100000 in
set_option maxHeartbeats 4000000 in
theorem c_X4_sumWater {l : Launch} (hlt : l.stackTraces = false) {N n p : Nat} {ord : List Nat} {L : Nat → Nat → Nat} {Γ : Nat → Nat → Nat → Int32} {o : Nat} {h : am_H} (w : WI N n p ord L Γ o h)  : am_Con l yX4_sumWater (.code yX4_sumWater cX4_sumWater 3 (some .int)) 4 0 0 [.ref (L 5 0)] h (fun v h' => v = some (.int (sp_sum (fun j => Γ 2 j 3) n)) ∧ h' = h) (fun _ _ => False) := by
  refine am_body hlt (by decide +kernel) (Nat.le_of_ble_eq_true rfl) (fun k hl hR h0 hno => ?_)
  subst hl
  obtain ⟨Qf, hQ⟩ : ∃ Qf, Qf = am_Q k 0 0 (fun v h' => v = some (.int (sp_sum (fun j => Γ 2 j 3) n)) ∧ h' = h) (fun _ _ => False) := ⟨_, rfl⟩
  rw [← hQ]
  have hx0 : wdm n p o 5 0 = true := rfl
  have hn8 : n ≤ 8 := w.1.1
  have hp24 : p ≤ 24 := w.1.2.1
  have ho8 : ord.length ≤ 8 := w.1.2.2.2.2
  refine g_iconst (v := 0) dX4_sumWater_0 (by decide) ?_
  refine g_istore_n dX4_sumWater_1 (by decide) rfl ?_
  refine g_iconst (v := 0) dX4_sumWater_2 (by decide) ?_
  refine g_istore_n dX4_sumWater_3 (by decide) rfl ?_
  have lp_4 : ∀ (f : Nat) (j : Nat) (x : Int32), j ≤ n → n - j < f → x = sp_sum (fun j => Γ 2 j 3) j → am_G k RX4 yX4_sumWater.name cX4_sumWater 3 (some .int) 0 0 Qf 4 [(2, .int (nI j)), (1, .int x), (0, .ref (L 5 0))] [] h := by
    intro f
    induction f with
    | zero => intro j x hj hf ex; omega
    | succ f ih =>
      intro j x hj hf ex
      refine g_iload_n dX4_sumWater_4 rfl ?_
      refine g_aload_n dX4_sumWater_5 rfl ?_
      refine w_getR w dX4_sumWater_6 fl_X4_12 rfl rfl (by first | rfl | assumption) rfl ?_
      refine g_callV [] dX4_sumWater_9 mc_X4_57 mi_Jx4a65c_size_8abf5 se_Jx4a65c_size_8abf5 (c_size0 hlt w) (w.k (by first | rfl | assumption)) rfl rfl (Nat.le_of_ble_eq_true rfl) (am_rm hR (by decide)) (fun _ _ z => z) (fun v hx hq hE => ?_)
      obtain ⟨rfl, rfl⟩ := hq
      refine gN_ge 38 dX4_sumWater_12 (by decide) (by omega) (by omega) (fun c_12 => ?_) (fun c_12 => ?_)
      · skip
        refine g_iload_n dX4_sumWater_38 rfl ?_
        rw [hQ]
        refine g_iret dX4_sumWater_39 rfl rfl (by decide) (by decide) ?_
        have ej : j = n := by omega
        subst ej
        exact ⟨by rw [ex], rfl⟩
      · skip
        refine g_iload_n dX4_sumWater_15 rfl ?_
        refine g_aload_n dX4_sumWater_16 rfl ?_
        refine w_getR w dX4_sumWater_17 fl_X4_12 rfl rfl (by first | rfl | assumption) rfl ?_
        refine g_iload_n dX4_sumWater_20 rfl ?_
        refine g_callV [_] dX4_sumWater_21 mc_X4_103 mi_Jx4a65c_get_915e3 se_Jx4a65c_get_915e3 (c_get0 hlt w (by first | assumption | omega)) (w.k (by first | rfl | assumption)) rfl rfl (Nat.le_of_ble_eq_true rfl) (am_rm hR (by decide)) (fun _ _ z => z) (fun v hx hq hE => ?_)
        obtain ⟨rfl, rfl⟩ := hq
        have hdj : wdm n p o 2 j = true := decide_eq_true (by omega)
        refine g_castS (q := (RX1, TX1, 14)) dX4_sumWater_24 kl_X4_66 (w.k (by first | rfl | assumption)) rfl ?_
        refine w_getI w dX4_sumWater_27 fl_X4_175 rfl rfl (by first | rfl | assumption) ?_
        refine g_iadd dX4_sumWater_30 ?_
        refine g_istore_n dX4_sumWater_31 (by decide) rfl ?_
        refine g_iinc dX4_sumWater_32 rfl (nI_i1 _) (by decide) rfl ?_
        refine g_goto 4 dX4_sumWater_35 (by decide) ?_
        refine g_ls [(2, .int (nI (j + 1))), (1, .int _), (0, .ref (L 5 0))] ⟨rfl, rfl, rfl, trivial⟩ ?_
        exact ih (j + 1) _ (by omega) (by omega) (by rw [ex]; simp only [sp_sum, reduceIte, c_12])
  refine g_ls [(2, .int (nI 0)), (1, .int 0), (0, .ref (L 5 0))] ⟨rfl, rfl, rfl, trivial⟩ ?_
  exact lp_4 (n + 1) 0 0 (by omega) (by omega) rfl
set_option maxRecDepth 100000 in
set_option maxHeartbeats 4000000 in
theorem c_X4_sumPaid {l : Launch} (hlt : l.stackTraces = false) {N n p : Nat} {ord : List Nat} {L : Nat → Nat → Nat} {Γ : Nat → Nat → Nat → Int32} {o : Nat} {h : am_H} (w : WI N n p ord L Γ o h)  : am_Con l yX4_sumPaidLessPaidBack (.code yX4_sumPaidLessPaidBack cX4_sumPaidLessPaidBack 4 (some .int)) 4 0 0 [.ref (L 5 0)] h (fun v h' => v = some (.int (sp_sum (fun j => Γ 2 j 9 - Γ 2 j 10) n)) ∧ h' = h) (fun _ _ => False) := by
  refine am_body hlt (by decide +kernel) (Nat.le_of_ble_eq_true rfl) (fun k hl hR h0 hno => ?_)
  subst hl
  obtain ⟨Qf, hQ⟩ : ∃ Qf, Qf = am_Q k 0 0 (fun v h' => v = some (.int (sp_sum (fun j => Γ 2 j 9 - Γ 2 j 10) n)) ∧ h' = h) (fun _ _ => False) := ⟨_, rfl⟩
  rw [← hQ]
  have hx0 : wdm n p o 5 0 = true := rfl
  have hn8 : n ≤ 8 := w.1.1
  have hp24 : p ≤ 24 := w.1.2.1
  have ho8 : ord.length ≤ 8 := w.1.2.2.2.2
  refine g_iconst (v := 0) dX4_sumPaidLessPaidBack_0 (by decide) ?_
  refine g_istore_n dX4_sumPaidLessPaidBack_1 (by decide) rfl ?_
  refine g_iconst (v := 0) dX4_sumPaidLessPaidBack_2 (by decide) ?_
  refine g_istore_n dX4_sumPaidLessPaidBack_3 (by decide) rfl ?_
  have lp_4 : ∀ (f : Nat) (j : Nat) (x : Int32), j ≤ n → n - j < f → x = sp_sum (fun j => Γ 2 j 9 - Γ 2 j 10) j → am_G k RX4 yX4_sumPaidLessPaidBack.name cX4_sumPaidLessPaidBack 4 (some .int) 0 0 Qf 4 [(2, .int (nI j)), (1, .int x), (0, .ref (L 5 0))] [] h := by
    intro f
    induction f with
    | zero => intro j x hj hf ex; omega
    | succ f ih =>
      intro j x hj hf ex
      refine g_iload_n dX4_sumPaidLessPaidBack_4 rfl ?_
      refine g_aload_n dX4_sumPaidLessPaidBack_5 rfl ?_
      refine w_getR w dX4_sumPaidLessPaidBack_6 fl_X4_12 rfl rfl (by first | rfl | assumption) rfl ?_
      refine g_callV [] dX4_sumPaidLessPaidBack_9 mc_X4_57 mi_Jx4a65c_size_8abf5 se_Jx4a65c_size_8abf5 (c_size0 hlt w) (w.k (by first | rfl | assumption)) rfl rfl (Nat.le_of_ble_eq_true rfl) (am_rm hR (by decide)) (fun _ _ z => z) (fun v hx hq hE => ?_)
      obtain ⟨rfl, rfl⟩ := hq
      refine gN_ge 45 dX4_sumPaidLessPaidBack_12 (by decide) (by omega) (by omega) (fun c_12 => ?_) (fun c_12 => ?_)
      · skip
        refine g_iload_n dX4_sumPaidLessPaidBack_45 rfl ?_
        rw [hQ]
        refine g_iret dX4_sumPaidLessPaidBack_46 rfl rfl (by decide) (by decide) ?_
        have ej : j = n := by omega
        subst ej
        exact ⟨by rw [ex], rfl⟩
      · skip
        refine g_aload_n dX4_sumPaidLessPaidBack_15 rfl ?_
        refine w_getR w dX4_sumPaidLessPaidBack_16 fl_X4_12 rfl rfl (by first | rfl | assumption) rfl ?_
        refine g_iload_n dX4_sumPaidLessPaidBack_19 rfl ?_
        refine g_callV [_] dX4_sumPaidLessPaidBack_20 mc_X4_103 mi_Jx4a65c_get_915e3 se_Jx4a65c_get_915e3 (c_get0 hlt w (by first | assumption | omega)) (w.k (by first | rfl | assumption)) rfl rfl (Nat.le_of_ble_eq_true rfl) (am_rm hR (by decide)) (fun _ _ z => z) (fun v hx hq hE => ?_)
        obtain ⟨rfl, rfl⟩ := hq
        have hdj : wdm n p o 2 j = true := decide_eq_true (by omega)
        refine g_castS (q := (RX1, TX1, 14)) dX4_sumPaidLessPaidBack_23 kl_X4_66 (w.k (by first | rfl | assumption)) rfl ?_
        refine g_astore_n dX4_sumPaidLessPaidBack_26 (by decide) rfl ?_
        refine g_iload_n dX4_sumPaidLessPaidBack_27 rfl ?_
        refine g_aload_n dX4_sumPaidLessPaidBack_28 rfl ?_
        refine w_getI w dX4_sumPaidLessPaidBack_29 fl_X4_181 rfl rfl (by first | rfl | assumption) ?_
        refine g_aload_n dX4_sumPaidLessPaidBack_32 rfl ?_
        refine w_getI w dX4_sumPaidLessPaidBack_33 fl_X4_184 rfl rfl (by first | rfl | assumption) ?_
        refine g_isub dX4_sumPaidLessPaidBack_36 ?_
        refine g_iadd dX4_sumPaidLessPaidBack_37 ?_
        refine g_istore_n dX4_sumPaidLessPaidBack_38 (by decide) rfl ?_
        refine g_iinc dX4_sumPaidLessPaidBack_39 rfl (nI_i1 _) (by decide) rfl ?_
        refine g_goto 4 dX4_sumPaidLessPaidBack_42 (by decide) ?_
        refine g_ls [(2, .int (nI (j + 1))), (1, .int _), (0, .ref (L 5 0))] ⟨rfl, rfl, rfl, trivial⟩ ?_
        exact ih (j + 1) _ (by omega) (by omega) (by rw [ex]; simp only [sp_sum, reduceIte, c_12])
  refine g_ls [(2, .int (nI 0)), (1, .int 0), (0, .ref (L 5 0))] ⟨rfl, rfl, rfl, trivial⟩ ?_
  exact lp_4 (n + 1) 0 0 (by omega) (by omega) rfl
set_option maxRecDepth 100000 in
set_option maxHeartbeats 4000000 in
theorem c_X2_countBurst {l : Launch} (hlt : l.stackTraces = false) {N n p : Nat} {ord : List Nat} {L : Nat → Nat → Nat} {Γ : Nat → Nat → Nat → Int32} {o : Nat} {h : am_H} (w : WI N n p ord L Γ o h)  : am_Con l yX2_countBurst (.code yX2_countBurst cX2_countBurst 3 (some .int)) 4 0 0 [.ref (L 3 0)] h (fun v h' => v = some (.int (sp_sum (fun j => if Γ 4 j 3 = 0 then 0 else 1) p)) ∧ h' = h) (fun _ _ => False) := by
  refine am_body hlt (by decide +kernel) (Nat.le_of_ble_eq_true rfl) (fun k hl hR h0 hno => ?_)
  subst hl
  obtain ⟨Qf, hQ⟩ : ∃ Qf, Qf = am_Q k 0 0 (fun v h' => v = some (.int (sp_sum (fun j => if Γ 4 j 3 = 0 then 0 else 1) p)) ∧ h' = h) (fun _ _ => False) := ⟨_, rfl⟩
  rw [← hQ]
  have hx0 : wdm n p o 5 0 = true := rfl
  have hn8 : n ≤ 8 := w.1.1
  have hp24 : p ≤ 24 := w.1.2.1
  have ho8 : ord.length ≤ 8 := w.1.2.2.2.2
  have hm : wdm n p o 3 0 = true := rfl
  refine g_iconst (v := 0) dX2_countBurst_0 (by decide) ?_
  refine g_istore_n dX2_countBurst_1 (by decide) rfl ?_
  refine g_iconst (v := 0) dX2_countBurst_2 (by decide) ?_
  refine g_istore_n dX2_countBurst_3 (by decide) rfl ?_
  have lp_4 : ∀ (f : Nat) (j : Nat) (x : Int32), j ≤ p → p - j < f → x = sp_sum (fun j => if Γ 4 j 3 = 0 then 0 else 1) j → am_G k RX2 yX2_countBurst.name cX2_countBurst 3 (some .int) 0 0 Qf 4 [(2, .int (nI j)), (1, .int x), (0, .ref (L 3 0))] [] h := by
    intro f
    induction f with
    | zero => intro j x hj hf ex; omega
    | succ f ih =>
      intro j x hj hf ex
      refine g_iload_n dX2_countBurst_4 rfl ?_
      refine g_aload_n dX2_countBurst_5 rfl ?_
      refine w_getR w dX2_countBurst_6 fl_X2_12 rfl rfl (by first | rfl | assumption) rfl ?_
      refine g_callV [] dX2_countBurst_9 mc_X2_40 mi_Jx4a65c_size_8abf5 se_Jx4a65c_size_8abf5 (c_size2 hlt w) (w.k (by first | rfl | assumption)) rfl rfl (Nat.le_of_ble_eq_true rfl) (am_rm hR (by decide)) (fun _ _ z => z) (fun v hx hq hE => ?_)
      obtain ⟨rfl, rfl⟩ := hq
      refine gN_ge 41 dX2_countBurst_12 (by decide) (by omega) (by omega) (fun c_12 => ?_) (fun c_12 => ?_)
      · skip
        refine g_iload_n dX2_countBurst_41 rfl ?_
        rw [hQ]
        refine g_iret dX2_countBurst_42 rfl rfl (by decide) (by decide) ?_
        have ej : j = p := by omega
        subst ej
        exact ⟨by rw [ex], rfl⟩
      · skip
        refine g_aload_n dX2_countBurst_15 rfl ?_
        refine w_getR w dX2_countBurst_16 fl_X2_12 rfl rfl (by first | rfl | assumption) rfl ?_
        refine g_iload_n dX2_countBurst_19 rfl ?_
        refine g_callV [_] dX2_countBurst_20 mc_X2_44 mi_Jx4a65c_get_915e3 se_Jx4a65c_get_915e3 (c_get2 hlt w (by first | assumption | omega)) (w.k (by first | rfl | assumption)) rfl rfl (Nat.le_of_ble_eq_true rfl) (am_rm hR (by decide)) (fun _ _ z => z) (fun v hx hq hE => ?_)
        obtain ⟨rfl, rfl⟩ := hq
        have hdj : wdm n p o 4 j = true := decide_eq_true (by omega)
        refine g_castS (q := (RX3, TX3, 4)) dX2_countBurst_23 kl_X2_48 (w.k (by first | rfl | assumption)) rfl ?_
        refine w_getI w dX2_countBurst_26 fl_X2_50 rfl rfl (by first | rfl | assumption) ?_
        refine g_if_eq 35 dX2_countBurst_29 (by decide) (fun c_29 => ?_) (fun c_29 => ?_)
        · skip
          refine g_iinc dX2_countBurst_35 rfl (nI_i1 _) (by decide) rfl ?_
          refine g_goto 4 dX2_countBurst_38 (by decide) ?_
          refine g_ls [(2, .int (nI (j + 1))), (1, .int _), (0, .ref (L 3 0))] ⟨rfl, rfl, rfl, trivial⟩ ?_
          exact ih (j + 1) _ (by omega) (by omega) (by first | (rw [ex]; simp only [sp_sum, reduceIte, c_12, c_29]; done) | (rw [ex]; simp only [sp_sum, reduceIte, c_12, c_29, Int32.add_zero]; done) | (rw [ex]; simp only [sp_sum, reduceIte, c_12, c_29]; rfl))
        · skip
          refine g_iinc dX2_countBurst_32 rfl rfl (by decide) rfl ?_
          refine g_iinc dX2_countBurst_35 rfl (nI_i1 _) (by decide) rfl ?_
          refine g_goto 4 dX2_countBurst_38 (by decide) ?_
          refine g_ls [(2, .int (nI (j + 1))), (1, .int _), (0, .ref (L 3 0))] ⟨rfl, rfl, rfl, trivial⟩ ?_
          exact ih (j + 1) _ (by omega) (by omega) (by first | (rw [ex]; simp only [sp_sum, reduceIte, c_12, c_29]; done) | (rw [ex]; simp only [sp_sum, reduceIte, c_12, c_29, Int32.add_zero]; done) | (rw [ex]; simp only [sp_sum, reduceIte, c_12, c_29]; rfl))
  refine g_ls [(2, .int (nI 0)), (1, .int 0), (0, .ref (L 3 0))] ⟨rfl, rfl, rfl, trivial⟩ ?_
  exact lp_4 (p + 1) 0 0 (by omega) (by omega) rfl
set_option maxRecDepth 100000 in
set_option maxHeartbeats 4000000 in
theorem c_X4_bidsAheadOf {l : Launch} (hlt : l.stackTraces = false) {N n p : Nat} {ord : List Nat} {L : Nat → Nat → Nat} {Γ : Nat → Nat → Nat → Int32} {o : Nat} {h : am_H} (w : WI N n p ord L Γ o h) {i : Nat} (hi : wdm n p o 2 i = true) : am_Con l yX4_bidsAheadOf (.code yX4_bidsAheadOf cX4_bidsAheadOf 4 (some .int)) 4 0 0 [.ref (L 5 0), .ref (L 2 i)] h (fun v h' => v = some (.int (sp_sum (fun j => if sp_ahead Γ (ord.getD j 0) i = 0 then 0 else 1) ord.length)) ∧ h' = h) (fun _ _ => False) := by
  refine am_body hlt (by decide +kernel) (Nat.le_of_ble_eq_true rfl) (fun k hl hR h0 hno => ?_)
  subst hl
  obtain ⟨Qf, hQ⟩ : ∃ Qf, Qf = am_Q k 0 0 (fun v h' => v = some (.int (sp_sum (fun j => if sp_ahead Γ (ord.getD j 0) i = 0 then 0 else 1) ord.length)) ∧ h' = h) (fun _ _ => False) := ⟨_, rfl⟩
  rw [← hQ]
  have hx0 : wdm n p o 5 0 = true := rfl
  have hn8 : n ≤ 8 := w.1.1
  have hp24 : p ≤ 24 := w.1.2.1
  have ho8 : ord.length ≤ 8 := w.1.2.2.2.2
  refine g_iconst (v := 0) dX4_bidsAheadOf_0 (by decide) ?_
  refine g_istore_n dX4_bidsAheadOf_1 (by decide) rfl ?_
  refine g_iconst (v := 0) dX4_bidsAheadOf_2 (by decide) ?_
  refine g_istore_n dX4_bidsAheadOf_3 (by decide) rfl ?_
  have lp_4 : ∀ (f : Nat) (j : Nat) (x : Int32), j ≤ ord.length → ord.length - j < f → x = sp_sum (fun j => if sp_ahead Γ (ord.getD j 0) i = 0 then 0 else 1) j → am_G k RX4 yX4_bidsAheadOf.name cX4_bidsAheadOf 4 (some .int) 0 0 Qf 4 [(3, .int (nI j)), (2, .int x), (1, .ref (L 2 i)), (0, .ref (L 5 0))] [] h := by
    intro f
    induction f with
    | zero => intro j x hj hf ex; omega
    | succ f ih =>
      intro j x hj hf ex
      refine g_iload_n dX4_bidsAheadOf_4 rfl ?_
      refine g_aload_n dX4_bidsAheadOf_5 rfl ?_
      refine w_getR w dX4_bidsAheadOf_6 fl_X4_23 rfl rfl (by first | rfl | assumption) rfl ?_
      refine g_callV [] dX4_bidsAheadOf_9 mc_X4_57 mi_Jx4a65c_size_8abf5 se_Jx4a65c_size_8abf5 (c_size1 hlt w) (w.k (by first | rfl | assumption)) rfl rfl (Nat.le_of_ble_eq_true rfl) (am_rm hR (by decide)) (fun _ _ z => z) (fun v hx hq hE => ?_)
      obtain ⟨rfl, rfl⟩ := hq
      refine gN_ge 48 dX4_bidsAheadOf_12 (by decide) (by omega) (by omega) (fun c_12 => ?_) (fun c_12 => ?_)
      · skip
        refine g_iload_n dX4_bidsAheadOf_48 rfl ?_
        rw [hQ]
        refine g_iret dX4_bidsAheadOf_49 rfl rfl (by decide) (by decide) ?_
        have ej : j = ord.length := by omega
        exact ⟨by rw [ex, ej], rfl⟩
      · skip
        refine g_aload_n dX4_bidsAheadOf_15 rfl ?_
        refine w_getR w dX4_bidsAheadOf_16 fl_X4_23 rfl rfl (by first | rfl | assumption) rfl ?_
        refine g_iload_n dX4_bidsAheadOf_19 rfl ?_
        refine g_callV [_] dX4_bidsAheadOf_20 mc_X4_103 mi_Jx4a65c_get_915e3 se_Jx4a65c_get_915e3 (c_get1 hlt w (by first | assumption | omega)) (w.k (by first | rfl | assumption)) rfl rfl (Nat.le_of_ble_eq_true rfl) (am_rm hR (by decide)) (fun _ _ z => z) (fun v hx hq hE => ?_)
        obtain ⟨rfl, rfl⟩ := hq
        have hdj : wdm n p o 2 (ord.getD j 0) = true := decide_eq_true (w.1.2.2.2.1 _ (by rw [List.getD_eq_getElem?_getD, List.getElem?_eq_getElem (show j < ord.length by omega)]; exact List.getElem_mem _))
        refine g_castS (q := (RX1, TX1, 14)) dX4_bidsAheadOf_23 kl_X4_66 (w.k (by first | rfl | assumption)) rfl ?_
        refine w_getR w dX4_bidsAheadOf_26 fl_X4_112 rfl rfl (by first | rfl | assumption) rfl ?_
        refine g_aload_n dX4_bidsAheadOf_29 rfl ?_
        refine w_getR w dX4_bidsAheadOf_30 fl_X4_112 rfl rfl (by first | rfl | assumption) rfl ?_
        refine g_callV [_] dX4_bidsAheadOf_33 mc_X4_233 mi_X0_isAheadOf se_X0_isAheadOf (c_X0_isAheadOf hlt w (by assumption) (by assumption)) (w.k (by first | rfl | assumption)) rfl rfl (Nat.le_of_ble_eq_true rfl) (am_rm hR (by decide)) (fun _ _ z => z) (fun v hx hq hE => ?_)
        obtain ⟨rfl, rfl⟩ := hq
        refine g_if_eq 42 dX4_bidsAheadOf_36 (by decide) (fun c_36 => ?_) (fun c_36 => ?_)
        · skip
          refine g_iinc dX4_bidsAheadOf_42 rfl (nI_i1 _) (by decide) rfl ?_
          refine g_goto 4 dX4_bidsAheadOf_45 (by decide) ?_
          refine g_ls [(3, .int (nI (j + 1))), (2, .int _), (1, .ref (L 2 i)), (0, .ref (L 5 0))] ⟨rfl, rfl, rfl, rfl, trivial⟩ ?_
          exact ih (j + 1) _ (by omega) (by omega) (by first | (rw [ex]; simp only [sp_sum, reduceIte, c_12, c_36]; done) | (rw [ex]; simp only [sp_sum, reduceIte, c_12, c_36, Int32.add_zero]; done) | (rw [ex]; simp only [sp_sum, reduceIte, c_12, c_36]; rfl))
        · skip
          refine g_iinc dX4_bidsAheadOf_39 rfl rfl (by decide) rfl ?_
          refine g_iinc dX4_bidsAheadOf_42 rfl (nI_i1 _) (by decide) rfl ?_
          refine g_goto 4 dX4_bidsAheadOf_45 (by decide) ?_
          refine g_ls [(3, .int (nI (j + 1))), (2, .int _), (1, .ref (L 2 i)), (0, .ref (L 5 0))] ⟨rfl, rfl, rfl, rfl, trivial⟩ ?_
          exact ih (j + 1) _ (by omega) (by omega) (by first | (rw [ex]; simp only [sp_sum, reduceIte, c_12, c_36]; done) | (rw [ex]; simp only [sp_sum, reduceIte, c_12, c_36, Int32.add_zero]; done) | (rw [ex]; simp only [sp_sum, reduceIte, c_12, c_36]; rfl))
  refine g_ls [(3, .int (nI 0)), (2, .int 0), (1, .ref (L 2 i)), (0, .ref (L 5 0))] ⟨rfl, rfl, rfl, rfl, trivial⟩ ?_
  exact lp_4 (ord.length + 1) 0 0 (by omega) (by omega) rfl
set_option maxRecDepth 100000 in
set_option maxHeartbeats 4000000 in
theorem c_X4_hour {l : Launch} (hlt : l.stackTraces = false) {N n p : Nat} {ord : List Nat} {L : Nat → Nat → Nat} {Γ : Nat → Nat → Nat → Int32} {o : Nat} {h : am_H} (w : WI N n p ord L Γ o h)  : am_Con l yX4_hour (.code yX4_hour cX4_hour 1 (some .int)) 1 0 0 [.ref (L 5 0)] h (fun v h' => v = some (.int (Γ 5 0 3)) ∧ h' = h) (fun _ _ => False) := by
  refine am_body hlt (by decide +kernel) (Nat.le_of_ble_eq_true rfl) (fun k hl hR h0 hno => ?_)
  subst hl
  obtain ⟨Qf, hQ⟩ : ∃ Qf, Qf = am_Q k 0 0 (fun v h' => v = some (.int (Γ 5 0 3)) ∧ h' = h) (fun _ _ => False) := ⟨_, rfl⟩
  rw [← hQ]
  have hx0 : wdm n p o 5 0 = true := rfl
  have hn8 : n ≤ 8 := w.1.1
  have hp24 : p ≤ 24 := w.1.2.1
  have ho8 : ord.length ≤ 8 := w.1.2.2.2.2
  refine g_aload_n dX4_hour_0 rfl ?_
  refine w_getI w dX4_hour_1 fl_X4_26 rfl rfl (by first | rfl | assumption) ?_
  rw [hQ]
  refine g_iret dX4_hour_4 rfl rfl (by decide) (by decide) ?_
  exact ⟨rfl, rfl⟩
set_option maxRecDepth 100000 in
set_option maxHeartbeats 4000000 in
theorem c_X4_round {l : Launch} (hlt : l.stackTraces = false) {N n p : Nat} {ord : List Nat} {L : Nat → Nat → Nat} {Γ : Nat → Nat → Nat → Int32} {o : Nat} {h : am_H} (w : WI N n p ord L Γ o h)  : am_Con l yX4_round (.code yX4_round cX4_round 1 (some .int)) 1 0 0 [.ref (L 5 0)] h (fun v h' => v = some (.int (if Γ 5 0 5 = 0 then Γ 5 0 4 else -1)) ∧ h' = h) (fun _ _ => False) := by
  refine am_body hlt (by decide +kernel) (Nat.le_of_ble_eq_true rfl) (fun k hl hR h0 hno => ?_)
  subst hl
  obtain ⟨Qf, hQ⟩ : ∃ Qf, Qf = am_Q k 0 0 (fun v h' => v = some (.int (if Γ 5 0 5 = 0 then Γ 5 0 4 else -1)) ∧ h' = h) (fun _ _ => False) := ⟨_, rfl⟩
  rw [← hQ]
  have hx0 : wdm n p o 5 0 = true := rfl
  have hn8 : n ≤ 8 := w.1.1
  have hp24 : p ≤ 24 := w.1.2.1
  have ho8 : ord.length ≤ 8 := w.1.2.2.2.2
  refine g_aload_n dX4_round_0 rfl ?_
  refine w_getI w dX4_round_1 fl_X4_33 rfl rfl (by first | rfl | assumption) ?_
  refine g_if_eq 11 dX4_round_4 (by decide) (fun c_4 => ?_) (fun c_4 => ?_)
  · skip
    refine g_aload_n dX4_round_11 rfl ?_
    refine w_getI w dX4_round_12 fl_X4_30 rfl rfl (by first | rfl | assumption) ?_
    rw [hQ]
    refine g_iret dX4_round_15 rfl rfl (by decide) (by decide) ?_
    exact ⟨by simp only [reduceIte, c_4], rfl⟩
  · skip
    refine g_iconst (v := (-1)) dX4_round_7 (by decide) ?_
    refine g_goto 15 dX4_round_8 (by decide) ?_
    rw [hQ]
    refine g_iret dX4_round_15 rfl rfl (by decide) (by decide) ?_
    exact ⟨by simp only [reduceIte, c_4], rfl⟩
