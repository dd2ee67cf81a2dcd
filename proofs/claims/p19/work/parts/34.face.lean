set_option maxRecDepth 100000 in
set_option maxHeartbeats 4000000 in
theorem c_X4_need_1 {l : Launch} (hlt : l.stackTraces = false) {N n p : Nat} {ord : List Nat} {L : Nat → Nat → Nat} {Γ : Nat → Nat → Nat → Int32} {o : Nat} {h : am_H} (w : WI N n p ord L Γ o h) {a b : Int32} (hb : a < 0 ∨ nI n ≤ a) : am_Con l yX4_need (.code yX4_need cX4_need 5 (some .int)) 20 1 6 [.ref (L 5 0), .int a, .int b] h (fun v h' => False) (fun E h' => E = "java/lang/IndexOutOfBoundsException" ∧ h' = h) := by
  refine am_body hlt (by decide +kernel) (Nat.le_of_ble_eq_true rfl) (fun k hl hR h0 hno => ?_)
  subst hl
  obtain ⟨Qf, hQ⟩ : ∃ Qf, Qf = am_Q k 1 6 (fun v h' => False) (fun E h' => E = "java/lang/IndexOutOfBoundsException" ∧ h' = h) := ⟨_, rfl⟩
  rw [← hQ]
  have hx0 : wdm n p o 5 0 = true := rfl
  have hn0 : wdm n p o 3 0 = true := rfl
  have hn8 : n ≤ 8 := w.1.1
  have hp24 : p ≤ 24 := w.1.2.1
  have ho8 : ord.length ≤ 8 := w.1.2.2.2.2
  refine g_aload_n dX4_need_0 rfl ?_
  refine g_iload_n dX4_need_1 rfl ?_
  refine g_callV [_] dX4_need_2 mc_X4_75 mi_X4_isNoDistrict se_X4_isNoDistrict (c_isNoDistrict_1 hlt w (by assumption)) (w.k (by first | rfl | assumption)) rfl rfl (Nat.le_of_ble_eq_true rfl) (am_rm hR (by decide)) (fun _ _ z => z) (fun v hx hq hE => ?_)
  obtain ⟨rfl, rfl⟩ := hq
  refine g_if_eq 18 dX4_need_5 (by decide) (fun z => absurd z (by decide)) (fun _ => ?_)
  rw [hQ]
  refine g_throw (text := "no such district") dX4_need_8 dX4_need_11 dX4_need_12 dX4_need_14 dX4_need_17 tw_79 (by simp [am_strs]) hno (by rw [hR]; decide) (by rw [hR]; exact Nat.le_of_ble_eq_true rfl) (by rw [hR]; decide) (by rw [hR]; decide) (by decide) (by decide) ?_
  exact ⟨rfl, rfl⟩
set_option maxRecDepth 100000 in
set_option maxHeartbeats 4000000 in
theorem c_X4_need_2 {l : Launch} (hlt : l.stackTraces = false) {N n p : Nat} {ord : List Nat} {L : Nat → Nat → Nat} {Γ : Nat → Nat → Nat → Int32} {o : Nat} {h : am_H} (w : WI N n p ord L Γ o h) {i : Nat} (hi : i < n) {b : Int32} (bb : b < 0 ∨ ¬ b ≤ 999) : am_Con l yX4_need (.code yX4_need cX4_need 5 (some .int)) 20 1 6 [.ref (L 5 0), .int (nI i), .int b] h (fun v h' => False) (fun E h' => E = "java/lang/IllegalArgumentException" ∧ h' = h) := by
  refine am_body hlt (by decide +kernel) (Nat.le_of_ble_eq_true rfl) (fun k hl hR h0 hno => ?_)
  subst hl
  obtain ⟨Qf, hQ⟩ : ∃ Qf, Qf = am_Q k 1 6 (fun v h' => False) (fun E h' => E = "java/lang/IllegalArgumentException" ∧ h' = h) := ⟨_, rfl⟩
  rw [← hQ]
  have hx0 : wdm n p o 5 0 = true := rfl
  have hn0 : wdm n p o 3 0 = true := rfl
  have hn8 : n ≤ 8 := w.1.1
  have hp24 : p ≤ 24 := w.1.2.1
  have ho8 : ord.length ≤ 8 := w.1.2.2.2.2
  refine g_aload_n dX4_need_0 rfl ?_
  refine g_iload_n dX4_need_1 rfl ?_
  refine g_callV [_] dX4_need_2 mc_X4_75 mi_X4_isNoDistrict se_X4_isNoDistrict (c_isNoDistrict_0 hlt w (by assumption)) (w.k (by first | rfl | assumption)) rfl rfl (Nat.le_of_ble_eq_true rfl) (am_rm hR (by decide)) (fun _ _ z => z) (fun v hx hq hE => ?_)
  obtain ⟨rfl, rfl⟩ := hq
  refine g_if_eq 18 dX4_need_5 (by decide) (fun _ => ?_) (fun z => absurd z (by decide))
  refine g_iload_n dX4_need_18 rfl ?_
  refine g_iconst (v := 0) dX4_need_19 (by decide) ?_
  refine g_sipush (v := 999) dX4_need_20 (by decide) ?_
  refine g_callS [_, _, _] dX4_need_23 mc_X4_46 ms_X4_isOutside (c_isOutside_1 hlt bb) rfl (Nat.le_of_ble_eq_true rfl) (am_rm hR (by decide)) (fun _ _ z => z) (fun v hx hq hE => ?_)
  obtain ⟨rfl, rfl⟩ := hq
  refine g_if_eq 39 dX4_need_26 (by decide) (fun z => absurd z (by decide)) (fun _ => ?_)
  rw [hQ]
  refine g_throw (text := "need is out of range") dX4_need_29 dX4_need_32 dX4_need_33 dX4_need_35 dX4_need_38 tw_50 (by simp [am_strs]) hno (by rw [hR]; decide) (by rw [hR]; exact Nat.le_of_ble_eq_true rfl) (by rw [hR]; decide) (by rw [hR]; decide) (by decide) (by decide) ?_
  exact ⟨rfl, rfl⟩
set_option maxRecDepth 100000 in
set_option maxHeartbeats 4000000 in
theorem c_X4_need_0 {l : Launch} (hlt : l.stackTraces = false) {N n p : Nat} {ord : List Nat} {L : Nat → Nat → Nat} {Γ : Nat → Nat → Nat → Int32} {o : Nat} {h : am_H} (w : WI N n p ord L Γ o h) {i : Nat} (hi : i < n) {b : Int32} (b1 : ¬ b < 0) (b2 : b ≤ 999) : am_Con l yX4_need (.code yX4_need cX4_need 5 (some .int)) 20 0 0 [.ref (L 5 0), .int (nI i), .int b] h (fun v h' => v = some (.int (Γ 2 i 2)) ∧ WI N n p ord L (u3 Γ 2 i 2 b) o h') (fun _ _ => False) := by
  refine am_body hlt (by decide +kernel) (Nat.le_of_ble_eq_true rfl) (fun k hl hR h0 hno => ?_)
  subst hl
  obtain ⟨Qf, hQ⟩ : ∃ Qf, Qf = am_Q k 0 0 (fun v h' => v = some (.int (Γ 2 i 2)) ∧ WI N n p ord L (u3 Γ 2 i 2 b) o h') (fun _ _ => False) := ⟨_, rfl⟩
  rw [← hQ]
  have hx0 : wdm n p o 5 0 = true := rfl
  have hn0 : wdm n p o 3 0 = true := rfl
  have hn8 : n ≤ 8 := w.1.1
  have hp24 : p ≤ 24 := w.1.2.1
  have ho8 : ord.length ≤ 8 := w.1.2.2.2.2
  have hdi : wdm n p o 2 i = true := decide_eq_true hi
  have hdi1 : wdm n p o 1 i = true := decide_eq_true hi
  have hdi0 : wdm n p o 0 i = true := decide_eq_true hi
  refine g_aload_n dX4_need_0 rfl ?_
  refine g_iload_n dX4_need_1 rfl ?_
  refine g_callV [_] dX4_need_2 mc_X4_75 mi_X4_isNoDistrict se_X4_isNoDistrict (c_isNoDistrict_0 hlt w (by assumption)) (w.k (by first | rfl | assumption)) rfl rfl (Nat.le_of_ble_eq_true rfl) (am_rm hR (by decide)) (fun _ _ z => z) (fun v hx hq hE => ?_)
  obtain ⟨rfl, rfl⟩ := hq
  refine g_if_eq 18 dX4_need_5 (by decide) (fun _ => ?_) (fun z => absurd z (by decide))
  refine g_iload_n dX4_need_18 rfl ?_
  refine g_iconst (v := 0) dX4_need_19 (by decide) ?_
  refine g_sipush (v := 999) dX4_need_20 (by decide) ?_
  refine g_callS [_, _, _] dX4_need_23 mc_X4_46 ms_X4_isOutside (c_isOutside_0 hlt b1 b2) rfl (Nat.le_of_ble_eq_true rfl) (am_rm hR (by decide)) (fun _ _ z => z) (fun v hx hq hE => ?_)
  obtain ⟨rfl, rfl⟩ := hq
  refine g_if_eq 39 dX4_need_26 (by decide) (fun _ => ?_) (fun z => absurd z (by decide))
  refine g_aload_n dX4_need_39 rfl ?_
  refine w_getR w dX4_need_40 fl_X4_12 rfl rfl (by first | rfl | assumption) rfl ?_
  refine g_iload_n dX4_need_43 rfl ?_
  refine g_callV [_] dX4_need_44 mc_X4_103 mi_Jx4a65c_get_915e3 se_Jx4a65c_get_915e3 (c_get0 hlt w (by first | assumption | omega)) (w.k (by first | rfl | assumption)) rfl rfl (Nat.le_of_ble_eq_true rfl) (am_rm hR (by decide)) (fun _ _ z => z) (fun v hx hq hE => ?_)
  obtain ⟨rfl, rfl⟩ := hq
  refine g_castS (q := (RX1, TX1, 14)) dX4_need_47 kl_X4_66 (w.k (by first | rfl | assumption)) rfl ?_
  refine g_astore_n dX4_need_50 (by decide) rfl ?_
  refine g_aload_n dX4_need_51 rfl ?_
  refine w_getI w dX4_need_52 fl_X4_107 rfl rfl (by first | rfl | assumption) ?_
  refine g_istore dX4_need_55 (by decide) rfl ?_
  refine g_aload_n dX4_need_57 rfl ?_
  refine g_iload_n dX4_need_58 rfl ?_
  refine w_putI w dX4_need_59 fl_X4_107 rfl rfl (by decide) (fun q hq => by cases hq; rfl) (by first | rfl | assumption) rfl rfl (fun h1 w1 => ?_)
  refine g_iload dX4_need_62 rfl ?_
  rw [hQ]
  refine g_iret dX4_need_64 rfl rfl (by decide) (by decide) ?_
  exact ⟨rfl, w1⟩
set_option maxRecDepth 100000 in
set_option maxHeartbeats 4000000 in
theorem c_X4_source_1 {l : Launch} (hlt : l.stackTraces = false) {N n p : Nat} {ord : List Nat} {L : Nat → Nat → Nat} {Γ : Nat → Nat → Nat → Int32} {o : Nat} {h : am_H} (w : WI N n p ord L Γ o h) {a : Int32} (ab : a < 0 ∨ ¬ a ≤ 9999) : am_Con l yX4_source (.code yX4_source cX4_source 3 (some .int)) 20 1 6 [.ref (L 5 0), .int a] h (fun v h' => False) (fun E h' => E = "java/lang/IllegalArgumentException" ∧ h' = h) := by
  refine am_body hlt (by decide +kernel) (Nat.le_of_ble_eq_true rfl) (fun k hl hR h0 hno => ?_)
  subst hl
  obtain ⟨Qf, hQ⟩ : ∃ Qf, Qf = am_Q k 1 6 (fun v h' => False) (fun E h' => E = "java/lang/IllegalArgumentException" ∧ h' = h) := ⟨_, rfl⟩
  rw [← hQ]
  have hx0 : wdm n p o 5 0 = true := rfl
  have hn0 : wdm n p o 3 0 = true := rfl
  have hn8 : n ≤ 8 := w.1.1
  have hp24 : p ≤ 24 := w.1.2.1
  have ho8 : ord.length ≤ 8 := w.1.2.2.2.2
  refine g_iload_n dX4_source_0 rfl ?_
  refine g_iconst (v := 0) dX4_source_1 (by decide) ?_
  refine g_sipush (v := 9999) dX4_source_2 (by decide) ?_
  refine g_callS [_, _, _] dX4_source_5 mc_X4_46 ms_X4_isOutside (c_isOutside_1 hlt ab) rfl (Nat.le_of_ble_eq_true rfl) (am_rm hR (by decide)) (fun _ _ z => z) (fun v hx hq hE => ?_)
  obtain ⟨rfl, rfl⟩ := hq
  refine g_if_eq 21 dX4_source_8 (by decide) (fun z => absurd z (by decide)) (fun _ => ?_)
  rw [hQ]
  refine g_throw (text := "units is out of range") dX4_source_11 dX4_source_14 dX4_source_15 dX4_source_17 dX4_source_20 tw_50 (by simp [am_strs]) hno (by rw [hR]; decide) (by rw [hR]; exact Nat.le_of_ble_eq_true rfl) (by rw [hR]; decide) (by rw [hR]; decide) (by decide) (by decide) ?_
  exact ⟨rfl, rfl⟩
set_option maxRecDepth 100000 in
set_option maxHeartbeats 4000000 in
theorem c_X4_source_2 {l : Launch} (hlt : l.stackTraces = false) {N n p : Nat} {ord : List Nat} {L : Nat → Nat → Nat} {Γ : Nat → Nat → Nat → Int32} {o : Nat} {h : am_H} (w : WI N n p ord L Γ o h) {a : Int32} (a1 : ¬ a < 0) (a2 : a ≤ 9999) (hf : ¬ Γ 5 0 5 = 0) : am_Con l yX4_source (.code yX4_source cX4_source 3 (some .int)) 20 1 6 [.ref (L 5 0), .int a] h (fun v h' => False) (fun E h' => E = "java/lang/IllegalStateException" ∧ h' = h) := by
  refine am_body hlt (by decide +kernel) (Nat.le_of_ble_eq_true rfl) (fun k hl hR h0 hno => ?_)
  subst hl
  obtain ⟨Qf, hQ⟩ : ∃ Qf, Qf = am_Q k 1 6 (fun v h' => False) (fun E h' => E = "java/lang/IllegalStateException" ∧ h' = h) := ⟨_, rfl⟩
  rw [← hQ]
  have hx0 : wdm n p o 5 0 = true := rfl
  have hn0 : wdm n p o 3 0 = true := rfl
  have hn8 : n ≤ 8 := w.1.1
  have hp24 : p ≤ 24 := w.1.2.1
  have ho8 : ord.length ≤ 8 := w.1.2.2.2.2
  refine g_iload_n dX4_source_0 rfl ?_
  refine g_iconst (v := 0) dX4_source_1 (by decide) ?_
  refine g_sipush (v := 9999) dX4_source_2 (by decide) ?_
  refine g_callS [_, _, _] dX4_source_5 mc_X4_46 ms_X4_isOutside (c_isOutside_0 hlt a1 a2) rfl (Nat.le_of_ble_eq_true rfl) (am_rm hR (by decide)) (fun _ _ z => z) (fun v hx hq hE => ?_)
  obtain ⟨rfl, rfl⟩ := hq
  refine g_if_eq 21 dX4_source_8 (by decide) (fun _ => ?_) (fun z => absurd z (by decide))
  refine g_aload_n dX4_source_21 rfl ?_
  refine w_getI w dX4_source_22 fl_X4_33 rfl rfl (by first | rfl | assumption) ?_
  refine g_if_eq 38 dX4_source_25 (by decide) (fun z => absurd z hf) (fun c_25 => ?_)
  rw [hQ]
  refine g_throw (text := "all is FLOWING") dX4_source_28 dX4_source_31 dX4_source_32 dX4_source_34 dX4_source_37 tw_61 (by simp [am_strs]) hno (by rw [hR]; decide) (by rw [hR]; exact Nat.le_of_ble_eq_true rfl) (by rw [hR]; decide) (by rw [hR]; decide) (by decide) (by decide) ?_
  exact ⟨rfl, rfl⟩
set_option maxRecDepth 100000 in
set_option maxHeartbeats 4000000 in
theorem c_X4_source_0 {l : Launch} (hlt : l.stackTraces = false) {N n p : Nat} {ord : List Nat} {L : Nat → Nat → Nat} {Γ : Nat → Nat → Nat → Int32} {o : Nat} {h : am_H} (w : WI N n p ord L Γ o h) {a : Int32} (a1 : ¬ a < 0) (a2 : a ≤ 9999) (hf : Γ 5 0 5 = 0) : am_Con l yX4_source (.code yX4_source cX4_source 3 (some .int)) 20 0 0 [.ref (L 5 0), .int a] h (fun v h' => v = some (.int (Γ 3 0 1)) ∧ WI N n p ord L (u3 Γ 3 0 1 a) o h') (fun _ _ => False) := by
  refine am_body hlt (by decide +kernel) (Nat.le_of_ble_eq_true rfl) (fun k hl hR h0 hno => ?_)
  subst hl
  obtain ⟨Qf, hQ⟩ : ∃ Qf, Qf = am_Q k 0 0 (fun v h' => v = some (.int (Γ 3 0 1)) ∧ WI N n p ord L (u3 Γ 3 0 1 a) o h') (fun _ _ => False) := ⟨_, rfl⟩
  rw [← hQ]
  have hx0 : wdm n p o 5 0 = true := rfl
  have hn0 : wdm n p o 3 0 = true := rfl
  have hn8 : n ≤ 8 := w.1.1
  have hp24 : p ≤ 24 := w.1.2.1
  have ho8 : ord.length ≤ 8 := w.1.2.2.2.2
  refine g_iload_n dX4_source_0 rfl ?_
  refine g_iconst (v := 0) dX4_source_1 (by decide) ?_
  refine g_sipush (v := 9999) dX4_source_2 (by decide) ?_
  refine g_callS [_, _, _] dX4_source_5 mc_X4_46 ms_X4_isOutside (c_isOutside_0 hlt a1 a2) rfl (Nat.le_of_ble_eq_true rfl) (am_rm hR (by decide)) (fun _ _ z => z) (fun v hx hq hE => ?_)
  obtain ⟨rfl, rfl⟩ := hq
  refine g_if_eq 21 dX4_source_8 (by decide) (fun _ => ?_) (fun z => absurd z (by decide))
  refine g_aload_n dX4_source_21 rfl ?_
  refine w_getI w dX4_source_22 fl_X4_33 rfl rfl (by first | rfl | assumption) ?_
  refine g_if_eq 38 dX4_source_25 (by decide) (fun c_25 => ?_) (fun z => absurd hf z)
  refine g_aload_n dX4_source_38 rfl ?_
  refine w_getR w dX4_source_39 fl_X4_19 rfl rfl (by first | rfl | assumption) rfl ?_
  refine w_getI w dX4_source_42 fl_X4_98 rfl rfl (by first | rfl | assumption) ?_
  refine g_istore_n dX4_source_45 (by decide) rfl ?_
  refine g_aload_n dX4_source_46 rfl ?_
  refine w_getR w dX4_source_47 fl_X4_19 rfl rfl (by first | rfl | assumption) rfl ?_
  refine g_iload_n dX4_source_50 rfl ?_
  refine w_putI w dX4_source_51 fl_X4_98 rfl rfl (by decide) (fun q hq => by cases hq; rfl) (by first | rfl | assumption) rfl rfl (fun h1 w1 => ?_)
  refine g_iload_n dX4_source_54 rfl ?_
  rw [hQ]
  refine g_iret dX4_source_55 rfl rfl (by decide) (by decide) ?_
  exact ⟨rfl, w1⟩
set_option maxRecDepth 100000 in
set_option maxHeartbeats 4000000 in
theorem c_X4_bid_1 {l : Launch} (hlt : l.stackTraces = false) {N n p : Nat} {ord : List Nat} {L : Nat → Nat → Nat} {Γ : Nat → Nat → Nat → Int32} {o : Nat} {h : am_H} (w : WI N n p ord L Γ o h) {c a b : Int32} (hb : c < 0 ∨ nI n ≤ c) : am_Con l yX4_bid (.code yX4_bid cX4_bid 5 (some .int)) 20 1 6 [.ref (L 5 0), .int c, .int a, .int b] h (fun v h' => False) (fun E h' => E = "java/lang/IndexOutOfBoundsException" ∧ h' = h) := by
  refine am_body hlt (by decide +kernel) (Nat.le_of_ble_eq_true rfl) (fun k hl hR h0 hno => ?_)
  subst hl
  obtain ⟨Qf, hQ⟩ : ∃ Qf, Qf = am_Q k 1 6 (fun v h' => False) (fun E h' => E = "java/lang/IndexOutOfBoundsException" ∧ h' = h) := ⟨_, rfl⟩
  rw [← hQ]
  have hx0 : wdm n p o 5 0 = true := rfl
  have hn0 : wdm n p o 3 0 = true := rfl
  have hn8 : n ≤ 8 := w.1.1
  have hp24 : p ≤ 24 := w.1.2.1
  have ho8 : ord.length ≤ 8 := w.1.2.2.2.2
  refine g_aload_n dX4_bid_0 rfl ?_
  refine g_iload_n dX4_bid_1 rfl ?_
  refine g_callV [_] dX4_bid_2 mc_X4_75 mi_X4_isNoDistrict se_X4_isNoDistrict (c_isNoDistrict_1 hlt w (by assumption)) (w.k (by first | rfl | assumption)) rfl rfl (Nat.le_of_ble_eq_true rfl) (am_rm hR (by decide)) (fun _ _ z => z) (fun v hx hq hE => ?_)
  obtain ⟨rfl, rfl⟩ := hq
  refine g_if_eq 18 dX4_bid_5 (by decide) (fun z => absurd z (by decide)) (fun _ => ?_)
  rw [hQ]
  refine g_throw (text := "no such district") dX4_bid_8 dX4_bid_11 dX4_bid_12 dX4_bid_14 dX4_bid_17 tw_79 (by simp [am_strs]) hno (by rw [hR]; decide) (by rw [hR]; exact Nat.le_of_ble_eq_true rfl) (by rw [hR]; decide) (by rw [hR]; decide) (by decide) (by decide) ?_
  exact ⟨rfl, rfl⟩
set_option maxRecDepth 100000 in
set_option maxHeartbeats 4000000 in
theorem c_X4_bid_2a {l : Launch} (hlt : l.stackTraces = false) {N n p : Nat} {ord : List Nat} {L : Nat → Nat → Nat} {Γ : Nat → Nat → Nat → Int32} {o : Nat} {h : am_H} (w : WI N n p ord L Γ o h) {i : Nat} (hi : i < n) {a b : Int32} (ab : a < 0 ∨ ¬ a ≤ 99) : am_Con l yX4_bid (.code yX4_bid cX4_bid 5 (some .int)) 20 1 6 [.ref (L 5 0), .int (nI i), .int a, .int b] h (fun v h' => False) (fun E h' => E = "java/lang/IllegalArgumentException" ∧ h' = h) := by
  refine am_body hlt (by decide +kernel) (Nat.le_of_ble_eq_true rfl) (fun k hl hR h0 hno => ?_)
  subst hl
  obtain ⟨Qf, hQ⟩ : ∃ Qf, Qf = am_Q k 1 6 (fun v h' => False) (fun E h' => E = "java/lang/IllegalArgumentException" ∧ h' = h) := ⟨_, rfl⟩
  rw [← hQ]
  have hx0 : wdm n p o 5 0 = true := rfl
  have hn0 : wdm n p o 3 0 = true := rfl
  have hn8 : n ≤ 8 := w.1.1
  have hp24 : p ≤ 24 := w.1.2.1
  have ho8 : ord.length ≤ 8 := w.1.2.2.2.2
  refine g_aload_n dX4_bid_0 rfl ?_
  refine g_iload_n dX4_bid_1 rfl ?_
  refine g_callV [_] dX4_bid_2 mc_X4_75 mi_X4_isNoDistrict se_X4_isNoDistrict (c_isNoDistrict_0 hlt w (by assumption)) (w.k (by first | rfl | assumption)) rfl rfl (Nat.le_of_ble_eq_true rfl) (am_rm hR (by decide)) (fun _ _ z => z) (fun v hx hq hE => ?_)
  obtain ⟨rfl, rfl⟩ := hq
  refine g_if_eq 18 dX4_bid_5 (by decide) (fun _ => ?_) (fun z => absurd z (by decide))
  refine g_iload_n dX4_bid_18 rfl ?_
  refine g_iconst (v := 0) dX4_bid_19 (by decide) ?_
  refine g_bipush (v := 99) dX4_bid_20 (by decide) ?_
  refine g_callS [_, _, _] dX4_bid_22 mc_X4_46 ms_X4_isOutside (c_isOutside_1 hlt ab) rfl (Nat.le_of_ble_eq_true rfl) (am_rm hR (by decide)) (fun _ _ z => z) (fun v hx hq hE => ?_)
  obtain ⟨rfl, rfl⟩ := hq
  refine g_if_ne 39 dX4_bid_25 (by decide) (fun _ => ?_) (fun z => absurd z (by decide))
  rw [hQ]
  refine g_throw (text := "price or units is out of range") dX4_bid_39 dX4_bid_42 dX4_bid_43 dX4_bid_45 dX4_bid_48 tw_50 (by simp [am_strs]) hno (by rw [hR]; decide) (by rw [hR]; exact Nat.le_of_ble_eq_true rfl) (by rw [hR]; decide) (by rw [hR]; decide) (by decide) (by decide) ?_
  exact ⟨rfl, rfl⟩
set_option maxRecDepth 100000 in
set_option maxHeartbeats 4000000 in
theorem c_X4_bid_2b {l : Launch} (hlt : l.stackTraces = false) {N n p : Nat} {ord : List Nat} {L : Nat → Nat → Nat} {Γ : Nat → Nat → Nat → Int32} {o : Nat} {h : am_H} (w : WI N n p ord L Γ o h) {i : Nat} (hi : i < n) {a b : Int32} (a1 : ¬ a < 0) (a2 : a ≤ 99) (bb : b < 0 ∨ ¬ b ≤ 999) : am_Con l yX4_bid (.code yX4_bid cX4_bid 5 (some .int)) 20 1 6 [.ref (L 5 0), .int (nI i), .int a, .int b] h (fun v h' => False) (fun E h' => E = "java/lang/IllegalArgumentException" ∧ h' = h) := by
  refine am_body hlt (by decide +kernel) (Nat.le_of_ble_eq_true rfl) (fun k hl hR h0 hno => ?_)
  subst hl
  obtain ⟨Qf, hQ⟩ : ∃ Qf, Qf = am_Q k 1 6 (fun v h' => False) (fun E h' => E = "java/lang/IllegalArgumentException" ∧ h' = h) := ⟨_, rfl⟩
  rw [← hQ]
  have hx0 : wdm n p o 5 0 = true := rfl
  have hn0 : wdm n p o 3 0 = true := rfl
  have hn8 : n ≤ 8 := w.1.1
  have hp24 : p ≤ 24 := w.1.2.1
  have ho8 : ord.length ≤ 8 := w.1.2.2.2.2
  refine g_aload_n dX4_bid_0 rfl ?_
  refine g_iload_n dX4_bid_1 rfl ?_
  refine g_callV [_] dX4_bid_2 mc_X4_75 mi_X4_isNoDistrict se_X4_isNoDistrict (c_isNoDistrict_0 hlt w (by assumption)) (w.k (by first | rfl | assumption)) rfl rfl (Nat.le_of_ble_eq_true rfl) (am_rm hR (by decide)) (fun _ _ z => z) (fun v hx hq hE => ?_)
  obtain ⟨rfl, rfl⟩ := hq
  refine g_if_eq 18 dX4_bid_5 (by decide) (fun _ => ?_) (fun z => absurd z (by decide))
  refine g_iload_n dX4_bid_18 rfl ?_
  refine g_iconst (v := 0) dX4_bid_19 (by decide) ?_
  refine g_bipush (v := 99) dX4_bid_20 (by decide) ?_
  refine g_callS [_, _, _] dX4_bid_22 mc_X4_46 ms_X4_isOutside (c_isOutside_0 hlt a1 a2) rfl (Nat.le_of_ble_eq_true rfl) (am_rm hR (by decide)) (fun _ _ z => z) (fun v hx hq hE => ?_)
  obtain ⟨rfl, rfl⟩ := hq
  refine g_if_ne 39 dX4_bid_25 (by decide) (fun z => absurd z (by decide)) (fun _ => ?_)
  refine g_iload_n dX4_bid_28 rfl ?_
  refine g_iconst (v := 0) dX4_bid_29 (by decide) ?_
  refine g_sipush (v := 999) dX4_bid_30 (by decide) ?_
  refine g_callS [_, _, _] dX4_bid_33 mc_X4_46 ms_X4_isOutside (c_isOutside_1 hlt bb) rfl (Nat.le_of_ble_eq_true rfl) (am_rm hR (by decide)) (fun _ _ z => z) (fun v hx hq hE => ?_)
  obtain ⟨rfl, rfl⟩ := hq
  refine g_if_eq 49 dX4_bid_36 (by decide) (fun z => absurd z (by decide)) (fun _ => ?_)
  rw [hQ]
  refine g_throw (text := "price or units is out of range") dX4_bid_39 dX4_bid_42 dX4_bid_43 dX4_bid_45 dX4_bid_48 tw_50 (by simp [am_strs]) hno (by rw [hR]; decide) (by rw [hR]; exact Nat.le_of_ble_eq_true rfl) (by rw [hR]; decide) (by rw [hR]; decide) (by decide) (by decide) ?_
  exact ⟨rfl, rfl⟩
set_option maxRecDepth 100000 in
set_option maxHeartbeats 4000000 in
theorem c_X4_bid_3a {l : Launch} (hlt : l.stackTraces = false) {N n p : Nat} {ord : List Nat} {L : Nat → Nat → Nat} {Γ : Nat → Nat → Nat → Int32} {o : Nat} {h : am_H} (w : WI N n p ord L Γ o h) {i : Nat} (hi : i < n) {a b : Int32} (a1 : ¬ a < 0) (a2 : a ≤ 99) (b1 : ¬ b < 0) (b2 : b ≤ 999) (hf : ¬ Γ 5 0 5 = 0) : am_Con l yX4_bid (.code yX4_bid cX4_bid 5 (some .int)) 20 1 6 [.ref (L 5 0), .int (nI i), .int a, .int b] h (fun v h' => False) (fun E h' => E = "java/lang/IllegalStateException" ∧ h' = h) := by
  refine am_body hlt (by decide +kernel) (Nat.le_of_ble_eq_true rfl) (fun k hl hR h0 hno => ?_)
  subst hl
  obtain ⟨Qf, hQ⟩ : ∃ Qf, Qf = am_Q k 1 6 (fun v h' => False) (fun E h' => E = "java/lang/IllegalStateException" ∧ h' = h) := ⟨_, rfl⟩
  rw [← hQ]
  have hx0 : wdm n p o 5 0 = true := rfl
  have hn0 : wdm n p o 3 0 = true := rfl
  have hn8 : n ≤ 8 := w.1.1
  have hp24 : p ≤ 24 := w.1.2.1
  have ho8 : ord.length ≤ 8 := w.1.2.2.2.2
  have hdi : wdm n p o 2 i = true := decide_eq_true hi
  have hdi1 : wdm n p o 1 i = true := decide_eq_true hi
  have hdi0 : wdm n p o 0 i = true := decide_eq_true hi
  refine g_aload_n dX4_bid_0 rfl ?_
  refine g_iload_n dX4_bid_1 rfl ?_
  refine g_callV [_] dX4_bid_2 mc_X4_75 mi_X4_isNoDistrict se_X4_isNoDistrict (c_isNoDistrict_0 hlt w (by assumption)) (w.k (by first | rfl | assumption)) rfl rfl (Nat.le_of_ble_eq_true rfl) (am_rm hR (by decide)) (fun _ _ z => z) (fun v hx hq hE => ?_)
  obtain ⟨rfl, rfl⟩ := hq
  refine g_if_eq 18 dX4_bid_5 (by decide) (fun _ => ?_) (fun z => absurd z (by decide))
  refine g_iload_n dX4_bid_18 rfl ?_
  refine g_iconst (v := 0) dX4_bid_19 (by decide) ?_
  refine g_bipush (v := 99) dX4_bid_20 (by decide) ?_
  refine g_callS [_, _, _] dX4_bid_22 mc_X4_46 ms_X4_isOutside (c_isOutside_0 hlt a1 a2) rfl (Nat.le_of_ble_eq_true rfl) (am_rm hR (by decide)) (fun _ _ z => z) (fun v hx hq hE => ?_)
  obtain ⟨rfl, rfl⟩ := hq
  refine g_if_ne 39 dX4_bid_25 (by decide) (fun z => absurd z (by decide)) (fun _ => ?_)
  refine g_iload_n dX4_bid_28 rfl ?_
  refine g_iconst (v := 0) dX4_bid_29 (by decide) ?_
  refine g_sipush (v := 999) dX4_bid_30 (by decide) ?_
  refine g_callS [_, _, _] dX4_bid_33 mc_X4_46 ms_X4_isOutside (c_isOutside_0 hlt b1 b2) rfl (Nat.le_of_ble_eq_true rfl) (am_rm hR (by decide)) (fun _ _ z => z) (fun v hx hq hE => ?_)
  obtain ⟨rfl, rfl⟩ := hq
  refine g_if_eq 49 dX4_bid_36 (by decide) (fun _ => ?_) (fun z => absurd z (by decide))
  refine g_aload_n dX4_bid_49 rfl ?_
  refine w_getR w dX4_bid_50 fl_X4_12 rfl rfl (by first | rfl | assumption) rfl ?_
  refine g_iload_n dX4_bid_53 rfl ?_
  refine g_callV [_] dX4_bid_54 mc_X4_103 mi_Jx4a65c_get_915e3 se_Jx4a65c_get_915e3 (c_get0 hlt w (by first | assumption | omega)) (w.k (by first | rfl | assumption)) rfl rfl (Nat.le_of_ble_eq_true rfl) (am_rm hR (by decide)) (fun _ _ z => z) (fun v hx hq hE => ?_)
  obtain ⟨rfl, rfl⟩ := hq
  refine g_castS (q := (RX1, TX1, 14)) dX4_bid_57 kl_X4_66 (w.k (by first | rfl | assumption)) rfl ?_
  refine g_astore dX4_bid_60 (by decide) rfl ?_
  refine g_aload_n dX4_bid_62 rfl ?_
  refine w_getI w dX4_bid_63 fl_X4_33 rfl rfl (by first | rfl | assumption) ?_
  refine g_if_ne 92 dX4_bid_66 (by decide) (fun c_66 => ?_) (fun z => absurd z hf)
  rw [hQ]
  refine g_throw (text := "no BIDDING, or the price is below that of the bid that stands") dX4_bid_92 dX4_bid_95 dX4_bid_96 dX4_bid_98 dX4_bid_101 tw_61 (by simp [am_strs]) hno (by rw [hR]; decide) (by rw [hR]; exact Nat.le_of_ble_eq_true rfl) (by rw [hR]; decide) (by rw [hR]; decide) (by decide) (by decide) ?_
  exact ⟨rfl, rfl⟩
set_option maxRecDepth 100000 in
set_option maxHeartbeats 4000000 in
theorem c_X4_bid_3b {l : Launch} (hlt : l.stackTraces = false) {N n p : Nat} {ord : List Nat} {L : Nat → Nat → Nat} {Γ : Nat → Nat → Nat → Int32} {o : Nat} {h : am_H} (w : WI N n p ord L Γ o h) {i : Nat} (hi : i < n) {a b : Int32} (a1 : ¬ a < 0) (a2 : a ≤ 99) (b1 : ¬ b < 0) (b2 : b ≤ 999) (hf : Γ 5 0 5 = 0) (hs : ¬ Γ 0 i 0 = 0) (hl : ¬ Γ 0 i 1 ≤ a) : am_Con l yX4_bid (.code yX4_bid cX4_bid 5 (some .int)) 20 1 6 [.ref (L 5 0), .int (nI i), .int a, .int b] h (fun v h' => False) (fun E h' => E = "java/lang/IllegalStateException" ∧ h' = h) := by
  refine am_body hlt (by decide +kernel) (Nat.le_of_ble_eq_true rfl) (fun k hl hR h0 hno => ?_)
  subst hl
  obtain ⟨Qf, hQ⟩ : ∃ Qf, Qf = am_Q k 1 6 (fun v h' => False) (fun E h' => E = "java/lang/IllegalStateException" ∧ h' = h) := ⟨_, rfl⟩
  rw [← hQ]
  have hx0 : wdm n p o 5 0 = true := rfl
  have hn0 : wdm n p o 3 0 = true := rfl
  have hn8 : n ≤ 8 := w.1.1
  have hp24 : p ≤ 24 := w.1.2.1
  have ho8 : ord.length ≤ 8 := w.1.2.2.2.2
  have hdi : wdm n p o 2 i = true := decide_eq_true hi
  have hdi1 : wdm n p o 1 i = true := decide_eq_true hi
  have hdi0 : wdm n p o 0 i = true := decide_eq_true hi
  refine g_aload_n dX4_bid_0 rfl ?_
  refine g_iload_n dX4_bid_1 rfl ?_
  refine g_callV [_] dX4_bid_2 mc_X4_75 mi_X4_isNoDistrict se_X4_isNoDistrict (c_isNoDistrict_0 hlt w (by assumption)) (w.k (by first | rfl | assumption)) rfl rfl (Nat.le_of_ble_eq_true rfl) (am_rm hR (by decide)) (fun _ _ z => z) (fun v hx hq hE => ?_)
  obtain ⟨rfl, rfl⟩ := hq
  refine g_if_eq 18 dX4_bid_5 (by decide) (fun _ => ?_) (fun z => absurd z (by decide))
  refine g_iload_n dX4_bid_18 rfl ?_
  refine g_iconst (v := 0) dX4_bid_19 (by decide) ?_
  refine g_bipush (v := 99) dX4_bid_20 (by decide) ?_
  refine g_callS [_, _, _] dX4_bid_22 mc_X4_46 ms_X4_isOutside (c_isOutside_0 hlt a1 a2) rfl (Nat.le_of_ble_eq_true rfl) (am_rm hR (by decide)) (fun _ _ z => z) (fun v hx hq hE => ?_)
  obtain ⟨rfl, rfl⟩ := hq
  refine g_if_ne 39 dX4_bid_25 (by decide) (fun z => absurd z (by decide)) (fun _ => ?_)
  refine g_iload_n dX4_bid_28 rfl ?_
  refine g_iconst (v := 0) dX4_bid_29 (by decide) ?_
  refine g_sipush (v := 999) dX4_bid_30 (by decide) ?_
  refine g_callS [_, _, _] dX4_bid_33 mc_X4_46 ms_X4_isOutside (c_isOutside_0 hlt b1 b2) rfl (Nat.le_of_ble_eq_true rfl) (am_rm hR (by decide)) (fun _ _ z => z) (fun v hx hq hE => ?_)
  obtain ⟨rfl, rfl⟩ := hq
  refine g_if_eq 49 dX4_bid_36 (by decide) (fun _ => ?_) (fun z => absurd z (by decide))
  refine g_aload_n dX4_bid_49 rfl ?_
  refine w_getR w dX4_bid_50 fl_X4_12 rfl rfl (by first | rfl | assumption) rfl ?_
  refine g_iload_n dX4_bid_53 rfl ?_
  refine g_callV [_] dX4_bid_54 mc_X4_103 mi_Jx4a65c_get_915e3 se_Jx4a65c_get_915e3 (c_get0 hlt w (by first | assumption | omega)) (w.k (by first | rfl | assumption)) rfl rfl (Nat.le_of_ble_eq_true rfl) (am_rm hR (by decide)) (fun _ _ z => z) (fun v hx hq hE => ?_)
  obtain ⟨rfl, rfl⟩ := hq
  refine g_castS (q := (RX1, TX1, 14)) dX4_bid_57 kl_X4_66 (w.k (by first | rfl | assumption)) rfl ?_
  refine g_astore dX4_bid_60 (by decide) rfl ?_
  refine g_aload_n dX4_bid_62 rfl ?_
  refine w_getI w dX4_bid_63 fl_X4_33 rfl rfl (by first | rfl | assumption) ?_
  refine g_if_ne 92 dX4_bid_66 (by decide) (fun z => absurd hf z) (fun c_66 => ?_)
  refine g_aload dX4_bid_69 rfl ?_
  refine w_getR w dX4_bid_71 fl_X4_112 rfl rfl (by first | rfl | assumption) rfl ?_
  refine w_getI w dX4_bid_74 fl_X4_116 rfl rfl (by first | rfl | assumption) ?_
  refine g_if_eq 102 dX4_bid_77 (by decide) (fun z => absurd z hs) (fun c_77 => ?_)
  refine g_iload_n dX4_bid_80 rfl ?_
  refine g_aload dX4_bid_81 rfl ?_
  refine w_getR w dX4_bid_83 fl_X4_112 rfl rfl (by first | rfl | assumption) rfl ?_
  refine w_getI w dX4_bid_86 fl_X4_121 rfl rfl (by first | rfl | assumption) ?_
  refine g_icmp_ge 102 dX4_bid_89 (by decide) (fun z => absurd z hl) (fun c_89 => ?_)
  rw [hQ]
  refine g_throw (text := "no BIDDING, or the price is below that of the bid that stands") dX4_bid_92 dX4_bid_95 dX4_bid_96 dX4_bid_98 dX4_bid_101 tw_61 (by simp [am_strs]) hno (by rw [hR]; decide) (by rw [hR]; exact Nat.le_of_ble_eq_true rfl) (by rw [hR]; decide) (by rw [hR]; decide) (by decide) (by decide) ?_
  exact ⟨rfl, rfl⟩
/-- what a bid of the class leaves -/
def sp_cbid (Γ : Nat → Nat → Nat → Int32) (i : Nat) (a b : Int32) : Nat → Nat → Nat → Int32 :=
  let Γ1 := if Γ 1 i 0 = 0 then u3 Γ 5 0 6 (Γ 5 0 6 + 1) else Γ
  u3 (u3 (u3 (u3 (u3 Γ1 1 i 0 1) 1 i 1 a) 1 i 2 b) 1 i 3 (Γ 5 0 7)) 5 0 7 (Γ 5 0 7 + 1)
set_option maxRecDepth 100000 in
set_option maxHeartbeats 4000000 in
theorem c_X4_bid_0a {l : Launch} (hlt : l.stackTraces = false) {N n p : Nat} {ord : List Nat} {L : Nat → Nat → Nat} {Γ : Nat → Nat → Nat → Int32} {o : Nat} {h : am_H} (w : WI N n p ord L Γ o h) {i : Nat} (hi : i < n) {a b : Int32} (a1 : ¬ a < 0) (a2 : a ≤ 99) (b1 : ¬ b < 0) (b2 : b ≤ 999) (hf : Γ 5 0 5 = 0) (hs : Γ 0 i 0 = 0) : am_Con l yX4_bid (.code yX4_bid cX4_bid 5 (some .int)) 20 0 0 [.ref (L 5 0), .int (nI i), .int a, .int b] h (fun v h' => v = some (.int (sp_cbid Γ i a b 5 0 6)) ∧ WI N n p ord L (sp_cbid Γ i a b) o h') (fun _ _ => False) := by
  refine am_body hlt (by decide +kernel) (Nat.le_of_ble_eq_true rfl) (fun k hl hR h0 hno => ?_)
  subst hl
  obtain ⟨Qf, hQ⟩ : ∃ Qf, Qf = am_Q k 0 0 (fun v h' => v = some (.int (sp_cbid Γ i a b 5 0 6)) ∧ WI N n p ord L (sp_cbid Γ i a b) o h') (fun _ _ => False) := ⟨_, rfl⟩
  rw [← hQ]
  have hx0 : wdm n p o 5 0 = true := rfl
  have hn0 : wdm n p o 3 0 = true := rfl
  have hn8 : n ≤ 8 := w.1.1
  have hp24 : p ≤ 24 := w.1.2.1
  have ho8 : ord.length ≤ 8 := w.1.2.2.2.2
  have hdi : wdm n p o 2 i = true := decide_eq_true hi
  have hdi1 : wdm n p o 1 i = true := decide_eq_true hi
  have hdi0 : wdm n p o 0 i = true := decide_eq_true hi
  refine g_aload_n dX4_bid_0 rfl ?_
  refine g_iload_n dX4_bid_1 rfl ?_
  refine g_callV [_] dX4_bid_2 mc_X4_75 mi_X4_isNoDistrict se_X4_isNoDistrict (c_isNoDistrict_0 hlt w (by assumption)) (w.k (by first | rfl | assumption)) rfl rfl (Nat.le_of_ble_eq_true rfl) (am_rm hR (by decide)) (fun _ _ z => z) (fun v hx hq hE => ?_)
  obtain ⟨rfl, rfl⟩ := hq
  refine g_if_eq 18 dX4_bid_5 (by decide) (fun _ => ?_) (fun z => absurd z (by decide))
  refine g_iload_n dX4_bid_18 rfl ?_
  refine g_iconst (v := 0) dX4_bid_19 (by decide) ?_
  refine g_bipush (v := 99) dX4_bid_20 (by decide) ?_
  refine g_callS [_, _, _] dX4_bid_22 mc_X4_46 ms_X4_isOutside (c_isOutside_0 hlt a1 a2) rfl (Nat.le_of_ble_eq_true rfl) (am_rm hR (by decide)) (fun _ _ z => z) (fun v hx hq hE => ?_)
  obtain ⟨rfl, rfl⟩ := hq
  refine g_if_ne 39 dX4_bid_25 (by decide) (fun z => absurd z (by decide)) (fun _ => ?_)
  refine g_iload_n dX4_bid_28 rfl ?_
  refine g_iconst (v := 0) dX4_bid_29 (by decide) ?_
  refine g_sipush (v := 999) dX4_bid_30 (by decide) ?_
  refine g_callS [_, _, _] dX4_bid_33 mc_X4_46 ms_X4_isOutside (c_isOutside_0 hlt b1 b2) rfl (Nat.le_of_ble_eq_true rfl) (am_rm hR (by decide)) (fun _ _ z => z) (fun v hx hq hE => ?_)
  obtain ⟨rfl, rfl⟩ := hq
  refine g_if_eq 49 dX4_bid_36 (by decide) (fun _ => ?_) (fun z => absurd z (by decide))
  refine g_aload_n dX4_bid_49 rfl ?_
  refine w_getR w dX4_bid_50 fl_X4_12 rfl rfl (by first | rfl | assumption) rfl ?_
  refine g_iload_n dX4_bid_53 rfl ?_
  refine g_callV [_] dX4_bid_54 mc_X4_103 mi_Jx4a65c_get_915e3 se_Jx4a65c_get_915e3 (c_get0 hlt w (by first | assumption | omega)) (w.k (by first | rfl | assumption)) rfl rfl (Nat.le_of_ble_eq_true rfl) (am_rm hR (by decide)) (fun _ _ z => z) (fun v hx hq hE => ?_)
  obtain ⟨rfl, rfl⟩ := hq
  refine g_castS (q := (RX1, TX1, 14)) dX4_bid_57 kl_X4_66 (w.k (by first | rfl | assumption)) rfl ?_
  refine g_astore dX4_bid_60 (by decide) rfl ?_
  refine g_aload_n dX4_bid_62 rfl ?_
  refine w_getI w dX4_bid_63 fl_X4_33 rfl rfl (by first | rfl | assumption) ?_
  refine g_if_ne 92 dX4_bid_66 (by decide) (fun z => absurd hf z) (fun c_66 => ?_)
  refine g_aload dX4_bid_69 rfl ?_
  refine w_getR w dX4_bid_71 fl_X4_112 rfl rfl (by first | rfl | assumption) rfl ?_
  refine w_getI w dX4_bid_74 fl_X4_116 rfl rfl (by first | rfl | assumption) ?_
  refine g_if_eq 102 dX4_bid_77 (by decide) (fun c_77 => ?_) (fun z => absurd hs z)
  refine g_aload dX4_bid_102 rfl ?_
  refine w_getR w dX4_bid_104 fl_X4_126 rfl rfl (by first | rfl | assumption) rfl ?_
  refine w_getI w dX4_bid_107 fl_X4_116 rfl rfl (by first | rfl | assumption) ?_
  refine g_if_ne 123 dX4_bid_110 (by decide) (fun c_110 => ?_) (fun c_110 => ?_)
  · skip
    refine g_aload dX4_bid_123 rfl ?_
    refine w_getR w dX4_bid_125 fl_X4_126 rfl rfl (by first | rfl | assumption) rfl ?_
    refine g_iload_n dX4_bid_128 rfl ?_
    refine g_iload_n dX4_bid_129 rfl ?_
    refine g_aload_n dX4_bid_130 rfl ?_
    refine w_getI w dX4_bid_131 fl_X4_40 rfl rfl (by first | rfl | assumption) ?_
    refine g_callV [_, _, _] dX4_bid_134 mc_X4_129 mi_X0_set se_X0_set (c_X0_set_t hlt w (by assumption) _ _ _) (w.k (by first | rfl | assumption)) rfl rfl (Nat.le_of_ble_eq_true rfl) (am_rm hR (by decide)) (fun _ _ z => z) (fun v hx hq hE => ?_)
    obtain ⟨rfl, w1⟩ := hq
    refine g_aload_n dX4_bid_137 rfl ?_
    refine g_dup dX4_bid_138 rfl ?_
    refine w_getI w1 dX4_bid_139 fl_X4_40 rfl rfl (by first | rfl | assumption) ?_
    refine g_iconst (v := 1) dX4_bid_142 (by decide) ?_
    refine g_iadd dX4_bid_143 ?_
    refine w_putI w1 dX4_bid_144 fl_X4_40 rfl rfl (by decide) (fun q hq => by cases hq; rfl) (by first | rfl | assumption) rfl rfl (fun h2 w2 => ?_)
    refine g_aload_n dX4_bid_147 rfl ?_
    refine w_getI w2 dX4_bid_148 fl_X4_37 rfl rfl (by first | rfl | assumption) ?_
    rw [hQ]
    refine g_iret dX4_bid_151 rfl rfl (by decide) (by decide) ?_
    exact ⟨by simp [sp_cbid, u3_ap, c_66, c_77, c_110], by simpa [sp_cbid, u3_ap, c_66, c_77, c_110] using w2⟩
  · skip
    refine g_aload_n dX4_bid_113 rfl ?_
    refine g_dup dX4_bid_114 rfl ?_
    refine w_getI w dX4_bid_115 fl_X4_37 rfl rfl (by first | rfl | assumption) ?_
    refine g_iconst (v := 1) dX4_bid_118 (by decide) ?_
    refine g_iadd dX4_bid_119 ?_
    refine w_putI w dX4_bid_120 fl_X4_37 rfl rfl (by decide) (fun q hq => by cases hq; rfl) (by first | rfl | assumption) rfl rfl (fun h3 w3 => ?_)
    refine g_aload dX4_bid_123 rfl ?_
    refine w_getR w3 dX4_bid_125 fl_X4_126 rfl rfl (by first | rfl | assumption) rfl ?_
    refine g_iload_n dX4_bid_128 rfl ?_
    refine g_iload_n dX4_bid_129 rfl ?_
    refine g_aload_n dX4_bid_130 rfl ?_
    refine w_getI w3 dX4_bid_131 fl_X4_40 rfl rfl (by first | rfl | assumption) ?_
    refine g_callV [_, _, _] dX4_bid_134 mc_X4_129 mi_X0_set se_X0_set (c_X0_set_t hlt w3 (by assumption) _ _ _) (w3.k (by first | rfl | assumption)) rfl rfl (Nat.le_of_ble_eq_true rfl) (am_rm hR (by decide)) (fun _ _ z => z) (fun v hx hq hE => ?_)
    obtain ⟨rfl, w4⟩ := hq
    refine g_aload_n dX4_bid_137 rfl ?_
    refine g_dup dX4_bid_138 rfl ?_
    refine w_getI w4 dX4_bid_139 fl_X4_40 rfl rfl (by first | rfl | assumption) ?_
    refine g_iconst (v := 1) dX4_bid_142 (by decide) ?_
    refine g_iadd dX4_bid_143 ?_
    refine w_putI w4 dX4_bid_144 fl_X4_40 rfl rfl (by decide) (fun q hq => by cases hq; rfl) (by first | rfl | assumption) rfl rfl (fun h5 w5 => ?_)
    refine g_aload_n dX4_bid_147 rfl ?_
    refine w_getI w5 dX4_bid_148 fl_X4_37 rfl rfl (by first | rfl | assumption) ?_
    rw [hQ]
    refine g_iret dX4_bid_151 rfl rfl (by decide) (by decide) ?_
    exact ⟨by simp [sp_cbid, u3_ap, c_66, c_77, c_110], by simpa [sp_cbid, u3_ap, c_66, c_77, c_110] using w5⟩
set_option maxRecDepth 100000 in
set_option maxHeartbeats 4000000 in
theorem c_X4_bid_0b {l : Launch} (hlt : l.stackTraces = false) {N n p : Nat} {ord : List Nat} {L : Nat → Nat → Nat} {Γ : Nat → Nat → Nat → Int32} {o : Nat} {h : am_H} (w : WI N n p ord L Γ o h) {i : Nat} (hi : i < n) {a b : Int32} (a1 : ¬ a < 0) (a2 : a ≤ 99) (b1 : ¬ b < 0) (b2 : b ≤ 999) (hf : Γ 5 0 5 = 0) (hs : ¬ Γ 0 i 0 = 0) (hl : Γ 0 i 1 ≤ a) : am_Con l yX4_bid (.code yX4_bid cX4_bid 5 (some .int)) 20 0 0 [.ref (L 5 0), .int (nI i), .int a, .int b] h (fun v h' => v = some (.int (sp_cbid Γ i a b 5 0 6)) ∧ WI N n p ord L (sp_cbid Γ i a b) o h') (fun _ _ => False) := by
  refine am_body hlt (by decide +kernel) (Nat.le_of_ble_eq_true rfl) (fun k hl hR h0 hno => ?_)
  subst hl
  obtain ⟨Qf, hQ⟩ : ∃ Qf, Qf = am_Q k 0 0 (fun v h' => v = some (.int (sp_cbid Γ i a b 5 0 6)) ∧ WI N n p ord L (sp_cbid Γ i a b) o h') (fun _ _ => False) := ⟨_, rfl⟩
  rw [← hQ]
  have hx0 : wdm n p o 5 0 = true := rfl
  have hn0 : wdm n p o 3 0 = true := rfl
  have hn8 : n ≤ 8 := w.1.1
  have hp24 : p ≤ 24 := w.1.2.1
  have ho8 : ord.length ≤ 8 := w.1.2.2.2.2
  have hdi : wdm n p o 2 i = true := decide_eq_true hi
  have hdi1 : wdm n p o 1 i = true := decide_eq_true hi
  have hdi0 : wdm n p o 0 i = true := decide_eq_true hi
  refine g_aload_n dX4_bid_0 rfl ?_
  refine g_iload_n dX4_bid_1 rfl ?_
  refine g_callV [_] dX4_bid_2 mc_X4_75 mi_X4_isNoDistrict se_X4_isNoDistrict (c_isNoDistrict_0 hlt w (by assumption)) (w.k (by first | rfl | assumption)) rfl rfl (Nat.le_of_ble_eq_true rfl) (am_rm hR (by decide)) (fun _ _ z => z) (fun v hx hq hE => ?_)
  obtain ⟨rfl, rfl⟩ := hq
  refine g_if_eq 18 dX4_bid_5 (by decide) (fun _ => ?_) (fun z => absurd z (by decide))
  refine g_iload_n dX4_bid_18 rfl ?_
  refine g_iconst (v := 0) dX4_bid_19 (by decide) ?_
  refine g_bipush (v := 99) dX4_bid_20 (by decide) ?_
  refine g_callS [_, _, _] dX4_bid_22 mc_X4_46 ms_X4_isOutside (c_isOutside_0 hlt a1 a2) rfl (Nat.le_of_ble_eq_true rfl) (am_rm hR (by decide)) (fun _ _ z => z) (fun v hx hq hE => ?_)
  obtain ⟨rfl, rfl⟩ := hq
  refine g_if_ne 39 dX4_bid_25 (by decide) (fun z => absurd z (by decide)) (fun _ => ?_)
  refine g_iload_n dX4_bid_28 rfl ?_
  refine g_iconst (v := 0) dX4_bid_29 (by decide) ?_
  refine g_sipush (v := 999) dX4_bid_30 (by decide) ?_
  refine g_callS [_, _, _] dX4_bid_33 mc_X4_46 ms_X4_isOutside (c_isOutside_0 hlt b1 b2) rfl (Nat.le_of_ble_eq_true rfl) (am_rm hR (by decide)) (fun _ _ z => z) (fun v hx hq hE => ?_)
  obtain ⟨rfl, rfl⟩ := hq
  refine g_if_eq 49 dX4_bid_36 (by decide) (fun _ => ?_) (fun z => absurd z (by decide))
  refine g_aload_n dX4_bid_49 rfl ?_
  refine w_getR w dX4_bid_50 fl_X4_12 rfl rfl (by first | rfl | assumption) rfl ?_
  refine g_iload_n dX4_bid_53 rfl ?_
  refine g_callV [_] dX4_bid_54 mc_X4_103 mi_Jx4a65c_get_915e3 se_Jx4a65c_get_915e3 (c_get0 hlt w (by first | assumption | omega)) (w.k (by first | rfl | assumption)) rfl rfl (Nat.le_of_ble_eq_true rfl) (am_rm hR (by decide)) (fun _ _ z => z) (fun v hx hq hE => ?_)
  obtain ⟨rfl, rfl⟩ := hq
  refine g_castS (q := (RX1, TX1, 14)) dX4_bid_57 kl_X4_66 (w.k (by first | rfl | assumption)) rfl ?_
  refine g_astore dX4_bid_60 (by decide) rfl ?_
  refine g_aload_n dX4_bid_62 rfl ?_
  refine w_getI w dX4_bid_63 fl_X4_33 rfl rfl (by first | rfl | assumption) ?_
  refine g_if_ne 92 dX4_bid_66 (by decide) (fun z => absurd hf z) (fun c_66 => ?_)
  refine g_aload dX4_bid_69 rfl ?_
  refine w_getR w dX4_bid_71 fl_X4_112 rfl rfl (by first | rfl | assumption) rfl ?_
  refine w_getI w dX4_bid_74 fl_X4_116 rfl rfl (by first | rfl | assumption) ?_
  refine g_if_eq 102 dX4_bid_77 (by decide) (fun z => absurd z hs) (fun c_77 => ?_)
  refine g_iload_n dX4_bid_80 rfl ?_
  refine g_aload dX4_bid_81 rfl ?_
  refine w_getR w dX4_bid_83 fl_X4_112 rfl rfl (by first | rfl | assumption) rfl ?_
  refine w_getI w dX4_bid_86 fl_X4_121 rfl rfl (by first | rfl | assumption) ?_
  refine g_icmp_ge 102 dX4_bid_89 (by decide) (fun c_89 => ?_) (fun z => absurd hl z)
  refine g_aload dX4_bid_102 rfl ?_
  refine w_getR w dX4_bid_104 fl_X4_126 rfl rfl (by first | rfl | assumption) rfl ?_
  refine w_getI w dX4_bid_107 fl_X4_116 rfl rfl (by first | rfl | assumption) ?_
  refine g_if_ne 123 dX4_bid_110 (by decide) (fun c_110 => ?_) (fun c_110 => ?_)
  · skip
    refine g_aload dX4_bid_123 rfl ?_
    refine w_getR w dX4_bid_125 fl_X4_126 rfl rfl (by first | rfl | assumption) rfl ?_
    refine g_iload_n dX4_bid_128 rfl ?_
    refine g_iload_n dX4_bid_129 rfl ?_
    refine g_aload_n dX4_bid_130 rfl ?_
    refine w_getI w dX4_bid_131 fl_X4_40 rfl rfl (by first | rfl | assumption) ?_
    refine g_callV [_, _, _] dX4_bid_134 mc_X4_129 mi_X0_set se_X0_set (c_X0_set_t hlt w (by assumption) _ _ _) (w.k (by first | rfl | assumption)) rfl rfl (Nat.le_of_ble_eq_true rfl) (am_rm hR (by decide)) (fun _ _ z => z) (fun v hx hq hE => ?_)
    obtain ⟨rfl, w1⟩ := hq
    refine g_aload_n dX4_bid_137 rfl ?_
    refine g_dup dX4_bid_138 rfl ?_
    refine w_getI w1 dX4_bid_139 fl_X4_40 rfl rfl (by first | rfl | assumption) ?_
    refine g_iconst (v := 1) dX4_bid_142 (by decide) ?_
    refine g_iadd dX4_bid_143 ?_
    refine w_putI w1 dX4_bid_144 fl_X4_40 rfl rfl (by decide) (fun q hq => by cases hq; rfl) (by first | rfl | assumption) rfl rfl (fun h2 w2 => ?_)
    refine g_aload_n dX4_bid_147 rfl ?_
    refine w_getI w2 dX4_bid_148 fl_X4_37 rfl rfl (by first | rfl | assumption) ?_
    rw [hQ]
    refine g_iret dX4_bid_151 rfl rfl (by decide) (by decide) ?_
    exact ⟨by simp [sp_cbid, u3_ap, c_66, c_77, c_89, c_110], by simpa [sp_cbid, u3_ap, c_66, c_77, c_89, c_110] using w2⟩
  · skip
    refine g_aload_n dX4_bid_113 rfl ?_
    refine g_dup dX4_bid_114 rfl ?_
    refine w_getI w dX4_bid_115 fl_X4_37 rfl rfl (by first | rfl | assumption) ?_
    refine g_iconst (v := 1) dX4_bid_118 (by decide) ?_
    refine g_iadd dX4_bid_119 ?_
    refine w_putI w dX4_bid_120 fl_X4_37 rfl rfl (by decide) (fun q hq => by cases hq; rfl) (by first | rfl | assumption) rfl rfl (fun h3 w3 => ?_)
    refine g_aload dX4_bid_123 rfl ?_
    refine w_getR w3 dX4_bid_125 fl_X4_126 rfl rfl (by first | rfl | assumption) rfl ?_
    refine g_iload_n dX4_bid_128 rfl ?_
    refine g_iload_n dX4_bid_129 rfl ?_
    refine g_aload_n dX4_bid_130 rfl ?_
    refine w_getI w3 dX4_bid_131 fl_X4_40 rfl rfl (by first | rfl | assumption) ?_
    refine g_callV [_, _, _] dX4_bid_134 mc_X4_129 mi_X0_set se_X0_set (c_X0_set_t hlt w3 (by assumption) _ _ _) (w3.k (by first | rfl | assumption)) rfl rfl (Nat.le_of_ble_eq_true rfl) (am_rm hR (by decide)) (fun _ _ z => z) (fun v hx hq hE => ?_)
    obtain ⟨rfl, w4⟩ := hq
    refine g_aload_n dX4_bid_137 rfl ?_
    refine g_dup dX4_bid_138 rfl ?_
    refine w_getI w4 dX4_bid_139 fl_X4_40 rfl rfl (by first | rfl | assumption) ?_
    refine g_iconst (v := 1) dX4_bid_142 (by decide) ?_
    refine g_iadd dX4_bid_143 ?_
    refine w_putI w4 dX4_bid_144 fl_X4_40 rfl rfl (by decide) (fun q hq => by cases hq; rfl) (by first | rfl | assumption) rfl rfl (fun h5 w5 => ?_)
    refine g_aload_n dX4_bid_147 rfl ?_
    refine w_getI w5 dX4_bid_148 fl_X4_37 rfl rfl (by first | rfl | assumption) ?_
    rw [hQ]
    refine g_iret dX4_bid_151 rfl rfl (by decide) (by decide) ?_
    exact ⟨by simp [sp_cbid, u3_ap, c_66, c_77, c_89, c_110], by simpa [sp_cbid, u3_ap, c_66, c_77, c_89, c_110] using w5⟩
set_option maxRecDepth 100000 in
set_option maxHeartbeats 4000000 in
theorem c_X4_repair_1 {l : Launch} (hlt : l.stackTraces = false) {N n p : Nat} {ord : List Nat} {L : Nat → Nat → Nat} {Γ : Nat → Nat → Nat → Int32} {o : Nat} {h : am_H} (w : WI N n p ord L Γ o h) {a : Int32} (hb : a < 0 ∨ nI p ≤ a) : am_Con l yX4_repair (.code yX4_repair cX4_repair 3 none) 20 1 6 [.ref (L 5 0), .int a] h (fun v h' => False) (fun E h' => E = "java/lang/IndexOutOfBoundsException" ∧ h' = h) := by
  refine am_body hlt (by decide +kernel) (Nat.le_of_ble_eq_true rfl) (fun k hl hR h0 hno => ?_)
  subst hl
  obtain ⟨Qf, hQ⟩ : ∃ Qf, Qf = am_Q k 1 6 (fun v h' => False) (fun E h' => E = "java/lang/IndexOutOfBoundsException" ∧ h' = h) := ⟨_, rfl⟩
  rw [← hQ]
  have hx0 : wdm n p o 5 0 = true := rfl
  have hn0 : wdm n p o 3 0 = true := rfl
  have hn8 : n ≤ 8 := w.1.1
  have hp24 : p ≤ 24 := w.1.2.1
  have ho8 : ord.length ≤ 8 := w.1.2.2.2.2
  refine g_aload_n dX4_repair_0 rfl ?_
  refine g_iload_n dX4_repair_1 rfl ?_
  refine g_callV [_] dX4_repair_2 mc_X4_143 mi_X4_isNoPipe se_X4_isNoPipe (c_isNoPipe_1 hlt w (by assumption)) (w.k (by first | rfl | assumption)) rfl rfl (Nat.le_of_ble_eq_true rfl) (am_rm hR (by decide)) (fun _ _ z => z) (fun v hx hq hE => ?_)
  obtain ⟨rfl, rfl⟩ := hq
  refine g_if_eq 18 dX4_repair_5 (by decide) (fun z => absurd z (by decide)) (fun _ => ?_)
  rw [hQ]
  refine g_throw (text := "no such pipe") dX4_repair_8 dX4_repair_11 dX4_repair_12 dX4_repair_14 dX4_repair_17 tw_79 (by simp [am_strs]) hno (by rw [hR]; decide) (by rw [hR]; exact Nat.le_of_ble_eq_true rfl) (by rw [hR]; decide) (by rw [hR]; decide) (by decide) (by decide) ?_
  exact ⟨rfl, rfl⟩
set_option maxRecDepth 100000 in
set_option maxHeartbeats 4000000 in
theorem c_X4_repair_2a {l : Launch} (hlt : l.stackTraces = false) {N n p : Nat} {ord : List Nat} {L : Nat → Nat → Nat} {Γ : Nat → Nat → Nat → Int32} {o : Nat} {h : am_H} (w : WI N n p ord L Γ o h) {i : Nat} (hi : i < p) (hf : Γ 4 i 3 = 0) : am_Con l yX4_repair (.code yX4_repair cX4_repair 3 none) 20 1 6 [.ref (L 5 0), .int (nI i)] h (fun v h' => False) (fun E h' => E = "java/lang/IllegalStateException" ∧ h' = h) := by
  refine am_body hlt (by decide +kernel) (Nat.le_of_ble_eq_true rfl) (fun k hl hR h0 hno => ?_)
  subst hl
  obtain ⟨Qf, hQ⟩ : ∃ Qf, Qf = am_Q k 1 6 (fun v h' => False) (fun E h' => E = "java/lang/IllegalStateException" ∧ h' = h) := ⟨_, rfl⟩
  rw [← hQ]
  have hx0 : wdm n p o 5 0 = true := rfl
  have hn0 : wdm n p o 3 0 = true := rfl
  have hn8 : n ≤ 8 := w.1.1
  have hp24 : p ≤ 24 := w.1.2.1
  have ho8 : ord.length ≤ 8 := w.1.2.2.2.2
  have hdi : wdm n p o 4 i = true := decide_eq_true hi
  refine g_aload_n dX4_repair_0 rfl ?_
  refine g_iload_n dX4_repair_1 rfl ?_
  refine g_callV [_] dX4_repair_2 mc_X4_143 mi_X4_isNoPipe se_X4_isNoPipe (c_isNoPipe_0 hlt w (by assumption)) (w.k (by first | rfl | assumption)) rfl rfl (Nat.le_of_ble_eq_true rfl) (am_rm hR (by decide)) (fun _ _ z => z) (fun v hx hq hE => ?_)
  obtain ⟨rfl, rfl⟩ := hq
  refine g_if_eq 18 dX4_repair_5 (by decide) (fun _ => ?_) (fun z => absurd z (by decide))
  refine g_aload_n dX4_repair_18 rfl ?_
  refine w_getR w dX4_repair_19 fl_X4_19 rfl rfl (by first | rfl | assumption) rfl ?_
  refine w_getR w dX4_repair_22 fl_X4_86 rfl rfl (by first | rfl | assumption) rfl ?_
  refine g_iload_n dX4_repair_25 rfl ?_
  refine g_callV [_] dX4_repair_26 mc_X4_103 mi_Jx4a65c_get_915e3 se_Jx4a65c_get_915e3 (c_get2 hlt w (by first | assumption | omega)) (w.k (by first | rfl | assumption)) rfl rfl (Nat.le_of_ble_eq_true rfl) (am_rm hR (by decide)) (fun _ _ z => z) (fun v hx hq hE => ?_)
  obtain ⟨rfl, rfl⟩ := hq
  refine g_castS (q := (RX3, TX3, 4)) dX4_repair_29 kl_X4_91 (w.k (by first | rfl | assumption)) rfl ?_
  refine g_astore_n dX4_repair_32 (by decide) rfl ?_
  refine g_aload_n dX4_repair_33 rfl ?_
  refine w_getI w dX4_repair_34 fl_X4_148 rfl rfl (by first | rfl | assumption) ?_
  refine g_if_eq 47 dX4_repair_37 (by decide) (fun c_37 => ?_) (fun z => absurd hf z)
  rw [hQ]
  refine g_throw (text := "it has not burst, or all is FLOWING") dX4_repair_47 dX4_repair_50 dX4_repair_51 dX4_repair_53 dX4_repair_56 tw_61 (by simp [am_strs]) hno (by rw [hR]; decide) (by rw [hR]; exact Nat.le_of_ble_eq_true rfl) (by rw [hR]; decide) (by rw [hR]; decide) (by decide) (by decide) ?_
  exact ⟨rfl, rfl⟩
set_option maxRecDepth 100000 in
set_option maxHeartbeats 4000000 in
theorem c_X4_repair_2b {l : Launch} (hlt : l.stackTraces = false) {N n p : Nat} {ord : List Nat} {L : Nat → Nat → Nat} {Γ : Nat → Nat → Nat → Int32} {o : Nat} {h : am_H} (w : WI N n p ord L Γ o h) {i : Nat} (hi : i < p) (hf : ¬ Γ 4 i 3 = 0) (hg : ¬ Γ 5 0 5 = 0) : am_Con l yX4_repair (.code yX4_repair cX4_repair 3 none) 20 1 6 [.ref (L 5 0), .int (nI i)] h (fun v h' => False) (fun E h' => E = "java/lang/IllegalStateException" ∧ h' = h) := by
  refine am_body hlt (by decide +kernel) (Nat.le_of_ble_eq_true rfl) (fun k hl hR h0 hno => ?_)
  subst hl
  obtain ⟨Qf, hQ⟩ : ∃ Qf, Qf = am_Q k 1 6 (fun v h' => False) (fun E h' => E = "java/lang/IllegalStateException" ∧ h' = h) := ⟨_, rfl⟩
  rw [← hQ]
  have hx0 : wdm n p o 5 0 = true := rfl
  have hn0 : wdm n p o 3 0 = true := rfl
  have hn8 : n ≤ 8 := w.1.1
  have hp24 : p ≤ 24 := w.1.2.1
  have ho8 : ord.length ≤ 8 := w.1.2.2.2.2
  have hdi : wdm n p o 4 i = true := decide_eq_true hi
  refine g_aload_n dX4_repair_0 rfl ?_
  refine g_iload_n dX4_repair_1 rfl ?_
  refine g_callV [_] dX4_repair_2 mc_X4_143 mi_X4_isNoPipe se_X4_isNoPipe (c_isNoPipe_0 hlt w (by assumption)) (w.k (by first | rfl | assumption)) rfl rfl (Nat.le_of_ble_eq_true rfl) (am_rm hR (by decide)) (fun _ _ z => z) (fun v hx hq hE => ?_)
  obtain ⟨rfl, rfl⟩ := hq
  refine g_if_eq 18 dX4_repair_5 (by decide) (fun _ => ?_) (fun z => absurd z (by decide))
  refine g_aload_n dX4_repair_18 rfl ?_
  refine w_getR w dX4_repair_19 fl_X4_19 rfl rfl (by first | rfl | assumption) rfl ?_
  refine w_getR w dX4_repair_22 fl_X4_86 rfl rfl (by first | rfl | assumption) rfl ?_
  refine g_iload_n dX4_repair_25 rfl ?_
  refine g_callV [_] dX4_repair_26 mc_X4_103 mi_Jx4a65c_get_915e3 se_Jx4a65c_get_915e3 (c_get2 hlt w (by first | assumption | omega)) (w.k (by first | rfl | assumption)) rfl rfl (Nat.le_of_ble_eq_true rfl) (am_rm hR (by decide)) (fun _ _ z => z) (fun v hx hq hE => ?_)
  obtain ⟨rfl, rfl⟩ := hq
  refine g_castS (q := (RX3, TX3, 4)) dX4_repair_29 kl_X4_91 (w.k (by first | rfl | assumption)) rfl ?_
  refine g_astore_n dX4_repair_32 (by decide) rfl ?_
  refine g_aload_n dX4_repair_33 rfl ?_
  refine w_getI w dX4_repair_34 fl_X4_148 rfl rfl (by first | rfl | assumption) ?_
  refine g_if_eq 47 dX4_repair_37 (by decide) (fun z => absurd z hf) (fun c_37 => ?_)
  refine g_aload_n dX4_repair_40 rfl ?_
  refine w_getI w dX4_repair_41 fl_X4_33 rfl rfl (by first | rfl | assumption) ?_
  refine g_if_eq 57 dX4_repair_44 (by decide) (fun z => absurd z hg) (fun c_44 => ?_)
  rw [hQ]
  refine g_throw (text := "it has not burst, or all is FLOWING") dX4_repair_47 dX4_repair_50 dX4_repair_51 dX4_repair_53 dX4_repair_56 tw_61 (by simp [am_strs]) hno (by rw [hR]; decide) (by rw [hR]; exact Nat.le_of_ble_eq_true rfl) (by rw [hR]; decide) (by rw [hR]; decide) (by decide) (by decide) ?_
  exact ⟨rfl, rfl⟩
set_option maxRecDepth 100000 in
set_option maxHeartbeats 4000000 in
theorem c_X4_repair_0 {l : Launch} (hlt : l.stackTraces = false) {N n p : Nat} {ord : List Nat} {L : Nat → Nat → Nat} {Γ : Nat → Nat → Nat → Int32} {o : Nat} {h : am_H} (w : WI N n p ord L Γ o h) {i : Nat} (hi : i < p) (hf : ¬ Γ 4 i 3 = 0) (hg : Γ 5 0 5 = 0) : am_Con l yX4_repair (.code yX4_repair cX4_repair 3 none) 20 0 0 [.ref (L 5 0), .int (nI i)] h (fun v h' => v = none ∧ WI N n p ord L (u3 Γ 4 i 3 0) o h') (fun _ _ => False) := by
  refine am_body hlt (by decide +kernel) (Nat.le_of_ble_eq_true rfl) (fun k hl hR h0 hno => ?_)
  subst hl
  obtain ⟨Qf, hQ⟩ : ∃ Qf, Qf = am_Q k 0 0 (fun v h' => v = none ∧ WI N n p ord L (u3 Γ 4 i 3 0) o h') (fun _ _ => False) := ⟨_, rfl⟩
  rw [← hQ]
  have hx0 : wdm n p o 5 0 = true := rfl
  have hn0 : wdm n p o 3 0 = true := rfl
  have hn8 : n ≤ 8 := w.1.1
  have hp24 : p ≤ 24 := w.1.2.1
  have ho8 : ord.length ≤ 8 := w.1.2.2.2.2
  have hdi : wdm n p o 4 i = true := decide_eq_true hi
  refine g_aload_n dX4_repair_0 rfl ?_
  refine g_iload_n dX4_repair_1 rfl ?_
  refine g_callV [_] dX4_repair_2 mc_X4_143 mi_X4_isNoPipe se_X4_isNoPipe (c_isNoPipe_0 hlt w (by assumption)) (w.k (by first | rfl | assumption)) rfl rfl (Nat.le_of_ble_eq_true rfl) (am_rm hR (by decide)) (fun _ _ z => z) (fun v hx hq hE => ?_)
  obtain ⟨rfl, rfl⟩ := hq
  refine g_if_eq 18 dX4_repair_5 (by decide) (fun _ => ?_) (fun z => absurd z (by decide))
  refine g_aload_n dX4_repair_18 rfl ?_
  refine w_getR w dX4_repair_19 fl_X4_19 rfl rfl (by first | rfl | assumption) rfl ?_
  refine w_getR w dX4_repair_22 fl_X4_86 rfl rfl (by first | rfl | assumption) rfl ?_
  refine g_iload_n dX4_repair_25 rfl ?_
  refine g_callV [_] dX4_repair_26 mc_X4_103 mi_Jx4a65c_get_915e3 se_Jx4a65c_get_915e3 (c_get2 hlt w (by first | assumption | omega)) (w.k (by first | rfl | assumption)) rfl rfl (Nat.le_of_ble_eq_true rfl) (am_rm hR (by decide)) (fun _ _ z => z) (fun v hx hq hE => ?_)
  obtain ⟨rfl, rfl⟩ := hq
  refine g_castS (q := (RX3, TX3, 4)) dX4_repair_29 kl_X4_91 (w.k (by first | rfl | assumption)) rfl ?_
  refine g_astore_n dX4_repair_32 (by decide) rfl ?_
  refine g_aload_n dX4_repair_33 rfl ?_
  refine w_getI w dX4_repair_34 fl_X4_148 rfl rfl (by first | rfl | assumption) ?_
  refine g_if_eq 47 dX4_repair_37 (by decide) (fun z => absurd z hf) (fun c_37 => ?_)
  refine g_aload_n dX4_repair_40 rfl ?_
  refine w_getI w dX4_repair_41 fl_X4_33 rfl rfl (by first | rfl | assumption) ?_
  refine g_if_eq 57 dX4_repair_44 (by decide) (fun c_44 => ?_) (fun z => absurd hg z)
  refine g_aload_n dX4_repair_57 rfl ?_
  refine g_iconst (v := 0) dX4_repair_58 (by decide) ?_
  refine w_putI w dX4_repair_59 fl_X4_148 rfl rfl (by decide) (fun q hq => by cases hq; rfl) (by first | rfl | assumption) rfl rfl (fun h1 w1 => ?_)
  rw [hQ]
  refine g_vret dX4_repair_62 rfl (by decide) (by decide) ?_
  exact ⟨rfl, w1⟩
set_option maxRecDepth 100000 in
set_option maxHeartbeats 4000000 in
theorem c_X4_burst_1 {l : Launch} (hlt : l.stackTraces = false) {N n p : Nat} {ord : List Nat} {L : Nat → Nat → Nat} {Γ : Nat → Nat → Nat → Int32} {o : Nat} {h : am_H} (w : WI N n p ord L Γ o h) {a : Int32} (hb : a < 0 ∨ nI p ≤ a) : am_Con l yX4_burst (.code yX4_burst cX4_burst 3 (some .int)) 20 1 6 [.ref (L 5 0), .int a] h (fun v h' => False) (fun E h' => E = "java/lang/IndexOutOfBoundsException" ∧ h' = h) := by
  refine am_body hlt (by decide +kernel) (Nat.le_of_ble_eq_true rfl) (fun k hl hR h0 hno => ?_)
  subst hl
  obtain ⟨Qf, hQ⟩ : ∃ Qf, Qf = am_Q k 1 6 (fun v h' => False) (fun E h' => E = "java/lang/IndexOutOfBoundsException" ∧ h' = h) := ⟨_, rfl⟩
  rw [← hQ]
  have hx0 : wdm n p o 5 0 = true := rfl
  have hn0 : wdm n p o 3 0 = true := rfl
  have hn8 : n ≤ 8 := w.1.1
  have hp24 : p ≤ 24 := w.1.2.1
  have ho8 : ord.length ≤ 8 := w.1.2.2.2.2
  refine g_aload_n dX4_burst_0 rfl ?_
  refine g_iload_n dX4_burst_1 rfl ?_
  refine g_callV [_] dX4_burst_2 mc_X4_143 mi_X4_isNoPipe se_X4_isNoPipe (c_isNoPipe_1 hlt w (by assumption)) (w.k (by first | rfl | assumption)) rfl rfl (Nat.le_of_ble_eq_true rfl) (am_rm hR (by decide)) (fun _ _ z => z) (fun v hx hq hE => ?_)
  obtain ⟨rfl, rfl⟩ := hq
  refine g_if_eq 18 dX4_burst_5 (by decide) (fun z => absurd z (by decide)) (fun _ => ?_)
  rw [hQ]
  refine g_throw (text := "no such pipe") dX4_burst_8 dX4_burst_11 dX4_burst_12 dX4_burst_14 dX4_burst_17 tw_79 (by simp [am_strs]) hno (by rw [hR]; decide) (by rw [hR]; exact Nat.le_of_ble_eq_true rfl) (by rw [hR]; decide) (by rw [hR]; decide) (by decide) (by decide) ?_
  exact ⟨rfl, rfl⟩
set_option maxRecDepth 100000 in
set_option maxHeartbeats 4000000 in
theorem c_X4_burst_2 {l : Launch} (hlt : l.stackTraces = false) {N n p : Nat} {ord : List Nat} {L : Nat → Nat → Nat} {Γ : Nat → Nat → Nat → Int32} {o : Nat} {h : am_H} (w : WI N n p ord L Γ o h) {i : Nat} (hi : i < p) (hf : ¬ Γ 4 i 3 = 0) : am_Con l yX4_burst (.code yX4_burst cX4_burst 3 (some .int)) 20 1 6 [.ref (L 5 0), .int (nI i)] h (fun v h' => False) (fun E h' => E = "java/lang/IllegalStateException" ∧ h' = h) := by
  refine am_body hlt (by decide +kernel) (Nat.le_of_ble_eq_true rfl) (fun k hl hR h0 hno => ?_)
  subst hl
  obtain ⟨Qf, hQ⟩ : ∃ Qf, Qf = am_Q k 1 6 (fun v h' => False) (fun E h' => E = "java/lang/IllegalStateException" ∧ h' = h) := ⟨_, rfl⟩
  rw [← hQ]
  have hx0 : wdm n p o 5 0 = true := rfl
  have hn0 : wdm n p o 3 0 = true := rfl
  have hn8 : n ≤ 8 := w.1.1
  have hp24 : p ≤ 24 := w.1.2.1
  have ho8 : ord.length ≤ 8 := w.1.2.2.2.2
  have hdi : wdm n p o 4 i = true := decide_eq_true hi
  refine g_aload_n dX4_burst_0 rfl ?_
  refine g_iload_n dX4_burst_1 rfl ?_
  refine g_callV [_] dX4_burst_2 mc_X4_143 mi_X4_isNoPipe se_X4_isNoPipe (c_isNoPipe_0 hlt w (by assumption)) (w.k (by first | rfl | assumption)) rfl rfl (Nat.le_of_ble_eq_true rfl) (am_rm hR (by decide)) (fun _ _ z => z) (fun v hx hq hE => ?_)
  obtain ⟨rfl, rfl⟩ := hq
  refine g_if_eq 18 dX4_burst_5 (by decide) (fun _ => ?_) (fun z => absurd z (by decide))
  refine g_aload_n dX4_burst_18 rfl ?_
  refine w_getR w dX4_burst_19 fl_X4_19 rfl rfl (by first | rfl | assumption) rfl ?_
  refine w_getR w dX4_burst_22 fl_X4_86 rfl rfl (by first | rfl | assumption) rfl ?_
  refine g_iload_n dX4_burst_25 rfl ?_
  refine g_callV [_] dX4_burst_26 mc_X4_103 mi_Jx4a65c_get_915e3 se_Jx4a65c_get_915e3 (c_get2 hlt w (by first | assumption | omega)) (w.k (by first | rfl | assumption)) rfl rfl (Nat.le_of_ble_eq_true rfl) (am_rm hR (by decide)) (fun _ _ z => z) (fun v hx hq hE => ?_)
  obtain ⟨rfl, rfl⟩ := hq
  refine g_castS (q := (RX3, TX3, 4)) dX4_burst_29 kl_X4_91 (w.k (by first | rfl | assumption)) rfl ?_
  refine g_astore_n dX4_burst_32 (by decide) rfl ?_
  refine g_aload_n dX4_burst_33 rfl ?_
  refine w_getI w dX4_burst_34 fl_X4_148 rfl rfl (by first | rfl | assumption) ?_
  refine g_if_eq 50 dX4_burst_37 (by decide) (fun z => absurd z hf) (fun c_37 => ?_)
  rw [hQ]
  refine g_throw (text := "it has burst") dX4_burst_40 dX4_burst_43 dX4_burst_44 dX4_burst_46 dX4_burst_49 tw_61 (by simp [am_strs]) hno (by rw [hR]; decide) (by rw [hR]; exact Nat.le_of_ble_eq_true rfl) (by rw [hR]; decide) (by rw [hR]; decide) (by decide) (by decide) ?_
  exact ⟨rfl, rfl⟩
set_option maxRecDepth 100000 in
set_option maxHeartbeats 4000000 in
theorem c_X4_burst_0a {l : Launch} (hlt : l.stackTraces = false) {N n p : Nat} {ord : List Nat} {L : Nat → Nat → Nat} {Γ : Nat → Nat → Nat → Int32} {o : Nat} {h : am_H} (w : WI N n p ord L Γ o h) {i : Nat} (hi : i < p) (hf : Γ 4 i 3 = 0) (hg : Γ 5 0 5 = 0) : am_Con l yX4_burst (.code yX4_burst cX4_burst 3 (some .int)) 20 0 0 [.ref (L 5 0), .int (nI i)] h (fun v h' => v = some (.int 0) ∧ WI N n p ord L (u3 Γ 4 i 3 1) o h') (fun _ _ => False) := by
  refine am_body hlt (by decide +kernel) (Nat.le_of_ble_eq_true rfl) (fun k hl hR h0 hno => ?_)
  subst hl
  obtain ⟨Qf, hQ⟩ : ∃ Qf, Qf = am_Q k 0 0 (fun v h' => v = some (.int 0) ∧ WI N n p ord L (u3 Γ 4 i 3 1) o h') (fun _ _ => False) := ⟨_, rfl⟩
  rw [← hQ]
  have hx0 : wdm n p o 5 0 = true := rfl
  have hn0 : wdm n p o 3 0 = true := rfl
  have hn8 : n ≤ 8 := w.1.1
  have hp24 : p ≤ 24 := w.1.2.1
  have ho8 : ord.length ≤ 8 := w.1.2.2.2.2
  have hdi : wdm n p o 4 i = true := decide_eq_true hi
  refine g_aload_n dX4_burst_0 rfl ?_
  refine g_iload_n dX4_burst_1 rfl ?_
  refine g_callV [_] dX4_burst_2 mc_X4_143 mi_X4_isNoPipe se_X4_isNoPipe (c_isNoPipe_0 hlt w (by assumption)) (w.k (by first | rfl | assumption)) rfl rfl (Nat.le_of_ble_eq_true rfl) (am_rm hR (by decide)) (fun _ _ z => z) (fun v hx hq hE => ?_)
  obtain ⟨rfl, rfl⟩ := hq
  refine g_if_eq 18 dX4_burst_5 (by decide) (fun _ => ?_) (fun z => absurd z (by decide))
  refine g_aload_n dX4_burst_18 rfl ?_
  refine w_getR w dX4_burst_19 fl_X4_19 rfl rfl (by first | rfl | assumption) rfl ?_
  refine w_getR w dX4_burst_22 fl_X4_86 rfl rfl (by first | rfl | assumption) rfl ?_
  refine g_iload_n dX4_burst_25 rfl ?_
  refine g_callV [_] dX4_burst_26 mc_X4_103 mi_Jx4a65c_get_915e3 se_Jx4a65c_get_915e3 (c_get2 hlt w (by first | assumption | omega)) (w.k (by first | rfl | assumption)) rfl rfl (Nat.le_of_ble_eq_true rfl) (am_rm hR (by decide)) (fun _ _ z => z) (fun v hx hq hE => ?_)
  obtain ⟨rfl, rfl⟩ := hq
  refine g_castS (q := (RX3, TX3, 4)) dX4_burst_29 kl_X4_91 (w.k (by first | rfl | assumption)) rfl ?_
  refine g_astore_n dX4_burst_32 (by decide) rfl ?_
  refine g_aload_n dX4_burst_33 rfl ?_
  refine w_getI w dX4_burst_34 fl_X4_148 rfl rfl (by first | rfl | assumption) ?_
  refine g_if_eq 50 dX4_burst_37 (by decide) (fun c_37 => ?_) (fun z => absurd hf z)
  refine g_aload_n dX4_burst_50 rfl ?_
  refine g_iconst (v := 1) dX4_burst_51 (by decide) ?_
  refine w_putI w dX4_burst_52 fl_X4_148 rfl rfl (by decide) (fun q hq => by cases hq; rfl) (by first | rfl | assumption) rfl rfl (fun h1 w1 => ?_)
  refine g_aload_n dX4_burst_55 rfl ?_
  refine w_getI w1 dX4_burst_56 fl_X4_33 rfl rfl (by first | rfl | assumption) ?_
  refine g_if_eq 69 dX4_burst_59 (by decide) (fun c_59 => ?_) (fun z => absurd hg z)
  refine g_iconst (v := 0) dX4_burst_69 (by decide) ?_
  rw [hQ]
  refine g_iret dX4_burst_70 rfl rfl (by decide) (by decide) ?_
  exact ⟨rfl, w1⟩
set_option maxRecDepth 100000 in
set_option maxHeartbeats 4000000 in
theorem c_X4_of_1 {l : Launch} (hlt : l.stackTraces = false) {N n p : Nat} {ord : List Nat} {L : Nat → Nat → Nat} {Γ : Nat → Nat → Nat → Int32} {o : Nat} {h : am_H} (w : WI N n p ord L Γ o h) {a b : Int32} (hb : a < 0 ∨ nI n ≤ a) : am_Con l yX4_ofDistrict (.code yX4_ofDistrict cX4_ofDistrict 4 (some .int)) 20 1 6 [.ref (L 5 0), .int a, .int b] h (fun v h' => False) (fun E h' => E = "java/lang/IndexOutOfBoundsException" ∧ h' = h) := by
  refine am_body hlt (by decide +kernel) (Nat.le_of_ble_eq_true rfl) (fun k hl hR h0 hno => ?_)
  subst hl
  obtain ⟨Qf, hQ⟩ : ∃ Qf, Qf = am_Q k 1 6 (fun v h' => False) (fun E h' => E = "java/lang/IndexOutOfBoundsException" ∧ h' = h) := ⟨_, rfl⟩
  rw [← hQ]
  have hx0 : wdm n p o 5 0 = true := rfl
  have hn0 : wdm n p o 3 0 = true := rfl
  have hn8 : n ≤ 8 := w.1.1
  have hp24 : p ≤ 24 := w.1.2.1
  have ho8 : ord.length ≤ 8 := w.1.2.2.2.2
  refine g_aload_n dX4_ofDistrict_0 rfl ?_
  refine g_iload_n dX4_ofDistrict_1 rfl ?_
  refine g_callV [_] dX4_ofDistrict_2 mc_X4_75 mi_X4_isNoDistrict se_X4_isNoDistrict (c_isNoDistrict_1 hlt w (by assumption)) (w.k (by first | rfl | assumption)) rfl rfl (Nat.le_of_ble_eq_true rfl) (am_rm hR (by decide)) (fun _ _ z => z) (fun v hx hq hE => ?_)
  obtain ⟨rfl, rfl⟩ := hq
  refine g_if_eq 18 dX4_ofDistrict_5 (by decide) (fun z => absurd z (by decide)) (fun _ => ?_)
  rw [hQ]
  refine g_throw (text := "no such district") dX4_ofDistrict_8 dX4_ofDistrict_11 dX4_ofDistrict_12 dX4_ofDistrict_14 dX4_ofDistrict_17 tw_79 (by simp [am_strs]) hno (by rw [hR]; decide) (by rw [hR]; exact Nat.le_of_ble_eq_true rfl) (by rw [hR]; decide) (by rw [hR]; decide) (by decide) (by decide) ?_
  exact ⟨rfl, rfl⟩
theorem sw_out {a : Int32} {m : Nat} (hm : m < 2 ^ 31) (hb : a < 0 ∨ nI (m + 1) ≤ a) (h2 : m + 1 < 2 ^ 31) : a.toInt < 0 ∨ (m : Int) < a.toInt := by
  rcases hb with z | z
  · left
    rw [Int32.lt_iff_toInt_lt, Int32.toInt_zero] at z
    exact z
  · right
    rw [Int32.le_iff_toInt_le, nI_toInt h2] at z
    omega
set_option maxRecDepth 100000 in
set_option maxHeartbeats 4000000 in
theorem c_X4_of_2 {l : Launch} (hlt : l.stackTraces = false) {N n p : Nat} {ord : List Nat} {L : Nat → Nat → Nat} {Γ : Nat → Nat → Nat → Int32} {o : Nat} {h : am_H} (w : WI N n p ord L Γ o h) {i : Nat} (hi : i < n) {b : Int32} (bb : b < 0 ∨ nI 9 ≤ b) : am_Con l yX4_ofDistrict (.code yX4_ofDistrict cX4_ofDistrict 4 (some .int)) 20 1 6 [.ref (L 5 0), .int (nI i), .int b] h (fun v h' => False) (fun E h' => E = "java/lang/IndexOutOfBoundsException" ∧ h' = h) := by
  refine am_body hlt (by decide +kernel) (Nat.le_of_ble_eq_true rfl) (fun k hl hR h0 hno => ?_)
  subst hl
  obtain ⟨Qf, hQ⟩ : ∃ Qf, Qf = am_Q k 1 6 (fun v h' => False) (fun E h' => E = "java/lang/IndexOutOfBoundsException" ∧ h' = h) := ⟨_, rfl⟩
  rw [← hQ]
  have hx0 : wdm n p o 5 0 = true := rfl
  have hn0 : wdm n p o 3 0 = true := rfl
  have hn8 : n ≤ 8 := w.1.1
  have hp24 : p ≤ 24 := w.1.2.1
  have ho8 : ord.length ≤ 8 := w.1.2.2.2.2
  have hdi : wdm n p o 2 i = true := decide_eq_true hi
  have hdi1 : wdm n p o 1 i = true := decide_eq_true hi
  have hdi0 : wdm n p o 0 i = true := decide_eq_true hi
  refine g_aload_n dX4_ofDistrict_0 rfl ?_
  refine g_iload_n dX4_ofDistrict_1 rfl ?_
  refine g_callV [_] dX4_ofDistrict_2 mc_X4_75 mi_X4_isNoDistrict se_X4_isNoDistrict (c_isNoDistrict_0 hlt w (by assumption)) (w.k (by first | rfl | assumption)) rfl rfl (Nat.le_of_ble_eq_true rfl) (am_rm hR (by decide)) (fun _ _ z => z) (fun v hx hq hE => ?_)
  obtain ⟨rfl, rfl⟩ := hq
  refine g_if_eq 18 dX4_ofDistrict_5 (by decide) (fun _ => ?_) (fun z => absurd z (by decide))
  refine g_aload_n dX4_ofDistrict_18 rfl ?_
  refine w_getR w dX4_ofDistrict_19 fl_X4_12 rfl rfl (by first | rfl | assumption) rfl ?_
  refine g_iload_n dX4_ofDistrict_22 rfl ?_
  refine g_callV [_] dX4_ofDistrict_23 mc_X4_103 mi_Jx4a65c_get_915e3 se_Jx4a65c_get_915e3 (c_get0 hlt w (by first | assumption | omega)) (w.k (by first | rfl | assumption)) rfl rfl (Nat.le_of_ble_eq_true rfl) (am_rm hR (by decide)) (fun _ _ z => z) (fun v hx hq hE => ?_)
  obtain ⟨rfl, rfl⟩ := hq
  refine g_castS (q := (RX1, TX1, 14)) dX4_ofDistrict_26 kl_X4_66 (w.k (by first | rfl | assumption)) rfl ?_
  refine g_astore_n dX4_ofDistrict_29 (by decide) rfl ?_
  refine g_iload_n dX4_ofDistrict_30 rfl ?_
  refine g_tableOut 159 dX4_ofDistrict_31 (sw_out (m := 8) (by decide) bb (by decide)) (by decide) ?_
  rw [hQ]
  refine g_throw (text := "what is out of range") dX4_ofDistrict_159 dX4_ofDistrict_162 dX4_ofDistrict_163 dX4_ofDistrict_165 dX4_ofDistrict_168 tw_79 (by simp [am_strs]) hno (by rw [hR]; decide) (by rw [hR]; exact Nat.le_of_ble_eq_true rfl) (by rw [hR]; decide) (by rw [hR]; decide) (by decide) (by decide) ?_
  exact ⟨rfl, rfl⟩
set_option maxRecDepth 100000 in
set_option maxHeartbeats 4000000 in
theorem c_X4_of_0_0 {l : Launch} (hlt : l.stackTraces = false) {N n p : Nat} {ord : List Nat} {L : Nat → Nat → Nat} {Γ : Nat → Nat → Nat → Int32} {o : Nat} {h : am_H} (w : WI N n p ord L Γ o h) {i : Nat} (hi : i < n) : am_Con l yX4_ofDistrict (.code yX4_ofDistrict cX4_ofDistrict 4 (some .int)) 20 0 0 [.ref (L 5 0), .int (nI i), .int (nI 0)] h (fun v h' => v = some (.int (Γ 2 i 3)) ∧ h' = h) (fun _ _ => False) := by
  refine am_body hlt (by decide +kernel) (Nat.le_of_ble_eq_true rfl) (fun k hl hR h0 hno => ?_)
  subst hl
  obtain ⟨Qf, hQ⟩ : ∃ Qf, Qf = am_Q k 0 0 (fun v h' => v = some (.int (Γ 2 i 3)) ∧ h' = h) (fun _ _ => False) := ⟨_, rfl⟩
  rw [← hQ]
  have hx0 : wdm n p o 5 0 = true := rfl
  have hn0 : wdm n p o 3 0 = true := rfl
  have hn8 : n ≤ 8 := w.1.1
  have hp24 : p ≤ 24 := w.1.2.1
  have ho8 : ord.length ≤ 8 := w.1.2.2.2.2
  have hdi : wdm n p o 2 i = true := decide_eq_true hi
  have hdi1 : wdm n p o 1 i = true := decide_eq_true hi
  have hdi0 : wdm n p o 0 i = true := decide_eq_true hi
  refine g_aload_n dX4_ofDistrict_0 rfl ?_
  refine g_iload_n dX4_ofDistrict_1 rfl ?_
  refine g_callV [_] dX4_ofDistrict_2 mc_X4_75 mi_X4_isNoDistrict se_X4_isNoDistrict (c_isNoDistrict_0 hlt w (by assumption)) (w.k (by first | rfl | assumption)) rfl rfl (Nat.le_of_ble_eq_true rfl) (am_rm hR (by decide)) (fun _ _ z => z) (fun v hx hq hE => ?_)
  obtain ⟨rfl, rfl⟩ := hq
  refine g_if_eq 18 dX4_ofDistrict_5 (by decide) (fun _ => ?_) (fun z => absurd z (by decide))
  refine g_aload_n dX4_ofDistrict_18 rfl ?_
  refine w_getR w dX4_ofDistrict_19 fl_X4_12 rfl rfl (by first | rfl | assumption) rfl ?_
  refine g_iload_n dX4_ofDistrict_22 rfl ?_
  refine g_callV [_] dX4_ofDistrict_23 mc_X4_103 mi_Jx4a65c_get_915e3 se_Jx4a65c_get_915e3 (c_get0 hlt w (by first | assumption | omega)) (w.k (by first | rfl | assumption)) rfl rfl (Nat.le_of_ble_eq_true rfl) (am_rm hR (by decide)) (fun _ _ z => z) (fun v hx hq hE => ?_)
  obtain ⟨rfl, rfl⟩ := hq
  refine g_castS (q := (RX1, TX1, 14)) dX4_ofDistrict_26 kl_X4_66 (w.k (by first | rfl | assumption)) rfl ?_
  refine g_astore_n dX4_ofDistrict_29 (by decide) rfl ?_
  refine g_iload_n dX4_ofDistrict_30 rfl ?_
  refine g_tableIn 80 dX4_ofDistrict_31 (by decide) (by decide) rfl (by decide) ?_
  refine g_aload_n dX4_ofDistrict_80 rfl ?_
  refine w_getI w dX4_ofDistrict_81 fl_X4_175 rfl rfl (by first | rfl | assumption) ?_
  rw [hQ]
  refine g_iret dX4_ofDistrict_84 rfl rfl (by decide) (by decide) ?_
  exact ⟨rfl, rfl⟩
set_option maxRecDepth 100000 in
set_option maxHeartbeats 4000000 in
theorem c_X4_of_0_1 {l : Launch} (hlt : l.stackTraces = false) {N n p : Nat} {ord : List Nat} {L : Nat → Nat → Nat} {Γ : Nat → Nat → Nat → Int32} {o : Nat} {h : am_H} (w : WI N n p ord L Γ o h) {i : Nat} (hi : i < n) : am_Con l yX4_ofDistrict (.code yX4_ofDistrict cX4_ofDistrict 4 (some .int)) 20 0 0 [.ref (L 5 0), .int (nI i), .int (nI 1)] h (fun v h' => v = some (.int (if Γ 0 i 0 = 0 then -1 else Γ 0 i 1)) ∧ h' = h) (fun _ _ => False) := by
  refine am_body hlt (by decide +kernel) (Nat.le_of_ble_eq_true rfl) (fun k hl hR h0 hno => ?_)
  subst hl
  obtain ⟨Qf, hQ⟩ : ∃ Qf, Qf = am_Q k 0 0 (fun v h' => v = some (.int (if Γ 0 i 0 = 0 then -1 else Γ 0 i 1)) ∧ h' = h) (fun _ _ => False) := ⟨_, rfl⟩
  rw [← hQ]
  have hx0 : wdm n p o 5 0 = true := rfl
  have hn0 : wdm n p o 3 0 = true := rfl
  have hn8 : n ≤ 8 := w.1.1
  have hp24 : p ≤ 24 := w.1.2.1
  have ho8 : ord.length ≤ 8 := w.1.2.2.2.2
  have hdi : wdm n p o 2 i = true := decide_eq_true hi
  have hdi1 : wdm n p o 1 i = true := decide_eq_true hi
  have hdi0 : wdm n p o 0 i = true := decide_eq_true hi
  refine g_aload_n dX4_ofDistrict_0 rfl ?_
  refine g_iload_n dX4_ofDistrict_1 rfl ?_
  refine g_callV [_] dX4_ofDistrict_2 mc_X4_75 mi_X4_isNoDistrict se_X4_isNoDistrict (c_isNoDistrict_0 hlt w (by assumption)) (w.k (by first | rfl | assumption)) rfl rfl (Nat.le_of_ble_eq_true rfl) (am_rm hR (by decide)) (fun _ _ z => z) (fun v hx hq hE => ?_)
  obtain ⟨rfl, rfl⟩ := hq
  refine g_if_eq 18 dX4_ofDistrict_5 (by decide) (fun _ => ?_) (fun z => absurd z (by decide))
  refine g_aload_n dX4_ofDistrict_18 rfl ?_
  refine w_getR w dX4_ofDistrict_19 fl_X4_12 rfl rfl (by first | rfl | assumption) rfl ?_
  refine g_iload_n dX4_ofDistrict_22 rfl ?_
  refine g_callV [_] dX4_ofDistrict_23 mc_X4_103 mi_Jx4a65c_get_915e3 se_Jx4a65c_get_915e3 (c_get0 hlt w (by first | assumption | omega)) (w.k (by first | rfl | assumption)) rfl rfl (Nat.le_of_ble_eq_true rfl) (am_rm hR (by decide)) (fun _ _ z => z) (fun v hx hq hE => ?_)
  obtain ⟨rfl, rfl⟩ := hq
  refine g_castS (q := (RX1, TX1, 14)) dX4_ofDistrict_26 kl_X4_66 (w.k (by first | rfl | assumption)) rfl ?_
  refine g_astore_n dX4_ofDistrict_29 (by decide) rfl ?_
  refine g_iload_n dX4_ofDistrict_30 rfl ?_
  refine g_tableIn 85 dX4_ofDistrict_31 (by decide) (by decide) rfl (by decide) ?_
  refine g_aload_n dX4_ofDistrict_85 rfl ?_
  refine w_getR w dX4_ofDistrict_86 fl_X4_112 rfl rfl (by first | rfl | assumption) rfl ?_
  refine w_getI w dX4_ofDistrict_89 fl_X4_116 rfl rfl (by first | rfl | assumption) ?_
  refine g_if_eq 105 dX4_ofDistrict_92 (by decide) (fun c_92 => ?_) (fun c_92 => ?_)
  · skip
    refine g_iconst (v := (-1)) dX4_ofDistrict_105 (by decide) ?_
    rw [hQ]
    refine g_iret dX4_ofDistrict_106 rfl rfl (by decide) (by decide) ?_
    exact ⟨by simp only [reduceIte, c_92], rfl⟩
  · skip
    refine g_aload_n dX4_ofDistrict_95 rfl ?_
    refine w_getR w dX4_ofDistrict_96 fl_X4_112 rfl rfl (by first | rfl | assumption) rfl ?_
    refine w_getI w dX4_ofDistrict_99 fl_X4_121 rfl rfl (by first | rfl | assumption) ?_
    refine g_goto 106 dX4_ofDistrict_102 (by decide) ?_
    rw [hQ]
    refine g_iret dX4_ofDistrict_106 rfl rfl (by decide) (by decide) ?_
    exact ⟨by simp only [reduceIte, c_92], rfl⟩
set_option maxRecDepth 100000 in
set_option maxHeartbeats 4000000 in
theorem c_X4_of_0_2 {l : Launch} (hlt : l.stackTraces = false) {N n p : Nat} {ord : List Nat} {L : Nat → Nat → Nat} {Γ : Nat → Nat → Nat → Int32} {o : Nat} {h : am_H} (w : WI N n p ord L Γ o h) {i : Nat} (hi : i < n) : am_Con l yX4_ofDistrict (.code yX4_ofDistrict cX4_ofDistrict 4 (some .int)) 20 0 0 [.ref (L 5 0), .int (nI i), .int (nI 2)] h (fun v h' => v = some (.int (if Γ 0 i 0 = 0 then -1 else Γ 0 i 2)) ∧ h' = h) (fun _ _ => False) := by
  refine am_body hlt (by decide +kernel) (Nat.le_of_ble_eq_true rfl) (fun k hl hR h0 hno => ?_)
  subst hl
  obtain ⟨Qf, hQ⟩ : ∃ Qf, Qf = am_Q k 0 0 (fun v h' => v = some (.int (if Γ 0 i 0 = 0 then -1 else Γ 0 i 2)) ∧ h' = h) (fun _ _ => False) := ⟨_, rfl⟩
  rw [← hQ]
  have hx0 : wdm n p o 5 0 = true := rfl
  have hn0 : wdm n p o 3 0 = true := rfl
  have hn8 : n ≤ 8 := w.1.1
  have hp24 : p ≤ 24 := w.1.2.1
  have ho8 : ord.length ≤ 8 := w.1.2.2.2.2
  have hdi : wdm n p o 2 i = true := decide_eq_true hi
  have hdi1 : wdm n p o 1 i = true := decide_eq_true hi
  have hdi0 : wdm n p o 0 i = true := decide_eq_true hi
  refine g_aload_n dX4_ofDistrict_0 rfl ?_
  refine g_iload_n dX4_ofDistrict_1 rfl ?_
  refine g_callV [_] dX4_ofDistrict_2 mc_X4_75 mi_X4_isNoDistrict se_X4_isNoDistrict (c_isNoDistrict_0 hlt w (by assumption)) (w.k (by first | rfl | assumption)) rfl rfl (Nat.le_of_ble_eq_true rfl) (am_rm hR (by decide)) (fun _ _ z => z) (fun v hx hq hE => ?_)
  obtain ⟨rfl, rfl⟩ := hq
  refine g_if_eq 18 dX4_ofDistrict_5 (by decide) (fun _ => ?_) (fun z => absurd z (by decide))
  refine g_aload_n dX4_ofDistrict_18 rfl ?_
  refine w_getR w dX4_ofDistrict_19 fl_X4_12 rfl rfl (by first | rfl | assumption) rfl ?_
  refine g_iload_n dX4_ofDistrict_22 rfl ?_
  refine g_callV [_] dX4_ofDistrict_23 mc_X4_103 mi_Jx4a65c_get_915e3 se_Jx4a65c_get_915e3 (c_get0 hlt w (by first | assumption | omega)) (w.k (by first | rfl | assumption)) rfl rfl (Nat.le_of_ble_eq_true rfl) (am_rm hR (by decide)) (fun _ _ z => z) (fun v hx hq hE => ?_)
  obtain ⟨rfl, rfl⟩ := hq
  refine g_castS (q := (RX1, TX1, 14)) dX4_ofDistrict_26 kl_X4_66 (w.k (by first | rfl | assumption)) rfl ?_
  refine g_astore_n dX4_ofDistrict_29 (by decide) rfl ?_
  refine g_iload_n dX4_ofDistrict_30 rfl ?_
  refine g_tableIn 107 dX4_ofDistrict_31 (by decide) (by decide) rfl (by decide) ?_
  refine g_aload_n dX4_ofDistrict_107 rfl ?_
  refine w_getR w dX4_ofDistrict_108 fl_X4_112 rfl rfl (by first | rfl | assumption) rfl ?_
  refine w_getI w dX4_ofDistrict_111 fl_X4_116 rfl rfl (by first | rfl | assumption) ?_
  refine g_if_eq 127 dX4_ofDistrict_114 (by decide) (fun c_114 => ?_) (fun c_114 => ?_)
  · skip
    refine g_iconst (v := (-1)) dX4_ofDistrict_127 (by decide) ?_
    rw [hQ]
    refine g_iret dX4_ofDistrict_128 rfl rfl (by decide) (by decide) ?_
    exact ⟨by simp only [reduceIte, c_114], rfl⟩
  · skip
    refine g_aload_n dX4_ofDistrict_117 rfl ?_
    refine w_getR w dX4_ofDistrict_118 fl_X4_112 rfl rfl (by first | rfl | assumption) rfl ?_
    refine w_getI w dX4_ofDistrict_121 fl_X4_178 rfl rfl (by first | rfl | assumption) ?_
    refine g_goto 128 dX4_ofDistrict_124 (by decide) ?_
    rw [hQ]
    refine g_iret dX4_ofDistrict_128 rfl rfl (by decide) (by decide) ?_
    exact ⟨by simp only [reduceIte, c_114], rfl⟩
set_option maxRecDepth 100000 in
set_option maxHeartbeats 4000000 in
theorem c_X4_of_0_3 {l : Launch} (hlt : l.stackTraces = false) {N n p : Nat} {ord : List Nat} {L : Nat → Nat → Nat} {Γ : Nat → Nat → Nat → Int32} {o : Nat} {h : am_H} (w : WI N n p ord L Γ o h) {i : Nat} (hi : i < n) : am_Con l yX4_ofDistrict (.code yX4_ofDistrict cX4_ofDistrict 4 (some .int)) 20 0 0 [.ref (L 5 0), .int (nI i), .int (nI 3)] h (fun v h' => v = some (.int (Γ 2 i 8)) ∧ h' = h) (fun _ _ => False) := by
  refine am_body hlt (by decide +kernel) (Nat.le_of_ble_eq_true rfl) (fun k hl hR h0 hno => ?_)
  subst hl
  obtain ⟨Qf, hQ⟩ : ∃ Qf, Qf = am_Q k 0 0 (fun v h' => v = some (.int (Γ 2 i 8)) ∧ h' = h) (fun _ _ => False) := ⟨_, rfl⟩
  rw [← hQ]
  have hx0 : wdm n p o 5 0 = true := rfl
  have hn0 : wdm n p o 3 0 = true := rfl
  have hn8 : n ≤ 8 := w.1.1
  have hp24 : p ≤ 24 := w.1.2.1
  have ho8 : ord.length ≤ 8 := w.1.2.2.2.2
  have hdi : wdm n p o 2 i = true := decide_eq_true hi
  have hdi1 : wdm n p o 1 i = true := decide_eq_true hi
  have hdi0 : wdm n p o 0 i = true := decide_eq_true hi
  refine g_aload_n dX4_ofDistrict_0 rfl ?_
  refine g_iload_n dX4_ofDistrict_1 rfl ?_
  refine g_callV [_] dX4_ofDistrict_2 mc_X4_75 mi_X4_isNoDistrict se_X4_isNoDistrict (c_isNoDistrict_0 hlt w (by assumption)) (w.k (by first | rfl | assumption)) rfl rfl (Nat.le_of_ble_eq_true rfl) (am_rm hR (by decide)) (fun _ _ z => z) (fun v hx hq hE => ?_)
  obtain ⟨rfl, rfl⟩ := hq
  refine g_if_eq 18 dX4_ofDistrict_5 (by decide) (fun _ => ?_) (fun z => absurd z (by decide))
  refine g_aload_n dX4_ofDistrict_18 rfl ?_
  refine w_getR w dX4_ofDistrict_19 fl_X4_12 rfl rfl (by first | rfl | assumption) rfl ?_
  refine g_iload_n dX4_ofDistrict_22 rfl ?_
  refine g_callV [_] dX4_ofDistrict_23 mc_X4_103 mi_Jx4a65c_get_915e3 se_Jx4a65c_get_915e3 (c_get0 hlt w (by first | assumption | omega)) (w.k (by first | rfl | assumption)) rfl rfl (Nat.le_of_ble_eq_true rfl) (am_rm hR (by decide)) (fun _ _ z => z) (fun v hx hq hE => ?_)
  obtain ⟨rfl, rfl⟩ := hq
  refine g_castS (q := (RX1, TX1, 14)) dX4_ofDistrict_26 kl_X4_66 (w.k (by first | rfl | assumption)) rfl ?_
  refine g_astore_n dX4_ofDistrict_29 (by decide) rfl ?_
  refine g_iload_n dX4_ofDistrict_30 rfl ?_
  refine g_tableIn 129 dX4_ofDistrict_31 (by decide) (by decide) rfl (by decide) ?_
  refine g_aload_n dX4_ofDistrict_129 rfl ?_
  refine w_getI w dX4_ofDistrict_130 fl_X4_160 rfl rfl (by first | rfl | assumption) ?_
  rw [hQ]
  refine g_iret dX4_ofDistrict_133 rfl rfl (by decide) (by decide) ?_
  exact ⟨rfl, rfl⟩
set_option maxRecDepth 100000 in
set_option maxHeartbeats 4000000 in
theorem c_X4_of_0_4 {l : Launch} (hlt : l.stackTraces = false) {N n p : Nat} {ord : List Nat} {L : Nat → Nat → Nat} {Γ : Nat → Nat → Nat → Int32} {o : Nat} {h : am_H} (w : WI N n p ord L Γ o h) {i : Nat} (hi : i < n) : am_Con l yX4_ofDistrict (.code yX4_ofDistrict cX4_ofDistrict 4 (some .int)) 20 0 0 [.ref (L 5 0), .int (nI i), .int (nI 4)] h (fun v h' => v = some (.int (Γ 2 i 9)) ∧ h' = h) (fun _ _ => False) := by
  refine am_body hlt (by decide +kernel) (Nat.le_of_ble_eq_true rfl) (fun k hl hR h0 hno => ?_)
  subst hl
  obtain ⟨Qf, hQ⟩ : ∃ Qf, Qf = am_Q k 0 0 (fun v h' => v = some (.int (Γ 2 i 9)) ∧ h' = h) (fun _ _ => False) := ⟨_, rfl⟩
  rw [← hQ]
  have hx0 : wdm n p o 5 0 = true := rfl
  have hn0 : wdm n p o 3 0 = true := rfl
  have hn8 : n ≤ 8 := w.1.1
  have hp24 : p ≤ 24 := w.1.2.1
  have ho8 : ord.length ≤ 8 := w.1.2.2.2.2
  have hdi : wdm n p o 2 i = true := decide_eq_true hi
  have hdi1 : wdm n p o 1 i = true := decide_eq_true hi
  have hdi0 : wdm n p o 0 i = true := decide_eq_true hi
  refine g_aload_n dX4_ofDistrict_0 rfl ?_
  refine g_iload_n dX4_ofDistrict_1 rfl ?_
  refine g_callV [_] dX4_ofDistrict_2 mc_X4_75 mi_X4_isNoDistrict se_X4_isNoDistrict (c_isNoDistrict_0 hlt w (by assumption)) (w.k (by first | rfl | assumption)) rfl rfl (Nat.le_of_ble_eq_true rfl) (am_rm hR (by decide)) (fun _ _ z => z) (fun v hx hq hE => ?_)
  obtain ⟨rfl, rfl⟩ := hq
  refine g_if_eq 18 dX4_ofDistrict_5 (by decide) (fun _ => ?_) (fun z => absurd z (by decide))
  refine g_aload_n dX4_ofDistrict_18 rfl ?_
  refine w_getR w dX4_ofDistrict_19 fl_X4_12 rfl rfl (by first | rfl | assumption) rfl ?_
  refine g_iload_n dX4_ofDistrict_22 rfl ?_
  refine g_callV [_] dX4_ofDistrict_23 mc_X4_103 mi_Jx4a65c_get_915e3 se_Jx4a65c_get_915e3 (c_get0 hlt w (by first | assumption | omega)) (w.k (by first | rfl | assumption)) rfl rfl (Nat.le_of_ble_eq_true rfl) (am_rm hR (by decide)) (fun _ _ z => z) (fun v hx hq hE => ?_)
  obtain ⟨rfl, rfl⟩ := hq
  refine g_castS (q := (RX1, TX1, 14)) dX4_ofDistrict_26 kl_X4_66 (w.k (by first | rfl | assumption)) rfl ?_
  refine g_astore_n dX4_ofDistrict_29 (by decide) rfl ?_
  refine g_iload_n dX4_ofDistrict_30 rfl ?_
  refine g_tableIn 134 dX4_ofDistrict_31 (by decide) (by decide) rfl (by decide) ?_
  refine g_aload_n dX4_ofDistrict_134 rfl ?_
  refine w_getI w dX4_ofDistrict_135 fl_X4_181 rfl rfl (by first | rfl | assumption) ?_
  rw [hQ]
  refine g_iret dX4_ofDistrict_138 rfl rfl (by decide) (by decide) ?_
  exact ⟨rfl, rfl⟩
set_option maxRecDepth 100000 in
set_option maxHeartbeats 4000000 in
theorem c_X4_of_0_5 {l : Launch} (hlt : l.stackTraces = false) {N n p : Nat} {ord : List Nat} {L : Nat → Nat → Nat} {Γ : Nat → Nat → Nat → Int32} {o : Nat} {h : am_H} (w : WI N n p ord L Γ o h) {i : Nat} (hi : i < n) : am_Con l yX4_ofDistrict (.code yX4_ofDistrict cX4_ofDistrict 4 (some .int)) 20 0 0 [.ref (L 5 0), .int (nI i), .int (nI 5)] h (fun v h' => v = some (.int (Γ 2 i 10)) ∧ h' = h) (fun _ _ => False) := by
  refine am_body hlt (by decide +kernel) (Nat.le_of_ble_eq_true rfl) (fun k hl hR h0 hno => ?_)
  subst hl
  obtain ⟨Qf, hQ⟩ : ∃ Qf, Qf = am_Q k 0 0 (fun v h' => v = some (.int (Γ 2 i 10)) ∧ h' = h) (fun _ _ => False) := ⟨_, rfl⟩
  rw [← hQ]
  have hx0 : wdm n p o 5 0 = true := rfl
  have hn0 : wdm n p o 3 0 = true := rfl
  have hn8 : n ≤ 8 := w.1.1
  have hp24 : p ≤ 24 := w.1.2.1
  have ho8 : ord.length ≤ 8 := w.1.2.2.2.2
  have hdi : wdm n p o 2 i = true := decide_eq_true hi
  have hdi1 : wdm n p o 1 i = true := decide_eq_true hi
  have hdi0 : wdm n p o 0 i = true := decide_eq_true hi
  refine g_aload_n dX4_ofDistrict_0 rfl ?_
  refine g_iload_n dX4_ofDistrict_1 rfl ?_
  refine g_callV [_] dX4_ofDistrict_2 mc_X4_75 mi_X4_isNoDistrict se_X4_isNoDistrict (c_isNoDistrict_0 hlt w (by assumption)) (w.k (by first | rfl | assumption)) rfl rfl (Nat.le_of_ble_eq_true rfl) (am_rm hR (by decide)) (fun _ _ z => z) (fun v hx hq hE => ?_)
  obtain ⟨rfl, rfl⟩ := hq
  refine g_if_eq 18 dX4_ofDistrict_5 (by decide) (fun _ => ?_) (fun z => absurd z (by decide))
  refine g_aload_n dX4_ofDistrict_18 rfl ?_
  refine w_getR w dX4_ofDistrict_19 fl_X4_12 rfl rfl (by first | rfl | assumption) rfl ?_
  refine g_iload_n dX4_ofDistrict_22 rfl ?_
  refine g_callV [_] dX4_ofDistrict_23 mc_X4_103 mi_Jx4a65c_get_915e3 se_Jx4a65c_get_915e3 (c_get0 hlt w (by first | assumption | omega)) (w.k (by first | rfl | assumption)) rfl rfl (Nat.le_of_ble_eq_true rfl) (am_rm hR (by decide)) (fun _ _ z => z) (fun v hx hq hE => ?_)
  obtain ⟨rfl, rfl⟩ := hq
  refine g_castS (q := (RX1, TX1, 14)) dX4_ofDistrict_26 kl_X4_66 (w.k (by first | rfl | assumption)) rfl ?_
  refine g_astore_n dX4_ofDistrict_29 (by decide) rfl ?_
  refine g_iload_n dX4_ofDistrict_30 rfl ?_
  refine g_tableIn 139 dX4_ofDistrict_31 (by decide) (by decide) rfl (by decide) ?_
  refine g_aload_n dX4_ofDistrict_139 rfl ?_
  refine w_getI w dX4_ofDistrict_140 fl_X4_184 rfl rfl (by first | rfl | assumption) ?_
  rw [hQ]
  refine g_iret dX4_ofDistrict_143 rfl rfl (by decide) (by decide) ?_
  exact ⟨rfl, rfl⟩
set_option maxRecDepth 100000 in
set_option maxHeartbeats 4000000 in
theorem c_X4_of_0_6 {l : Launch} (hlt : l.stackTraces = false) {N n p : Nat} {ord : List Nat} {L : Nat → Nat → Nat} {Γ : Nat → Nat → Nat → Int32} {o : Nat} {h : am_H} (w : WI N n p ord L Γ o h) {i : Nat} (hi : i < n) : am_Con l yX4_ofDistrict (.code yX4_ofDistrict cX4_ofDistrict 4 (some .int)) 20 0 0 [.ref (L 5 0), .int (nI i), .int (nI 6)] h (fun v h' => v = some (.int (Γ 2 i 11)) ∧ h' = h) (fun _ _ => False) := by
  refine am_body hlt (by decide +kernel) (Nat.le_of_ble_eq_true rfl) (fun k hl hR h0 hno => ?_)
  subst hl
  obtain ⟨Qf, hQ⟩ : ∃ Qf, Qf = am_Q k 0 0 (fun v h' => v = some (.int (Γ 2 i 11)) ∧ h' = h) (fun _ _ => False) := ⟨_, rfl⟩
  rw [← hQ]
  have hx0 : wdm n p o 5 0 = true := rfl
  have hn0 : wdm n p o 3 0 = true := rfl
  have hn8 : n ≤ 8 := w.1.1
  have hp24 : p ≤ 24 := w.1.2.1
  have ho8 : ord.length ≤ 8 := w.1.2.2.2.2
  have hdi : wdm n p o 2 i = true := decide_eq_true hi
  have hdi1 : wdm n p o 1 i = true := decide_eq_true hi
  have hdi0 : wdm n p o 0 i = true := decide_eq_true hi
  refine g_aload_n dX4_ofDistrict_0 rfl ?_
  refine g_iload_n dX4_ofDistrict_1 rfl ?_
  refine g_callV [_] dX4_ofDistrict_2 mc_X4_75 mi_X4_isNoDistrict se_X4_isNoDistrict (c_isNoDistrict_0 hlt w (by assumption)) (w.k (by first | rfl | assumption)) rfl rfl (Nat.le_of_ble_eq_true rfl) (am_rm hR (by decide)) (fun _ _ z => z) (fun v hx hq hE => ?_)
  obtain ⟨rfl, rfl⟩ := hq
  refine g_if_eq 18 dX4_ofDistrict_5 (by decide) (fun _ => ?_) (fun z => absurd z (by decide))
  refine g_aload_n dX4_ofDistrict_18 rfl ?_
  refine w_getR w dX4_ofDistrict_19 fl_X4_12 rfl rfl (by first | rfl | assumption) rfl ?_
  refine g_iload_n dX4_ofDistrict_22 rfl ?_
  refine g_callV [_] dX4_ofDistrict_23 mc_X4_103 mi_Jx4a65c_get_915e3 se_Jx4a65c_get_915e3 (c_get0 hlt w (by first | assumption | omega)) (w.k (by first | rfl | assumption)) rfl rfl (Nat.le_of_ble_eq_true rfl) (am_rm hR (by decide)) (fun _ _ z => z) (fun v hx hq hE => ?_)
  obtain ⟨rfl, rfl⟩ := hq
  refine g_castS (q := (RX1, TX1, 14)) dX4_ofDistrict_26 kl_X4_66 (w.k (by first | rfl | assumption)) rfl ?_
  refine g_astore_n dX4_ofDistrict_29 (by decide) rfl ?_
  refine g_iload_n dX4_ofDistrict_30 rfl ?_
  refine g_tableIn 144 dX4_ofDistrict_31 (by decide) (by decide) rfl (by decide) ?_
  refine g_aload_n dX4_ofDistrict_144 rfl ?_
  refine w_getI w dX4_ofDistrict_145 fl_X4_187 rfl rfl (by first | rfl | assumption) ?_
  rw [hQ]
  refine g_iret dX4_ofDistrict_148 rfl rfl (by decide) (by decide) ?_
  exact ⟨rfl, rfl⟩
set_option maxRecDepth 100000 in
set_option maxHeartbeats 4000000 in
theorem c_X4_of_0_7 {l : Launch} (hlt : l.stackTraces = false) {N n p : Nat} {ord : List Nat} {L : Nat → Nat → Nat} {Γ : Nat → Nat → Nat → Int32} {o : Nat} {h : am_H} (w : WI N n p ord L Γ o h) {i : Nat} (hi : i < n) : am_Con l yX4_ofDistrict (.code yX4_ofDistrict cX4_ofDistrict 4 (some .int)) 20 0 0 [.ref (L 5 0), .int (nI i), .int (nI 7)] h (fun v h' => v = some (.int (Γ 2 i 12)) ∧ h' = h) (fun _ _ => False) := by
  refine am_body hlt (by decide +kernel) (Nat.le_of_ble_eq_true rfl) (fun k hl hR h0 hno => ?_)
  subst hl
  obtain ⟨Qf, hQ⟩ : ∃ Qf, Qf = am_Q k 0 0 (fun v h' => v = some (.int (Γ 2 i 12)) ∧ h' = h) (fun _ _ => False) := ⟨_, rfl⟩
  rw [← hQ]
  have hx0 : wdm n p o 5 0 = true := rfl
  have hn0 : wdm n p o 3 0 = true := rfl
  have hn8 : n ≤ 8 := w.1.1
  have hp24 : p ≤ 24 := w.1.2.1
  have ho8 : ord.length ≤ 8 := w.1.2.2.2.2
  have hdi : wdm n p o 2 i = true := decide_eq_true hi
  have hdi1 : wdm n p o 1 i = true := decide_eq_true hi
  have hdi0 : wdm n p o 0 i = true := decide_eq_true hi
  refine g_aload_n dX4_ofDistrict_0 rfl ?_
  refine g_iload_n dX4_ofDistrict_1 rfl ?_
  refine g_callV [_] dX4_ofDistrict_2 mc_X4_75 mi_X4_isNoDistrict se_X4_isNoDistrict (c_isNoDistrict_0 hlt w (by assumption)) (w.k (by first | rfl | assumption)) rfl rfl (Nat.le_of_ble_eq_true rfl) (am_rm hR (by decide)) (fun _ _ z => z) (fun v hx hq hE => ?_)
  obtain ⟨rfl, rfl⟩ := hq
  refine g_if_eq 18 dX4_ofDistrict_5 (by decide) (fun _ => ?_) (fun z => absurd z (by decide))
  refine g_aload_n dX4_ofDistrict_18 rfl ?_
  refine w_getR w dX4_ofDistrict_19 fl_X4_12 rfl rfl (by first | rfl | assumption) rfl ?_
  refine g_iload_n dX4_ofDistrict_22 rfl ?_
  refine g_callV [_] dX4_ofDistrict_23 mc_X4_103 mi_Jx4a65c_get_915e3 se_Jx4a65c_get_915e3 (c_get0 hlt w (by first | assumption | omega)) (w.k (by first | rfl | assumption)) rfl rfl (Nat.le_of_ble_eq_true rfl) (am_rm hR (by decide)) (fun _ _ z => z) (fun v hx hq hE => ?_)
  obtain ⟨rfl, rfl⟩ := hq
  refine g_castS (q := (RX1, TX1, 14)) dX4_ofDistrict_26 kl_X4_66 (w.k (by first | rfl | assumption)) rfl ?_
  refine g_astore_n dX4_ofDistrict_29 (by decide) rfl ?_
  refine g_iload_n dX4_ofDistrict_30 rfl ?_
  refine g_tableIn 149 dX4_ofDistrict_31 (by decide) (by decide) rfl (by decide) ?_
  refine g_aload_n dX4_ofDistrict_149 rfl ?_
  refine w_getI w dX4_ofDistrict_150 fl_X4_190 rfl rfl (by first | rfl | assumption) ?_
  rw [hQ]
  refine g_iret dX4_ofDistrict_153 rfl rfl (by decide) (by decide) ?_
  exact ⟨rfl, rfl⟩
set_option maxRecDepth 100000 in
set_option maxHeartbeats 4000000 in
theorem c_X4_of_0_8 {l : Launch} (hlt : l.stackTraces = false) {N n p : Nat} {ord : List Nat} {L : Nat → Nat → Nat} {Γ : Nat → Nat → Nat → Int32} {o : Nat} {h : am_H} (w : WI N n p ord L Γ o h) {i : Nat} (hi : i < n) : am_Con l yX4_ofDistrict (.code yX4_ofDistrict cX4_ofDistrict 4 (some .int)) 20 0 0 [.ref (L 5 0), .int (nI i), .int (nI 8)] h (fun v h' => v = some (.int (Γ 2 i 13)) ∧ h' = h) (fun _ _ => False) := by
  refine am_body hlt (by decide +kernel) (Nat.le_of_ble_eq_true rfl) (fun k hl hR h0 hno => ?_)
  subst hl
  obtain ⟨Qf, hQ⟩ : ∃ Qf, Qf = am_Q k 0 0 (fun v h' => v = some (.int (Γ 2 i 13)) ∧ h' = h) (fun _ _ => False) := ⟨_, rfl⟩
  rw [← hQ]
  have hx0 : wdm n p o 5 0 = true := rfl
  have hn0 : wdm n p o 3 0 = true := rfl
  have hn8 : n ≤ 8 := w.1.1
  have hp24 : p ≤ 24 := w.1.2.1
  have ho8 : ord.length ≤ 8 := w.1.2.2.2.2
  have hdi : wdm n p o 2 i = true := decide_eq_true hi
  have hdi1 : wdm n p o 1 i = true := decide_eq_true hi
  have hdi0 : wdm n p o 0 i = true := decide_eq_true hi
  refine g_aload_n dX4_ofDistrict_0 rfl ?_
  refine g_iload_n dX4_ofDistrict_1 rfl ?_
  refine g_callV [_] dX4_ofDistrict_2 mc_X4_75 mi_X4_isNoDistrict se_X4_isNoDistrict (c_isNoDistrict_0 hlt w (by assumption)) (w.k (by first | rfl | assumption)) rfl rfl (Nat.le_of_ble_eq_true rfl) (am_rm hR (by decide)) (fun _ _ z => z) (fun v hx hq hE => ?_)
  obtain ⟨rfl, rfl⟩ := hq
  refine g_if_eq 18 dX4_ofDistrict_5 (by decide) (fun _ => ?_) (fun z => absurd z (by decide))
  refine g_aload_n dX4_ofDistrict_18 rfl ?_
  refine w_getR w dX4_ofDistrict_19 fl_X4_12 rfl rfl (by first | rfl | assumption) rfl ?_
  refine g_iload_n dX4_ofDistrict_22 rfl ?_
  refine g_callV [_] dX4_ofDistrict_23 mc_X4_103 mi_Jx4a65c_get_915e3 se_Jx4a65c_get_915e3 (c_get0 hlt w (by first | assumption | omega)) (w.k (by first | rfl | assumption)) rfl rfl (Nat.le_of_ble_eq_true rfl) (am_rm hR (by decide)) (fun _ _ z => z) (fun v hx hq hE => ?_)
  obtain ⟨rfl, rfl⟩ := hq
  refine g_castS (q := (RX1, TX1, 14)) dX4_ofDistrict_26 kl_X4_66 (w.k (by first | rfl | assumption)) rfl ?_
  refine g_astore_n dX4_ofDistrict_29 (by decide) rfl ?_
  refine g_iload_n dX4_ofDistrict_30 rfl ?_
  refine g_tableIn 154 dX4_ofDistrict_31 (by decide) (by decide) rfl (by decide) ?_
  refine g_aload_n dX4_ofDistrict_154 rfl ?_
  refine w_getI w dX4_ofDistrict_155 fl_X4_193 rfl rfl (by first | rfl | assumption) ?_
  rw [hQ]
  refine g_iret dX4_ofDistrict_158 rfl rfl (by decide) (by decide) ?_
  exact ⟨rfl, rfl⟩
set_option maxRecDepth 100000 in
set_option maxHeartbeats 4000000 in
theorem c_X4_place_1 {l : Launch} (hlt : l.stackTraces = false) {N n p : Nat} {ord : List Nat} {L : Nat → Nat → Nat} {Γ : Nat → Nat → Nat → Int32} {o : Nat} {h : am_H} (w : WI N n p ord L Γ o h) {a : Int32} (hb : a < 0 ∨ nI n ≤ a) : am_Con l yX4_place (.code yX4_place cX4_place 3 (some .int)) 20 1 6 [.ref (L 5 0), .int a] h (fun v h' => False) (fun E h' => E = "java/lang/IndexOutOfBoundsException" ∧ h' = h) := by
  refine am_body hlt (by decide +kernel) (Nat.le_of_ble_eq_true rfl) (fun k hl hR h0 hno => ?_)
  subst hl
  obtain ⟨Qf, hQ⟩ : ∃ Qf, Qf = am_Q k 1 6 (fun v h' => False) (fun E h' => E = "java/lang/IndexOutOfBoundsException" ∧ h' = h) := ⟨_, rfl⟩
  rw [← hQ]
  have hx0 : wdm n p o 5 0 = true := rfl
  have hn0 : wdm n p o 3 0 = true := rfl
  have hn8 : n ≤ 8 := w.1.1
  have hp24 : p ≤ 24 := w.1.2.1
  have ho8 : ord.length ≤ 8 := w.1.2.2.2.2
  refine g_aload_n dX4_place_0 rfl ?_
  refine g_iload_n dX4_place_1 rfl ?_
  refine g_callV [_] dX4_place_2 mc_X4_75 mi_X4_isNoDistrict se_X4_isNoDistrict (c_isNoDistrict_1 hlt w (by assumption)) (w.k (by first | rfl | assumption)) rfl rfl (Nat.le_of_ble_eq_true rfl) (am_rm hR (by decide)) (fun _ _ z => z) (fun v hx hq hE => ?_)
  obtain ⟨rfl, rfl⟩ := hq
  refine g_if_eq 18 dX4_place_5 (by decide) (fun z => absurd z (by decide)) (fun _ => ?_)
  rw [hQ]
  refine g_throw (text := "no such district") dX4_place_8 dX4_place_11 dX4_place_12 dX4_place_14 dX4_place_17 tw_79 (by simp [am_strs]) hno (by rw [hR]; decide) (by rw [hR]; exact Nat.le_of_ble_eq_true rfl) (by rw [hR]; decide) (by rw [hR]; decide) (by decide) (by decide) ?_
  exact ⟨rfl, rfl⟩
set_option maxRecDepth 100000 in
set_option maxHeartbeats 4000000 in
theorem c_X4_place_0 {l : Launch} (hlt : l.stackTraces = false) {N n p : Nat} {ord : List Nat} {L : Nat → Nat → Nat} {Γ : Nat → Nat → Nat → Int32} {o : Nat} {h : am_H} (w : WI N n p ord L Γ o h) {i : Nat} (hi : i < n) : am_Con l yX4_place (.code yX4_place cX4_place 3 (some .int)) 20 0 0 [.ref (L 5 0), .int (nI i)] h (fun v h' => v = some (.int (if Γ 0 i 0 = 0 then -1 else sp_sum (fun j => if sp_ahead Γ (ord.getD j 0) i = 0 then 0 else 1) ord.length)) ∧ h' = h) (fun _ _ => False) := by
  refine am_body hlt (by decide +kernel) (Nat.le_of_ble_eq_true rfl) (fun k hl hR h0 hno => ?_)
  subst hl
  obtain ⟨Qf, hQ⟩ : ∃ Qf, Qf = am_Q k 0 0 (fun v h' => v = some (.int (if Γ 0 i 0 = 0 then -1 else sp_sum (fun j => if sp_ahead Γ (ord.getD j 0) i = 0 then 0 else 1) ord.length)) ∧ h' = h) (fun _ _ => False) := ⟨_, rfl⟩
  rw [← hQ]
  have hx0 : wdm n p o 5 0 = true := rfl
  have hn0 : wdm n p o 3 0 = true := rfl
  have hn8 : n ≤ 8 := w.1.1
  have hp24 : p ≤ 24 := w.1.2.1
  have ho8 : ord.length ≤ 8 := w.1.2.2.2.2
  have hdi : wdm n p o 2 i = true := decide_eq_true hi
  have hdi1 : wdm n p o 1 i = true := decide_eq_true hi
  have hdi0 : wdm n p o 0 i = true := decide_eq_true hi
  refine g_aload_n dX4_place_0 rfl ?_
  refine g_iload_n dX4_place_1 rfl ?_
  refine g_callV [_] dX4_place_2 mc_X4_75 mi_X4_isNoDistrict se_X4_isNoDistrict (c_isNoDistrict_0 hlt w (by assumption)) (w.k (by first | rfl | assumption)) rfl rfl (Nat.le_of_ble_eq_true rfl) (am_rm hR (by decide)) (fun _ _ z => z) (fun v hx hq hE => ?_)
  obtain ⟨rfl, rfl⟩ := hq
  refine g_if_eq 18 dX4_place_5 (by decide) (fun _ => ?_) (fun z => absurd z (by decide))
  refine g_aload_n dX4_place_18 rfl ?_
  refine w_getR w dX4_place_19 fl_X4_12 rfl rfl (by first | rfl | assumption) rfl ?_
  refine g_iload_n dX4_place_22 rfl ?_
  refine g_callV [_] dX4_place_23 mc_X4_103 mi_Jx4a65c_get_915e3 se_Jx4a65c_get_915e3 (c_get0 hlt w (by first | assumption | omega)) (w.k (by first | rfl | assumption)) rfl rfl (Nat.le_of_ble_eq_true rfl) (am_rm hR (by decide)) (fun _ _ z => z) (fun v hx hq hE => ?_)
  obtain ⟨rfl, rfl⟩ := hq
  refine g_castS (q := (RX1, TX1, 14)) dX4_place_26 kl_X4_66 (w.k (by first | rfl | assumption)) rfl ?_
  refine g_astore_n dX4_place_29 (by decide) rfl ?_
  refine g_aload_n dX4_place_30 rfl ?_
  refine w_getR w dX4_place_31 fl_X4_112 rfl rfl (by first | rfl | assumption) rfl ?_
  refine w_getI w dX4_place_34 fl_X4_116 rfl rfl (by first | rfl | assumption) ?_
  refine g_if_eq 48 dX4_place_37 (by decide) (fun c_37 => ?_) (fun c_37 => ?_)
  · skip
    refine g_iconst (v := (-1)) dX4_place_48 (by decide) ?_
    rw [hQ]
    refine g_iret dX4_place_49 rfl rfl (by decide) (by decide) ?_
    exact ⟨by simp only [reduceIte, c_37], rfl⟩
  · skip
    refine g_aload_n dX4_place_40 rfl ?_
    refine g_aload_n dX4_place_41 rfl ?_
    refine g_callV [_] dX4_place_42 mc_X4_198 mi_X4_bidsAheadOf se_X4_bidsAheadOf (c_X4_bidsAheadOf hlt w (by assumption)) (w.k (by first | rfl | assumption)) rfl rfl (Nat.le_of_ble_eq_true rfl) (am_rm hR (by decide)) (fun _ _ z => z) (fun v hx hq hE => ?_)
    obtain ⟨rfl, rfl⟩ := hq
    refine g_goto 49 dX4_place_45 (by decide) ?_
    rw [hQ]
    refine g_iret dX4_place_49 rfl rfl (by decide) (by decide) ?_
    exact ⟨by simp only [reduceIte, c_37], rfl⟩
set_option maxRecDepth 100000 in
set_option maxHeartbeats 4000000 in
theorem c_X4_flowAnew_1 {l : Launch} (hlt : l.stackTraces = false) {N n p : Nat} {ord : List Nat} {L : Nat → Nat → Nat} {Γ : Nat → Nat → Nat → Int32} {o : Nat} {h : am_H} (w : WI N n p ord L Γ o h) {a : Int32} (hb : a < 0 ∨ nI n ≤ a) : am_Con l yX4_flowAnew (.code yX4_flowAnew cX4_flowAnew 4 (some .int)) 20 1 6 [.ref (L 5 0), .int a] h (fun v h' => False) (fun E h' => E = "java/lang/IndexOutOfBoundsException" ∧ h' = h) := by
  refine am_body hlt (by decide +kernel) (Nat.le_of_ble_eq_true rfl) (fun k hl hR h0 hno => ?_)
  subst hl
  obtain ⟨Qf, hQ⟩ : ∃ Qf, Qf = am_Q k 1 6 (fun v h' => False) (fun E h' => E = "java/lang/IndexOutOfBoundsException" ∧ h' = h) := ⟨_, rfl⟩
  rw [← hQ]
  have hx0 : wdm n p o 5 0 = true := rfl
  have hn0 : wdm n p o 3 0 = true := rfl
  have hn8 : n ≤ 8 := w.1.1
  have hp24 : p ≤ 24 := w.1.2.1
  have ho8 : ord.length ≤ 8 := w.1.2.2.2.2
  refine g_aload_n dX4_flowAnew_0 rfl ?_
  refine g_iload_n dX4_flowAnew_1 rfl ?_
  refine g_callV [_] dX4_flowAnew_2 mc_X4_75 mi_X4_isNoDistrict se_X4_isNoDistrict (c_isNoDistrict_1 hlt w (by assumption)) (w.k (by first | rfl | assumption)) rfl rfl (Nat.le_of_ble_eq_true rfl) (am_rm hR (by decide)) (fun _ _ z => z) (fun v hx hq hE => ?_)
  obtain ⟨rfl, rfl⟩ := hq
  refine g_if_eq 18 dX4_flowAnew_5 (by decide) (fun z => absurd z (by decide)) (fun _ => ?_)
  rw [hQ]
  refine g_throw (text := "no such district") dX4_flowAnew_8 dX4_flowAnew_11 dX4_flowAnew_12 dX4_flowAnew_14 dX4_flowAnew_17 tw_79 (by simp [am_strs]) hno (by rw [hR]; decide) (by rw [hR]; exact Nat.le_of_ble_eq_true rfl) (by rw [hR]; decide) (by rw [hR]; decide) (by decide) (by decide) ?_
  exact ⟨rfl, rfl⟩
set_option maxRecDepth 100000 in
set_option maxHeartbeats 4000000 in
theorem c_X4_flowAnew_0a {l : Launch} (hlt : l.stackTraces = false) {N n p : Nat} {ord : List Nat} {L : Nat → Nat → Nat} {Γ : Nat → Nat → Nat → Int32} {o : Nat} {h : am_H} (w : WI N n p ord L Γ o h) {i : Nat} (hi : i < n) (hf : Γ 5 0 5 = 0) : am_Con l yX4_flowAnew (.code yX4_flowAnew cX4_flowAnew 4 (some .int)) 20 0 0 [.ref (L 5 0), .int (nI i)] h (fun v h' => v = some (.int 0) ∧ h' = h) (fun _ _ => False) := by
  refine am_body hlt (by decide +kernel) (Nat.le_of_ble_eq_true rfl) (fun k hl hR h0 hno => ?_)
  subst hl
  obtain ⟨Qf, hQ⟩ : ∃ Qf, Qf = am_Q k 0 0 (fun v h' => v = some (.int 0) ∧ h' = h) (fun _ _ => False) := ⟨_, rfl⟩
  rw [← hQ]
  have hx0 : wdm n p o 5 0 = true := rfl
  have hn0 : wdm n p o 3 0 = true := rfl
  have hn8 : n ≤ 8 := w.1.1
  have hp24 : p ≤ 24 := w.1.2.1
  have ho8 : ord.length ≤ 8 := w.1.2.2.2.2
  have hdi : wdm n p o 2 i = true := decide_eq_true hi
  have hdi1 : wdm n p o 1 i = true := decide_eq_true hi
  have hdi0 : wdm n p o 0 i = true := decide_eq_true hi
  refine g_aload_n dX4_flowAnew_0 rfl ?_
  refine g_iload_n dX4_flowAnew_1 rfl ?_
  refine g_callV [_] dX4_flowAnew_2 mc_X4_75 mi_X4_isNoDistrict se_X4_isNoDistrict (c_isNoDistrict_0 hlt w (by assumption)) (w.k (by first | rfl | assumption)) rfl rfl (Nat.le_of_ble_eq_true rfl) (am_rm hR (by decide)) (fun _ _ z => z) (fun v hx hq hE => ?_)
  obtain ⟨rfl, rfl⟩ := hq
  refine g_if_eq 18 dX4_flowAnew_5 (by decide) (fun _ => ?_) (fun z => absurd z (by decide))
  refine g_aload_n dX4_flowAnew_18 rfl ?_
  refine w_getR w dX4_flowAnew_19 fl_X4_12 rfl rfl (by first | rfl | assumption) rfl ?_
  refine g_iload_n dX4_flowAnew_22 rfl ?_
  refine g_callV [_] dX4_flowAnew_23 mc_X4_103 mi_Jx4a65c_get_915e3 se_Jx4a65c_get_915e3 (c_get0 hlt w (by first | assumption | omega)) (w.k (by first | rfl | assumption)) rfl rfl (Nat.le_of_ble_eq_true rfl) (am_rm hR (by decide)) (fun _ _ z => z) (fun v hx hq hE => ?_)
  obtain ⟨rfl, rfl⟩ := hq
  refine g_castS (q := (RX1, TX1, 14)) dX4_flowAnew_26 kl_X4_66 (w.k (by first | rfl | assumption)) rfl ?_
  refine g_astore_n dX4_flowAnew_29 (by decide) rfl ?_
  refine g_aload_n dX4_flowAnew_30 rfl ?_
  refine w_getI w dX4_flowAnew_31 fl_X4_33 rfl rfl (by first | rfl | assumption) ?_
  refine g_if_eq 47 dX4_flowAnew_34 (by decide) (fun c_34 => ?_) (fun z => absurd hf z)
  refine g_iconst (v := 0) dX4_flowAnew_47 (by decide) ?_
  rw [hQ]
  refine g_iret dX4_flowAnew_48 rfl rfl (by decide) (by decide) ?_
  exact ⟨rfl, rfl⟩
set_option maxRecDepth 100000 in
set_option maxHeartbeats 4000000 in
theorem c_X4_flowAnew_0b {l : Launch} (hlt : l.stackTraces = false) {N n p : Nat} {ord : List Nat} {L : Nat → Nat → Nat} {Γ : Nat → Nat → Nat → Int32} {o : Nat} {h : am_H} (w : WI N n p ord L Γ o h) {i : Nat} (hi : i < n) (hf : ¬ Γ 5 0 5 = 0) (hs : Γ 0 i 0 = 0) : am_Con l yX4_flowAnew (.code yX4_flowAnew cX4_flowAnew 4 (some .int)) 20 0 0 [.ref (L 5 0), .int (nI i)] h (fun v h' => v = some (.int 0) ∧ h' = h) (fun _ _ => False) := by
  refine am_body hlt (by decide +kernel) (Nat.le_of_ble_eq_true rfl) (fun k hl hR h0 hno => ?_)
  subst hl
  obtain ⟨Qf, hQ⟩ : ∃ Qf, Qf = am_Q k 0 0 (fun v h' => v = some (.int 0) ∧ h' = h) (fun _ _ => False) := ⟨_, rfl⟩
  rw [← hQ]
  have hx0 : wdm n p o 5 0 = true := rfl
  have hn0 : wdm n p o 3 0 = true := rfl
  have hn8 : n ≤ 8 := w.1.1
  have hp24 : p ≤ 24 := w.1.2.1
  have ho8 : ord.length ≤ 8 := w.1.2.2.2.2
  have hdi : wdm n p o 2 i = true := decide_eq_true hi
  have hdi1 : wdm n p o 1 i = true := decide_eq_true hi
  have hdi0 : wdm n p o 0 i = true := decide_eq_true hi
  refine g_aload_n dX4_flowAnew_0 rfl ?_
  refine g_iload_n dX4_flowAnew_1 rfl ?_
  refine g_callV [_] dX4_flowAnew_2 mc_X4_75 mi_X4_isNoDistrict se_X4_isNoDistrict (c_isNoDistrict_0 hlt w (by assumption)) (w.k (by first | rfl | assumption)) rfl rfl (Nat.le_of_ble_eq_true rfl) (am_rm hR (by decide)) (fun _ _ z => z) (fun v hx hq hE => ?_)
  obtain ⟨rfl, rfl⟩ := hq
  refine g_if_eq 18 dX4_flowAnew_5 (by decide) (fun _ => ?_) (fun z => absurd z (by decide))
  refine g_aload_n dX4_flowAnew_18 rfl ?_
  refine w_getR w dX4_flowAnew_19 fl_X4_12 rfl rfl (by first | rfl | assumption) rfl ?_
  refine g_iload_n dX4_flowAnew_22 rfl ?_
  refine g_callV [_] dX4_flowAnew_23 mc_X4_103 mi_Jx4a65c_get_915e3 se_Jx4a65c_get_915e3 (c_get0 hlt w (by first | assumption | omega)) (w.k (by first | rfl | assumption)) rfl rfl (Nat.le_of_ble_eq_true rfl) (am_rm hR (by decide)) (fun _ _ z => z) (fun v hx hq hE => ?_)
  obtain ⟨rfl, rfl⟩ := hq
  refine g_castS (q := (RX1, TX1, 14)) dX4_flowAnew_26 kl_X4_66 (w.k (by first | rfl | assumption)) rfl ?_
  refine g_astore_n dX4_flowAnew_29 (by decide) rfl ?_
  refine g_aload_n dX4_flowAnew_30 rfl ?_
  refine w_getI w dX4_flowAnew_31 fl_X4_33 rfl rfl (by first | rfl | assumption) ?_
  refine g_if_eq 47 dX4_flowAnew_34 (by decide) (fun z => absurd z hf) (fun c_34 => ?_)
  refine g_aload_n dX4_flowAnew_37 rfl ?_
  refine w_getR w dX4_flowAnew_38 fl_X4_112 rfl rfl (by first | rfl | assumption) rfl ?_
  refine w_getI w dX4_flowAnew_41 fl_X4_116 rfl rfl (by first | rfl | assumption) ?_
  refine g_if_ne 49 dX4_flowAnew_44 (by decide) (fun z => absurd hs z) (fun c_44 => ?_)
  refine g_iconst (v := 0) dX4_flowAnew_47 (by decide) ?_
  rw [hQ]
  refine g_iret dX4_flowAnew_48 rfl rfl (by decide) (by decide) ?_
  exact ⟨rfl, rfl⟩
set_option maxRecDepth 100000 in
set_option maxHeartbeats 4000000 in
theorem c_X4_count_1 {l : Launch} (hlt : l.stackTraces = false) {N n p : Nat} {ord : List Nat} {L : Nat → Nat → Nat} {Γ : Nat → Nat → Nat → Int32} {o : Nat} {h : am_H} (w : WI N n p ord L Γ o h) {b : Int32} (bb : b < 0 ∨ nI 8 ≤ b) : am_Con l yX4_count (.code yX4_count cX4_count 2 (some .int)) 20 1 6 [.ref (L 5 0), .int b] h (fun v h' => False) (fun E h' => E = "java/lang/IllegalArgumentException" ∧ h' = h) := by
  refine am_body hlt (by decide +kernel) (Nat.le_of_ble_eq_true rfl) (fun k hl hR h0 hno => ?_)
  subst hl
  obtain ⟨Qf, hQ⟩ : ∃ Qf, Qf = am_Q k 1 6 (fun v h' => False) (fun E h' => E = "java/lang/IllegalArgumentException" ∧ h' = h) := ⟨_, rfl⟩
  rw [← hQ]
  have hx0 : wdm n p o 5 0 = true := rfl
  have hn0 : wdm n p o 3 0 = true := rfl
  have hn8 : n ≤ 8 := w.1.1
  have hp24 : p ≤ 24 := w.1.2.1
  have ho8 : ord.length ≤ 8 := w.1.2.2.2.2
  refine g_iload_n dX4_count_0 rfl ?_
  refine g_tableOut 103 dX4_count_1 (sw_out (m := 7) (by decide) bb (by decide)) (by decide) ?_
  rw [hQ]
  refine g_throw (text := "what is out of range") dX4_count_103 dX4_count_106 dX4_count_107 dX4_count_109 dX4_count_112 tw_50 (by simp [am_strs]) hno (by rw [hR]; decide) (by rw [hR]; exact Nat.le_of_ble_eq_true rfl) (by rw [hR]; decide) (by rw [hR]; decide) (by decide) (by decide) ?_
  exact ⟨rfl, rfl⟩
set_option maxRecDepth 100000 in
set_option maxHeartbeats 4000000 in
theorem c_X4_count_0_0 {l : Launch} (hlt : l.stackTraces = false) {N n p : Nat} {ord : List Nat} {L : Nat → Nat → Nat} {Γ : Nat → Nat → Nat → Int32} {o : Nat} {h : am_H} (w : WI N n p ord L Γ o h)  : am_Con l yX4_count (.code yX4_count cX4_count 2 (some .int)) 20 0 0 [.ref (L 5 0), .int (nI 0)] h (fun v h' => v = some (.int (nI n)) ∧ h' = h) (fun _ _ => False) := by
  refine am_body hlt (by decide +kernel) (Nat.le_of_ble_eq_true rfl) (fun k hl hR h0 hno => ?_)
  subst hl
  obtain ⟨Qf, hQ⟩ : ∃ Qf, Qf = am_Q k 0 0 (fun v h' => v = some (.int (nI n)) ∧ h' = h) (fun _ _ => False) := ⟨_, rfl⟩
  rw [← hQ]
  have hx0 : wdm n p o 5 0 = true := rfl
  have hn0 : wdm n p o 3 0 = true := rfl
  have hn8 : n ≤ 8 := w.1.1
  have hp24 : p ≤ 24 := w.1.2.1
  have ho8 : ord.length ≤ 8 := w.1.2.2.2.2
  refine g_iload_n dX4_count_0 rfl ?_
  refine g_tableIn 48 dX4_count_1 (by decide) (by decide) rfl (by decide) ?_
  refine g_aload_n dX4_count_48 rfl ?_
  refine w_getR w dX4_count_49 fl_X4_12 rfl rfl (by first | rfl | assumption) rfl ?_
  refine g_callV [] dX4_count_52 mc_X4_57 mi_Jx4a65c_size_8abf5 se_Jx4a65c_size_8abf5 (c_size0 hlt w) (w.k (by first | rfl | assumption)) rfl rfl (Nat.le_of_ble_eq_true rfl) (am_rm hR (by decide)) (fun _ _ z => z) (fun v hx hq hE => ?_)
  obtain ⟨rfl, rfl⟩ := hq
  rw [hQ]
  refine g_iret dX4_count_55 rfl rfl (by decide) (by decide) ?_
  exact ⟨rfl, rfl⟩
set_option maxRecDepth 100000 in
set_option maxHeartbeats 4000000 in
theorem c_X4_count_0_1 {l : Launch} (hlt : l.stackTraces = false) {N n p : Nat} {ord : List Nat} {L : Nat → Nat → Nat} {Γ : Nat → Nat → Nat → Int32} {o : Nat} {h : am_H} (w : WI N n p ord L Γ o h)  : am_Con l yX4_count (.code yX4_count cX4_count 2 (some .int)) 20 0 0 [.ref (L 5 0), .int (nI 1)] h (fun v h' => v = some (.int (nI p)) ∧ h' = h) (fun _ _ => False) := by
  refine am_body hlt (by decide +kernel) (Nat.le_of_ble_eq_true rfl) (fun k hl hR h0 hno => ?_)
  subst hl
  obtain ⟨Qf, hQ⟩ : ∃ Qf, Qf = am_Q k 0 0 (fun v h' => v = some (.int (nI p)) ∧ h' = h) (fun _ _ => False) := ⟨_, rfl⟩
  rw [← hQ]
  have hx0 : wdm n p o 5 0 = true := rfl
  have hn0 : wdm n p o 3 0 = true := rfl
  have hn8 : n ≤ 8 := w.1.1
  have hp24 : p ≤ 24 := w.1.2.1
  have ho8 : ord.length ≤ 8 := w.1.2.2.2.2
  refine g_iload_n dX4_count_0 rfl ?_
  refine g_tableIn 56 dX4_count_1 (by decide) (by decide) rfl (by decide) ?_
  refine g_aload_n dX4_count_56 rfl ?_
  refine w_getR w dX4_count_57 fl_X4_19 rfl rfl (by first | rfl | assumption) rfl ?_
  refine w_getR w dX4_count_60 fl_X4_86 rfl rfl (by first | rfl | assumption) rfl ?_
  refine g_callV [] dX4_count_63 mc_X4_57 mi_Jx4a65c_size_8abf5 se_Jx4a65c_size_8abf5 (c_size2 hlt w) (w.k (by first | rfl | assumption)) rfl rfl (Nat.le_of_ble_eq_true rfl) (am_rm hR (by decide)) (fun _ _ z => z) (fun v hx hq hE => ?_)
  obtain ⟨rfl, rfl⟩ := hq
  rw [hQ]
  refine g_iret dX4_count_66 rfl rfl (by decide) (by decide) ?_
  exact ⟨rfl, rfl⟩
set_option maxRecDepth 100000 in
set_option maxHeartbeats 4000000 in
theorem c_X4_count_0_2 {l : Launch} (hlt : l.stackTraces = false) {N n p : Nat} {ord : List Nat} {L : Nat → Nat → Nat} {Γ : Nat → Nat → Nat → Int32} {o : Nat} {h : am_H} (w : WI N n p ord L Γ o h)  : am_Con l yX4_count (.code yX4_count cX4_count 2 (some .int)) 20 0 0 [.ref (L 5 0), .int (nI 2)] h (fun v h' => v = some (.int (sp_sum (fun j => if Γ 4 j 3 = 0 then 0 else 1) p)) ∧ h' = h) (fun _ _ => False) := by
  refine am_body hlt (by decide +kernel) (Nat.le_of_ble_eq_true rfl) (fun k hl hR h0 hno => ?_)
  subst hl
  obtain ⟨Qf, hQ⟩ : ∃ Qf, Qf = am_Q k 0 0 (fun v h' => v = some (.int (sp_sum (fun j => if Γ 4 j 3 = 0 then 0 else 1) p)) ∧ h' = h) (fun _ _ => False) := ⟨_, rfl⟩
  rw [← hQ]
  have hx0 : wdm n p o 5 0 = true := rfl
  have hn0 : wdm n p o 3 0 = true := rfl
  have hn8 : n ≤ 8 := w.1.1
  have hp24 : p ≤ 24 := w.1.2.1
  have ho8 : ord.length ≤ 8 := w.1.2.2.2.2
  refine g_iload_n dX4_count_0 rfl ?_
  refine g_tableIn 67 dX4_count_1 (by decide) (by decide) rfl (by decide) ?_
  refine g_aload_n dX4_count_67 rfl ?_
  refine w_getR w dX4_count_68 fl_X4_19 rfl rfl (by first | rfl | assumption) rfl ?_
  refine g_callV [] dX4_count_71 mc_X4_218 mi_X2_countBurst se_X2_countBurst (c_X2_countBurst hlt w) (w.k (by first | rfl | assumption)) rfl rfl (Nat.le_of_ble_eq_true rfl) (am_rm hR (by decide)) (fun _ _ z => z) (fun v hx hq hE => ?_)
  obtain ⟨rfl, rfl⟩ := hq
  rw [hQ]
  refine g_iret dX4_count_74 rfl rfl (by decide) (by decide) ?_
  exact ⟨rfl, rfl⟩
set_option maxRecDepth 100000 in
set_option maxHeartbeats 4000000 in
theorem c_X4_count_0_3 {l : Launch} (hlt : l.stackTraces = false) {N n p : Nat} {ord : List Nat} {L : Nat → Nat → Nat} {Γ : Nat → Nat → Nat → Int32} {o : Nat} {h : am_H} (w : WI N n p ord L Γ o h)  : am_Con l yX4_count (.code yX4_count cX4_count 2 (some .int)) 20 0 0 [.ref (L 5 0), .int (nI 3)] h (fun v h' => v = some (.int (nI ord.length)) ∧ h' = h) (fun _ _ => False) := by
  refine am_body hlt (by decide +kernel) (Nat.le_of_ble_eq_true rfl) (fun k hl hR h0 hno => ?_)
  subst hl
  obtain ⟨Qf, hQ⟩ : ∃ Qf, Qf = am_Q k 0 0 (fun v h' => v = some (.int (nI ord.length)) ∧ h' = h) (fun _ _ => False) := ⟨_, rfl⟩
  rw [← hQ]
  have hx0 : wdm n p o 5 0 = true := rfl
  have hn0 : wdm n p o 3 0 = true := rfl
  have hn8 : n ≤ 8 := w.1.1
  have hp24 : p ≤ 24 := w.1.2.1
  have ho8 : ord.length ≤ 8 := w.1.2.2.2.2
  refine g_iload_n dX4_count_0 rfl ?_
  refine g_tableIn 75 dX4_count_1 (by decide) (by decide) rfl (by decide) ?_
  refine g_aload_n dX4_count_75 rfl ?_
  refine w_getR w dX4_count_76 fl_X4_23 rfl rfl (by first | rfl | assumption) rfl ?_
  refine g_callV [] dX4_count_79 mc_X4_57 mi_Jx4a65c_size_8abf5 se_Jx4a65c_size_8abf5 (c_size1 hlt w) (w.k (by first | rfl | assumption)) rfl rfl (Nat.le_of_ble_eq_true rfl) (am_rm hR (by decide)) (fun _ _ z => z) (fun v hx hq hE => ?_)
  obtain ⟨rfl, rfl⟩ := hq
  rw [hQ]
  refine g_iret dX4_count_82 rfl rfl (by decide) (by decide) ?_
  exact ⟨rfl, rfl⟩
set_option maxRecDepth 100000 in
set_option maxHeartbeats 4000000 in
theorem c_X4_count_0_4 {l : Launch} (hlt : l.stackTraces = false) {N n p : Nat} {ord : List Nat} {L : Nat → Nat → Nat} {Γ : Nat → Nat → Nat → Int32} {o : Nat} {h : am_H} (w : WI N n p ord L Γ o h)  : am_Con l yX4_count (.code yX4_count cX4_count 2 (some .int)) 20 0 0 [.ref (L 5 0), .int (nI 4)] h (fun v h' => v = some (.int (sp_sum (fun j => Γ 2 j 8) n)) ∧ h' = h) (fun _ _ => False) := by
  refine am_body hlt (by decide +kernel) (Nat.le_of_ble_eq_true rfl) (fun k hl hR h0 hno => ?_)
  subst hl
  obtain ⟨Qf, hQ⟩ : ∃ Qf, Qf = am_Q k 0 0 (fun v h' => v = some (.int (sp_sum (fun j => Γ 2 j 8) n)) ∧ h' = h) (fun _ _ => False) := ⟨_, rfl⟩
  rw [← hQ]
  have hx0 : wdm n p o 5 0 = true := rfl
  have hn0 : wdm n p o 3 0 = true := rfl
  have hn8 : n ≤ 8 := w.1.1
  have hp24 : p ≤ 24 := w.1.2.1
  have ho8 : ord.length ≤ 8 := w.1.2.2.2.2
  refine g_iload_n dX4_count_0 rfl ?_
  refine g_tableIn 83 dX4_count_1 (by decide) (by decide) rfl (by decide) ?_
  refine g_aload_n dX4_count_83 rfl ?_
  refine g_callV [] dX4_count_84 mc_X4_221 mi_X4_sumGot se_X4_sumGot (c_X4_sumGot hlt w) (w.k (by first | rfl | assumption)) rfl rfl (Nat.le_of_ble_eq_true rfl) (am_rm hR (by decide)) (fun _ _ z => z) (fun v hx hq hE => ?_)
  obtain ⟨rfl, rfl⟩ := hq
  rw [hQ]
  refine g_iret dX4_count_87 rfl rfl (by decide) (by decide) ?_
  exact ⟨rfl, rfl⟩
set_option maxRecDepth 100000 in
set_option maxHeartbeats 4000000 in
theorem c_X4_count_0_5 {l : Launch} (hlt : l.stackTraces = false) {N n p : Nat} {ord : List Nat} {L : Nat → Nat → Nat} {Γ : Nat → Nat → Nat → Int32} {o : Nat} {h : am_H} (w : WI N n p ord L Γ o h)  : am_Con l yX4_count (.code yX4_count cX4_count 2 (some .int)) 20 0 0 [.ref (L 5 0), .int (nI 5)] h (fun v h' => v = some (.int (sp_sum (fun j => Γ 2 j 3) n)) ∧ h' = h) (fun _ _ => False) := by
  refine am_body hlt (by decide +kernel) (Nat.le_of_ble_eq_true rfl) (fun k hl hR h0 hno => ?_)
  subst hl
  obtain ⟨Qf, hQ⟩ : ∃ Qf, Qf = am_Q k 0 0 (fun v h' => v = some (.int (sp_sum (fun j => Γ 2 j 3) n)) ∧ h' = h) (fun _ _ => False) := ⟨_, rfl⟩
  rw [← hQ]
  have hx0 : wdm n p o 5 0 = true := rfl
  have hn0 : wdm n p o 3 0 = true := rfl
  have hn8 : n ≤ 8 := w.1.1
  have hp24 : p ≤ 24 := w.1.2.1
  have ho8 : ord.length ≤ 8 := w.1.2.2.2.2
  refine g_iload_n dX4_count_0 rfl ?_
  refine g_tableIn 88 dX4_count_1 (by decide) (by decide) rfl (by decide) ?_
  refine g_aload_n dX4_count_88 rfl ?_
  refine g_callV [] dX4_count_89 mc_X4_224 mi_X4_sumWater se_X4_sumWater (c_X4_sumWater hlt w) (w.k (by first | rfl | assumption)) rfl rfl (Nat.le_of_ble_eq_true rfl) (am_rm hR (by decide)) (fun _ _ z => z) (fun v hx hq hE => ?_)
  obtain ⟨rfl, rfl⟩ := hq
  rw [hQ]
  refine g_iret dX4_count_92 rfl rfl (by decide) (by decide) ?_
  exact ⟨rfl, rfl⟩
set_option maxRecDepth 100000 in
set_option maxHeartbeats 4000000 in
theorem c_X4_count_0_6 {l : Launch} (hlt : l.stackTraces = false) {N n p : Nat} {ord : List Nat} {L : Nat → Nat → Nat} {Γ : Nat → Nat → Nat → Int32} {o : Nat} {h : am_H} (w : WI N n p ord L Γ o h)  : am_Con l yX4_count (.code yX4_count cX4_count 2 (some .int)) 20 0 0 [.ref (L 5 0), .int (nI 6)] h (fun v h' => v = some (.int (sp_sum (fun j => Γ 2 j 9 - Γ 2 j 10) n)) ∧ h' = h) (fun _ _ => False) := by
  refine am_body hlt (by decide +kernel) (Nat.le_of_ble_eq_true rfl) (fun k hl hR h0 hno => ?_)
  subst hl
  obtain ⟨Qf, hQ⟩ : ∃ Qf, Qf = am_Q k 0 0 (fun v h' => v = some (.int (sp_sum (fun j => Γ 2 j 9 - Γ 2 j 10) n)) ∧ h' = h) (fun _ _ => False) := ⟨_, rfl⟩
  rw [← hQ]
  have hx0 : wdm n p o 5 0 = true := rfl
  have hn0 : wdm n p o 3 0 = true := rfl
  have hn8 : n ≤ 8 := w.1.1
  have hp24 : p ≤ 24 := w.1.2.1
  have ho8 : ord.length ≤ 8 := w.1.2.2.2.2
  refine g_iload_n dX4_count_0 rfl ?_
  refine g_tableIn 93 dX4_count_1 (by decide) (by decide) rfl (by decide) ?_
  refine g_aload_n dX4_count_93 rfl ?_
  refine g_callV [] dX4_count_94 mc_X4_227 mi_X4_sumPaidLessPaidBack se_X4_sumPaidLessPaidBack (c_X4_sumPaid hlt w) (w.k (by first | rfl | assumption)) rfl rfl (Nat.le_of_ble_eq_true rfl) (am_rm hR (by decide)) (fun _ _ z => z) (fun v hx hq hE => ?_)
  obtain ⟨rfl, rfl⟩ := hq
  rw [hQ]
  refine g_iret dX4_count_97 rfl rfl (by decide) (by decide) ?_
  exact ⟨rfl, rfl⟩
set_option maxRecDepth 100000 in
set_option maxHeartbeats 4000000 in
theorem c_X4_count_0_7 {l : Launch} (hlt : l.stackTraces = false) {N n p : Nat} {ord : List Nat} {L : Nat → Nat → Nat} {Γ : Nat → Nat → Nat → Int32} {o : Nat} {h : am_H} (w : WI N n p ord L Γ o h)  : am_Con l yX4_count (.code yX4_count cX4_count 2 (some .int)) 20 0 0 [.ref (L 5 0), .int (nI 7)] h (fun v h' => v = some (.int (Γ 5 0 8)) ∧ h' = h) (fun _ _ => False) := by
  refine am_body hlt (by decide +kernel) (Nat.le_of_ble_eq_true rfl) (fun k hl hR h0 hno => ?_)
  subst hl
  obtain ⟨Qf, hQ⟩ : ∃ Qf, Qf = am_Q k 0 0 (fun v h' => v = some (.int (Γ 5 0 8)) ∧ h' = h) (fun _ _ => False) := ⟨_, rfl⟩
  rw [← hQ]
  have hx0 : wdm n p o 5 0 = true := rfl
  have hn0 : wdm n p o 3 0 = true := rfl
  have hn8 : n ≤ 8 := w.1.1
  have hp24 : p ≤ 24 := w.1.2.1
  have ho8 : ord.length ≤ 8 := w.1.2.2.2.2
  refine g_iload_n dX4_count_0 rfl ?_
  refine g_tableIn 98 dX4_count_1 (by decide) (by decide) rfl (by decide) ?_
  refine g_aload_n dX4_count_98 rfl ?_
  refine w_getI w dX4_count_99 fl_X4_43 rfl rfl (by first | rfl | assumption) ?_
  rw [hQ]
  refine g_iret dX4_count_102 rfl rfl (by decide) (by decide) ?_
  exact ⟨rfl, rfl⟩
