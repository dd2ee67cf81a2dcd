set_option maxRecDepth 100000 in
set_option maxHeartbeats 4000000 in
theorem c_X0_set_t {l : Launch} (hlt : l.stackTraces = false) {N n p : Nat} {ord : List Nat} {L : Nat → Nat → Nat} {Γ : Nat → Nat → Nat → Int32} {o : Nat} {h : am_H} (w : WI N n p ord L Γ o h) {i : Nat} (hi : wdm n p o 1 i = true) (a b c : Int32) : am_Con l yX0_set (.code yX0_set cX0_set 4 none) 1 0 0 [.ref (L 1 i), .int a, .int b, .int c] h (fun v h' => v = none ∧ WI N n p ord L (u3 (u3 (u3 (u3 Γ 1 i 0 1) 1 i 1 a) 1 i 2 b) 1 i 3 c) o h') (fun _ _ => False) := by
  refine am_body hlt (by decide +kernel) (Nat.le_of_ble_eq_true rfl) (fun k hl hR h0 hno => ?_)
  subst hl
  refine g_aload_n dX0_set_0 rfl ?_
  refine g_iconst (v := 1) dX0_set_1 (by decide) ?_
  refine w_putI w dX0_set_2 fl_X0_7 rfl rfl (by decide) (fun q hq => by cases hq; rfl) (by assumption) rfl rfl (fun h1 w1 => ?_)
  refine g_aload_n dX0_set_5 rfl ?_
  refine g_iload_n dX0_set_6 rfl ?_
  refine w_putI w1 dX0_set_7 fl_X0_13 rfl rfl (by decide) (fun q hq => by cases hq; rfl) (by assumption) rfl rfl (fun h2 w2 => ?_)
  refine g_aload_n dX0_set_10 rfl ?_
  refine g_iload_n dX0_set_11 rfl ?_
  refine w_putI w2 dX0_set_12 fl_X0_17 rfl rfl (by decide) (fun q hq => by cases hq; rfl) (by assumption) rfl rfl (fun h3 w3 => ?_)
  refine g_aload_n dX0_set_15 rfl ?_
  refine g_iload_n dX0_set_16 rfl ?_
  refine w_putI w3 dX0_set_17 fl_X0_20 rfl rfl (by decide) (fun q hq => by cases hq; rfl) (by assumption) rfl rfl (fun h4 w4 => ?_)
  refine g_vret dX0_set_20 rfl (by decide) (by decide) ?_
  exact ⟨rfl, w4⟩
set_option maxRecDepth 100000 in
set_option maxHeartbeats 4000000 in
theorem c_X0_set_s {l : Launch} (hlt : l.stackTraces = false) {N n p : Nat} {ord : List Nat} {L : Nat → Nat → Nat} {Γ : Nat → Nat → Nat → Int32} {o : Nat} {h : am_H} (w : WI N n p ord L Γ o h) {i : Nat} (hi : wdm n p o 0 i = true) (a b c : Int32) : am_Con l yX0_set (.code yX0_set cX0_set 4 none) 1 0 0 [.ref (L 0 i), .int a, .int b, .int c] h (fun v h' => v = none ∧ WI N n p ord L (u3 (u3 (u3 (u3 Γ 0 i 0 1) 0 i 1 a) 0 i 2 b) 0 i 3 c) o h') (fun _ _ => False) := by
  refine am_body hlt (by decide +kernel) (Nat.le_of_ble_eq_true rfl) (fun k hl hR h0 hno => ?_)
  subst hl
  refine g_aload_n dX0_set_0 rfl ?_
  refine g_iconst (v := 1) dX0_set_1 (by decide) ?_
  refine w_putI w dX0_set_2 fl_X0_7 rfl rfl (by decide) (fun q hq => by cases hq; rfl) (by assumption) rfl rfl (fun h1 w1 => ?_)
  refine g_aload_n dX0_set_5 rfl ?_
  refine g_iload_n dX0_set_6 rfl ?_
  refine w_putI w1 dX0_set_7 fl_X0_13 rfl rfl (by decide) (fun q hq => by cases hq; rfl) (by assumption) rfl rfl (fun h2 w2 => ?_)
  refine g_aload_n dX0_set_10 rfl ?_
  refine g_iload_n dX0_set_11 rfl ?_
  refine w_putI w2 dX0_set_12 fl_X0_17 rfl rfl (by decide) (fun q hq => by cases hq; rfl) (by assumption) rfl rfl (fun h3 w3 => ?_)
  refine g_aload_n dX0_set_15 rfl ?_
  refine g_iload_n dX0_set_16 rfl ?_
  refine w_putI w3 dX0_set_17 fl_X0_20 rfl rfl (by decide) (fun q hq => by cases hq; rfl) (by assumption) rfl rfl (fun h4 w4 => ?_)
  refine g_vret dX0_set_20 rfl (by decide) (by decide) ?_
  exact ⟨rfl, w4⟩
/-- the bid that stands of i is ahead of that of j: 1 or 0 -/
def sp_ahead (Γ : Nat → Nat → Nat → Int32) (i j : Nat) : Int32 := if Γ 0 i 1 = Γ 0 j 1 then (if Γ 0 j 3 ≤ Γ 0 i 3 then 0 else 1) else (if Γ 0 i 1 ≤ Γ 0 j 1 then 0 else 1)
def sp_silent (Γ : Nat → Nat → Nat → Int32) (i : Nat) : Nat → Nat → Nat → Int32 := if Γ 1 i 0 = 0 then (if Γ 2 i 6 = 0 then u3 Γ 2 i 6 1 else u3 (u3 Γ 0 i 0 0) 2 i 6 1) else u3 (u3 (u3 (u3 (u3 (u3 Γ 0 i 0 1) 0 i 1 (Γ 1 i 1)) 0 i 2 (Γ 1 i 2)) 0 i 3 (Γ 1 i 3)) 1 i 0 0) 2 i 6 0
set_option maxRecDepth 100000 in
set_option maxHeartbeats 4000000 in
theorem c_X0_isAheadOf {l : Launch} (hlt : l.stackTraces = false) {N n p : Nat} {ord : List Nat} {L : Nat → Nat → Nat} {Γ : Nat → Nat → Nat → Int32} {o : Nat} {h : am_H} (w : WI N n p ord L Γ o h) {i j : Nat} (hi : wdm n p o 0 i = true) (hj : wdm n p o 0 j = true) : am_Con l yX0_isAheadOf (.code yX0_isAheadOf cX0_isAheadOf 2 (some .boolean)) 1 0 0 [.ref (L 0 i), .ref (L 0 j)] h (fun v h' => v = some (.int (sp_ahead Γ i j)) ∧ h' = h) (fun _ _ => False) := by
  refine am_body hlt (by decide +kernel) (Nat.le_of_ble_eq_true rfl) (fun k hl hR h0 hno => ?_)
  subst hl
  refine g_aload_n dX0_isAheadOf_0 rfl ?_
  refine w_getI w dX0_isAheadOf_1 fl_X0_13 rfl rfl (by assumption) ?_
  refine g_aload_n dX0_isAheadOf_4 rfl ?_
  refine w_getI w dX0_isAheadOf_5 fl_X0_13 rfl rfl (by assumption) ?_
  refine g_icmp_eq 30 dX0_isAheadOf_8 (by decide) (fun c_8 => ?_) (fun c_8 => ?_)
  · skip
    refine g_aload_n dX0_isAheadOf_30 rfl ?_
    refine w_getI w dX0_isAheadOf_31 fl_X0_20 rfl rfl (by assumption) ?_
    refine g_aload_n dX0_isAheadOf_34 rfl ?_
    refine w_getI w dX0_isAheadOf_35 fl_X0_20 rfl rfl (by assumption) ?_
    refine g_icmp_ge 45 dX0_isAheadOf_38 (by decide) (fun c_38 => ?_) (fun c_38 => ?_)
    · skip
      refine g_iconst (v := 0) dX0_isAheadOf_45 (by decide) ?_
      refine g_iret dX0_isAheadOf_46 rfl rfl (by decide) (by decide) ?_
      exact ⟨by unfold sp_ahead; simp only [reduceIte, c_8, c_38], rfl⟩
    · skip
      refine g_iconst (v := 1) dX0_isAheadOf_41 (by decide) ?_
      refine g_goto 46 dX0_isAheadOf_42 (by decide) ?_
      refine g_iret dX0_isAheadOf_46 rfl rfl (by decide) (by decide) ?_
      exact ⟨by unfold sp_ahead; simp only [reduceIte, c_8, c_38], rfl⟩
  · skip
    refine g_aload_n dX0_isAheadOf_11 rfl ?_
    refine w_getI w dX0_isAheadOf_12 fl_X0_13 rfl rfl (by assumption) ?_
    refine g_aload_n dX0_isAheadOf_15 rfl ?_
    refine w_getI w dX0_isAheadOf_16 fl_X0_13 rfl rfl (by assumption) ?_
    refine g_icmp_le 26 dX0_isAheadOf_19 (by decide) (fun c_19 => ?_) (fun c_19 => ?_)
    · skip
      refine g_iconst (v := 0) dX0_isAheadOf_26 (by decide) ?_
      refine g_goto 46 dX0_isAheadOf_27 (by decide) ?_
      refine g_iret dX0_isAheadOf_46 rfl rfl (by decide) (by decide) ?_
      exact ⟨by unfold sp_ahead; simp only [reduceIte, c_8, c_19], rfl⟩
    · skip
      refine g_iconst (v := 1) dX0_isAheadOf_22 (by decide) ?_
      refine g_goto 46 dX0_isAheadOf_23 (by decide) ?_
      refine g_iret dX0_isAheadOf_46 rfl rfl (by decide) (by decide) ?_
      exact ⟨by unfold sp_ahead; simp only [reduceIte, c_8, c_19], rfl⟩
set_option maxRecDepth 100000 in
set_option maxHeartbeats 4000000 in
theorem c_X1_settleRound {l : Launch} (hlt : l.stackTraces = false) {N n p : Nat} {ord : List Nat} {L : Nat → Nat → Nat} {Γ : Nat → Nat → Nat → Int32} {o : Nat} {h : am_H} (w : WI N n p ord L Γ o h) {i : Nat} (hi : wdm n p o 2 i = true) : am_Con l yX1_settleRound (.code yX1_settleRound cX1_settleRound 1 none) 2 0 0 [.ref (L 2 i)] h (fun v h' => v = none ∧ WI N n p ord L (sp_silent Γ i) o h') (fun _ _ => False) := by
  refine am_body hlt (by decide +kernel) (Nat.le_of_ble_eq_true rfl) (fun k hl hR h0 hno => ?_)
  subst hl
  refine g_aload_n dX1_settleRound_0 rfl ?_
  refine w_getR w dX1_settleRound_1 fl_X1_20 rfl rfl (by assumption) rfl ?_
  refine w_getI w dX1_settleRound_4 fl_X1_57 rfl rfl (by assumption) ?_
  refine g_if_eq 54 dX1_settleRound_7 (by decide) (fun c_7 => ?_) (fun c_7 => ?_)
  · skip
    refine g_aload_n dX1_settleRound_54 rfl ?_
    refine w_getI w dX1_settleRound_55 fl_X1_23 rfl rfl (by assumption) ?_
    refine g_if_eq 69 dX1_settleRound_58 (by decide) (fun c_58 => ?_) (fun c_58 => ?_)
    · skip
      refine g_aload_n dX1_settleRound_69 rfl ?_
      refine g_iconst (v := 1) dX1_settleRound_70 (by decide) ?_
      refine w_putI w dX1_settleRound_71 fl_X1_23 rfl rfl (by decide) (fun q hq => by cases hq; rfl) (by assumption) rfl rfl (fun h1 w1 => ?_)
      refine g_vret dX1_settleRound_74 rfl (by decide) (by decide) ?_
      exact ⟨rfl, by unfold sp_silent; simp only [reduceIte, c_7, c_58]; exact w1⟩
    · skip
      refine g_aload_n dX1_settleRound_61 rfl ?_
      refine w_getR w dX1_settleRound_62 fl_X1_16 rfl rfl (by assumption) rfl ?_
      refine g_iconst (v := 0) dX1_settleRound_65 (by decide) ?_
      refine w_putI w dX1_settleRound_66 fl_X1_57 rfl rfl (by decide) (fun q hq => by cases hq; rfl) (by assumption) rfl rfl (fun h2 w2 => ?_)
      refine g_aload_n dX1_settleRound_69 rfl ?_
      refine g_iconst (v := 1) dX1_settleRound_70 (by decide) ?_
      refine w_putI w2 dX1_settleRound_71 fl_X1_23 rfl rfl (by decide) (fun q hq => by cases hq; rfl) (by assumption) rfl rfl (fun h3 w3 => ?_)
      refine g_vret dX1_settleRound_74 rfl (by decide) (by decide) ?_
      exact ⟨rfl, by unfold sp_silent; simp only [reduceIte, c_7, c_58]; exact w3⟩
  · skip
    refine g_aload_n dX1_settleRound_10 rfl ?_
    refine w_getR w dX1_settleRound_11 fl_X1_16 rfl rfl (by assumption) rfl ?_
    refine g_aload_n dX1_settleRound_14 rfl ?_
    refine w_getR w dX1_settleRound_15 fl_X1_20 rfl rfl (by assumption) rfl ?_
    refine w_getI w dX1_settleRound_18 fl_X1_60 rfl rfl (by assumption) ?_
    refine g_aload_n dX1_settleRound_21 rfl ?_
    refine w_getR w dX1_settleRound_22 fl_X1_20 rfl rfl (by assumption) rfl ?_
    refine w_getI w dX1_settleRound_25 fl_X1_63 rfl rfl (by assumption) ?_
    refine g_aload_n dX1_settleRound_28 rfl ?_
    refine w_getR w dX1_settleRound_29 fl_X1_20 rfl rfl (by assumption) rfl ?_
    refine w_getI w dX1_settleRound_32 fl_X1_66 rfl rfl (by assumption) ?_
    refine g_callV [_, _, _] dX1_settleRound_35 mc_X1_69 mi_X0_set se_X0_set (c_X0_set_s hlt w (by assumption) _ _ _) (w.k (by assumption)) rfl rfl (by decide) (am_rm hR (by decide)) (fun _ _ z => z) (fun v hx hq hE => ?_)
    obtain ⟨rfl, w4⟩ := hq
    refine g_aload_n dX1_settleRound_38 rfl ?_
    refine w_getR w4 dX1_settleRound_39 fl_X1_20 rfl rfl (by assumption) rfl ?_
    refine g_iconst (v := 0) dX1_settleRound_42 (by decide) ?_
    refine w_putI w4 dX1_settleRound_43 fl_X1_57 rfl rfl (by decide) (fun q hq => by cases hq; rfl) (by assumption) rfl rfl (fun h5 w5 => ?_)
    refine g_aload_n dX1_settleRound_46 rfl ?_
    refine g_iconst (v := 0) dX1_settleRound_47 (by decide) ?_
    refine w_putI w5 dX1_settleRound_48 fl_X1_23 rfl rfl (by decide) (fun q hq => by cases hq; rfl) (by assumption) rfl rfl (fun h6 w6 => ?_)
    refine g_goto 74 dX1_settleRound_51 (by decide) ?_
    refine g_vret dX1_settleRound_74 rfl (by decide) (by decide) ?_
    exact ⟨rfl, by unfold sp_silent; simp only [reduceIte, c_7]; exact w6⟩
set_option maxRecDepth 100000 in
set_option maxHeartbeats 4000000 in
theorem c_X1_pay {l : Launch} (hlt : l.stackTraces = false) {N n p : Nat} {ord : List Nat} {L : Nat → Nat → Nat} {Γ : Nat → Nat → Nat → Int32} {o : Nat} {h : am_H} (w : WI N n p ord L Γ o h) {i : Nat} (hi : wdm n p o 2 i = true) : am_Con l yX1_pay (.code yX1_pay cX1_pay 1 none) 1 0 0 [.ref (L 2 i)] h (fun v h' => v = none ∧ WI N n p ord L (u3 Γ 2 i 9 (Γ 2 i 9 + Γ 0 i 1 * Γ 2 i 8)) o h') (fun _ _ => False) := by
  refine am_body hlt (by decide +kernel) (Nat.le_of_ble_eq_true rfl) (fun k hl hR h0 hno => ?_)
  subst hl
  refine g_aload_n dX1_pay_0 rfl ?_
  refine g_dup dX1_pay_1 rfl ?_
  refine w_getI w dX1_pay_2 fl_X1_33 rfl rfl (by assumption) ?_
  refine g_aload_n dX1_pay_5 rfl ?_
  refine w_getR w dX1_pay_6 fl_X1_16 rfl rfl (by assumption) rfl ?_
  refine w_getI w dX1_pay_9 fl_X1_60 rfl rfl (by assumption) ?_
  refine g_aload_n dX1_pay_12 rfl ?_
  refine w_getI w dX1_pay_13 fl_X1_30 rfl rfl (by assumption) ?_
  refine g_imul dX1_pay_16 ?_
  refine g_iadd dX1_pay_17 ?_
  refine w_putI w dX1_pay_18 fl_X1_33 rfl rfl (by decide) (fun q hq => by cases hq; rfl) (by assumption) rfl rfl (fun h1 w1 => ?_)
  refine g_vret dX1_pay_21 rfl (by decide) (by decide) ?_
  exact ⟨rfl, w1⟩
set_option maxRecDepth 100000 in
set_option maxHeartbeats 4000000 in
theorem c_X1_takeBackPay {l : Launch} (hlt : l.stackTraces = false) {N n p : Nat} {ord : List Nat} {L : Nat → Nat → Nat} {Γ : Nat → Nat → Nat → Int32} {o : Nat} {h : am_H} (w : WI N n p ord L Γ o h) {i : Nat} (hi : wdm n p o 2 i = true) : am_Con l yX1_takeBackPay (.code yX1_takeBackPay cX1_takeBackPay 3 (some .int)) 1 0 0 [.ref (L 2 i)] h (fun v h' => v = some (.int (Γ 2 i 7 - Γ 2 i 8)) ∧ WI N n p ord L (u3 Γ 2 i 10 (Γ 2 i 10 + (Γ 0 i 1 * (Γ 2 i 7 - Γ 2 i 8) + Γ 0 i 1 * (Γ 2 i 7 - Γ 2 i 8) / 10))) o h') (fun _ _ => False) := by
  refine am_body hlt (by decide +kernel) (Nat.le_of_ble_eq_true rfl) (fun k hl hR h0 hno => ?_)
  subst hl
  refine g_aload_n dX1_takeBackPay_0 rfl ?_
  refine w_getI w dX1_takeBackPay_1 fl_X1_27 rfl rfl (by assumption) ?_
  refine g_aload_n dX1_takeBackPay_4 rfl ?_
  refine w_getI w dX1_takeBackPay_5 fl_X1_30 rfl rfl (by assumption) ?_
  refine g_isub dX1_takeBackPay_8 ?_
  refine g_istore_n dX1_takeBackPay_9 (by decide) rfl ?_
  refine g_aload_n dX1_takeBackPay_10 rfl ?_
  refine w_getR w dX1_takeBackPay_11 fl_X1_16 rfl rfl (by assumption) rfl ?_
  refine w_getI w dX1_takeBackPay_14 fl_X1_60 rfl rfl (by assumption) ?_
  refine g_iload_n dX1_takeBackPay_17 rfl ?_
  refine g_imul dX1_takeBackPay_18 ?_
  refine g_istore_n dX1_takeBackPay_19 (by decide) rfl ?_
  refine g_aload_n dX1_takeBackPay_20 rfl ?_
  refine g_dup dX1_takeBackPay_21 rfl ?_
  refine w_getI w dX1_takeBackPay_22 fl_X1_36 rfl rfl (by assumption) ?_
  refine g_iload_n dX1_takeBackPay_25 rfl ?_
  refine g_iload_n dX1_takeBackPay_26 rfl ?_
  refine g_bipush (v := 10) dX1_takeBackPay_27 (by decide) ?_
  refine g_idiv dX1_takeBackPay_29 (by decide) ?_
  refine g_iadd dX1_takeBackPay_30 ?_
  refine g_iadd dX1_takeBackPay_31 ?_
  refine w_putI w dX1_takeBackPay_32 fl_X1_36 rfl rfl (by decide) (fun q hq => by cases hq; rfl) (by assumption) rfl rfl (fun h1 w1 => ?_)
  refine g_iload_n dX1_takeBackPay_35 rfl ?_
  refine g_iret dX1_takeBackPay_36 rfl rfl (by decide) (by decide) ?_
  exact ⟨rfl, w1⟩
def sp_min (x y : Int32) : Int32 := if y < x then y else x
def sp_store (Γ : Nat → Nat → Nat → Int32) (i : Nat) : Nat → Nat → Nat → Int32 := u3 (u3 Γ 2 i 3 (Γ 2 i 3 + sp_min (Γ 2 i 8) (Γ 2 i 1 - Γ 2 i 3))) 2 i 13 (Γ 2 i 13 + (Γ 2 i 8 - sp_min (Γ 2 i 8) (Γ 2 i 1 - Γ 2 i 3)))
def sp_take (Γ : Nat → Nat → Nat → Int32) (i : Nat) : Nat → Nat → Nat → Int32 := u3 (u3 (u3 Γ 2 i 3 (Γ 2 i 3 - sp_min (Γ 2 i 2) (Γ 2 i 3))) 2 i 11 (Γ 2 i 11 + sp_min (Γ 2 i 2) (Γ 2 i 3))) 2 i 12 (Γ 2 i 12 + (Γ 2 i 2 - sp_min (Γ 2 i 2) (Γ 2 i 3)))
set_option maxRecDepth 100000 in
set_option maxHeartbeats 4000000 in
theorem c_X1_store {l : Launch} (hlt : l.stackTraces = false) {N n p : Nat} {ord : List Nat} {L : Nat → Nat → Nat} {Γ : Nat → Nat → Nat → Int32} {o : Nat} {h : am_H} (w : WI N n p ord L Γ o h) {i : Nat} (hi : wdm n p o 2 i = true) : am_Con l yX1_store (.code yX1_store cX1_store 2 none) 1 0 0 [.ref (L 2 i)] h (fun v h' => v = none ∧ WI N n p ord L (sp_store Γ i) o h') (fun _ _ => False) := by
  refine am_body hlt (by decide +kernel) (Nat.le_of_ble_eq_true rfl) (fun k hl hR h0 hno => ?_)
  subst hl
  refine g_aload_n dX1_store_0 rfl ?_
  refine w_getI w dX1_store_1 fl_X1_30 rfl rfl (by assumption) ?_
  refine g_aload_n dX1_store_4 rfl ?_
  refine w_getI w dX1_store_5 fl_X1_51 rfl rfl (by assumption) ?_
  refine g_aload_n dX1_store_8 rfl ?_
  refine w_getI w dX1_store_9 fl_X1_7 rfl rfl (by assumption) ?_
  refine g_isub dX1_store_12 ?_
  refine g_min dX1_store_13 ml_X1_73 ms_min ini_Math mcode_min (by rw [hR]; decide) (by rw [hR]; decide) (by rw [hR]; decide) (by rw [hR]; decide) ?_
  refine g_istore_n dX1_store_16 (by decide) rfl ?_
  refine g_aload_n dX1_store_17 rfl ?_
  refine g_dup dX1_store_18 rfl ?_
  refine w_getI w dX1_store_19 fl_X1_7 rfl rfl (by assumption) ?_
  refine g_iload_n dX1_store_22 rfl ?_
  refine g_iadd dX1_store_23 ?_
  refine w_putI w dX1_store_24 fl_X1_7 rfl rfl (by decide) (fun q hq => by cases hq; rfl) (by assumption) rfl rfl (fun h1 w1 => ?_)
  refine g_aload_n dX1_store_27 rfl ?_
  refine g_dup dX1_store_28 rfl ?_
  refine w_getI w1 dX1_store_29 fl_X1_45 rfl rfl (by assumption) ?_
  refine g_aload_n dX1_store_32 rfl ?_
  refine w_getI w1 dX1_store_33 fl_X1_30 rfl rfl (by assumption) ?_
  refine g_iload_n dX1_store_36 rfl ?_
  refine g_isub dX1_store_37 ?_
  refine g_iadd dX1_store_38 ?_
  refine w_putI w1 dX1_store_39 fl_X1_45 rfl rfl (by decide) (fun q hq => by cases hq; rfl) (by assumption) rfl rfl (fun h2 w2 => ?_)
  refine g_vret dX1_store_42 rfl (by decide) (by decide) ?_
  exact ⟨rfl, by simpa [sp_store, sp_min, u3_ap] using w2⟩
set_option maxRecDepth 100000 in
set_option maxHeartbeats 4000000 in
theorem c_X1_takeNeed {l : Launch} (hlt : l.stackTraces = false) {N n p : Nat} {ord : List Nat} {L : Nat → Nat → Nat} {Γ : Nat → Nat → Nat → Int32} {o : Nat} {h : am_H} (w : WI N n p ord L Γ o h) {i : Nat} (hi : wdm n p o 2 i = true) : am_Con l yX1_takeNeed (.code yX1_takeNeed cX1_takeNeed 3 (some .int)) 1 0 0 [.ref (L 2 i)] h (fun v h' => v = some (.int (Γ 2 i 2 - sp_min (Γ 2 i 2) (Γ 2 i 3))) ∧ WI N n p ord L (sp_take Γ i) o h') (fun _ _ => False) := by
  refine am_body hlt (by decide +kernel) (Nat.le_of_ble_eq_true rfl) (fun k hl hR h0 hno => ?_)
  subst hl
  refine g_aload_n dX1_takeNeed_0 rfl ?_
  refine w_getI w dX1_takeNeed_1 fl_X1_54 rfl rfl (by assumption) ?_
  refine g_aload_n dX1_takeNeed_4 rfl ?_
  refine w_getI w dX1_takeNeed_5 fl_X1_7 rfl rfl (by assumption) ?_
  refine g_min dX1_takeNeed_8 ml_X1_73 ms_min ini_Math mcode_min (by rw [hR]; decide) (by rw [hR]; decide) (by rw [hR]; decide) (by rw [hR]; decide) ?_
  refine g_istore_n dX1_takeNeed_11 (by decide) rfl ?_
  refine g_aload_n dX1_takeNeed_12 rfl ?_
  refine w_getI w dX1_takeNeed_13 fl_X1_54 rfl rfl (by assumption) ?_
  refine g_iload_n dX1_takeNeed_16 rfl ?_
  refine g_isub dX1_takeNeed_17 ?_
  refine g_istore_n dX1_takeNeed_18 (by decide) rfl ?_
  refine g_aload_n dX1_takeNeed_19 rfl ?_
  refine g_dup dX1_takeNeed_20 rfl ?_
  refine w_getI w dX1_takeNeed_21 fl_X1_7 rfl rfl (by assumption) ?_
  refine g_iload_n dX1_takeNeed_24 rfl ?_
  refine g_isub dX1_takeNeed_25 ?_
  refine w_putI w dX1_takeNeed_26 fl_X1_7 rfl rfl (by decide) (fun q hq => by cases hq; rfl) (by assumption) rfl rfl (fun h1 w1 => ?_)
  refine g_aload_n dX1_takeNeed_29 rfl ?_
  refine g_dup dX1_takeNeed_30 rfl ?_
  refine w_getI w1 dX1_takeNeed_31 fl_X1_39 rfl rfl (by assumption) ?_
  refine g_iload_n dX1_takeNeed_34 rfl ?_
  refine g_iadd dX1_takeNeed_35 ?_
  refine w_putI w1 dX1_takeNeed_36 fl_X1_39 rfl rfl (by decide) (fun q hq => by cases hq; rfl) (by assumption) rfl rfl (fun h2 w2 => ?_)
  refine g_aload_n dX1_takeNeed_39 rfl ?_
  refine g_dup dX1_takeNeed_40 rfl ?_
  refine w_getI w2 dX1_takeNeed_41 fl_X1_42 rfl rfl (by assumption) ?_
  refine g_iload_n dX1_takeNeed_44 rfl ?_
  refine g_iadd dX1_takeNeed_45 ?_
  refine w_putI w2 dX1_takeNeed_46 fl_X1_42 rfl rfl (by decide) (fun q hq => by cases hq; rfl) (by assumption) rfl rfl (fun h3 w3 => ?_)
  refine g_iload_n dX1_takeNeed_49 rfl ?_
  refine g_iret dX1_takeNeed_50 rfl rfl (by decide) (by decide) ?_
  exact ⟨rfl, by simpa [sp_take, sp_min, u3_ap] using w3⟩
set_option maxRecDepth 100000 in
set_option maxHeartbeats 4000000 in
theorem c_X1_beginHour {l : Launch} (hlt : l.stackTraces = false) {N n p : Nat} {ord : List Nat} {L : Nat → Nat → Nat} {Γ : Nat → Nat → Nat → Int32} {o : Nat} {h : am_H} (w : WI N n p ord L Γ o h) {i : Nat} (hi : wdm n p o 2 i = true) : am_Con l yX1_beginHour (.code yX1_beginHour cX1_beginHour 1 none) 1 0 0 [.ref (L 2 i)] h (fun v h' => v = none ∧ WI N n p ord L (u3 (u3 Γ 0 i 0 0) 2 i 8 0) o h') (fun _ _ => False) := by
  refine am_body hlt (by decide +kernel) (Nat.le_of_ble_eq_true rfl) (fun k hl hR h0 hno => ?_)
  subst hl
  refine g_aload_n dX1_beginHour_0 rfl ?_
  refine w_getR w dX1_beginHour_1 fl_X1_16 rfl rfl (by assumption) rfl ?_
  refine g_iconst (v := 0) dX1_beginHour_4 (by decide) ?_
  refine w_putI w dX1_beginHour_5 fl_X1_57 rfl rfl (by decide) (fun q hq => by cases hq; rfl) (by assumption) rfl rfl (fun h1 w1 => ?_)
  refine g_aload_n dX1_beginHour_8 rfl ?_
  refine g_iconst (v := 0) dX1_beginHour_9 (by decide) ?_
  refine w_putI w1 dX1_beginHour_10 fl_X1_30 rfl rfl (by decide) (fun q hq => by cases hq; rfl) (by assumption) rfl rfl (fun h2 w2 => ?_)
  refine g_vret dX1_beginHour_13 rfl (by decide) (by decide) ?_
  exact ⟨rfl, w2⟩
