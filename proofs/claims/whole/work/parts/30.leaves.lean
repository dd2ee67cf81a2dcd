set_option maxRecDepth 100000 in
set_option maxHeartbeats 4000000 in
theorem c_X0_set_t {l : Launch} (hlt : l.stackTraces = false) {N n p : Nat} {ord : List Nat} {L : Nat → Nat → Nat} {Γ : Nat → Nat → Nat → Int32} {o : Int64} {h : am_H} (w : WI N n p ord L Γ o h) {i : Nat} (hi : wdm n p 1 i = true) (a b c : Int32) : am_Con l yX0_set (.code yX0_set cX0_set 4 none) 1 0 0 [.ref (L 1 i), .int a, .int b, .int c] h (fun v h' => v = none ∧ WI N n p ord L (u3 (u3 (u3 (u3 Γ 1 i 0 1) 1 i 1 a) 1 i 2 b) 1 i 3 c) o h') (fun _ _ => False) := by
  refine am_body hlt (by decide +kernel) (Nat.le_of_ble_eq_true rfl) (fun k hl hR h0 hno => ?_)
  subst hl
  refine g_aload_n dX0_set_0 rfl ?_
  refine g_iconst (v := 1) dX0_set_1 (by decide) ?_
  refine w_putI w dX0_set_2 fl_X0_7 rfl rfl (by decide) (fun q hq => by cases hq; rfl) (by assumption) rfl rfl (fun h1 w1 => ?_)
  refine g_aload_n dX0_set_5 rfl ?_
  refine g_iload_n dX0_set_6 rfl ?_
  refine w_putI w1 dX0_set_7 fl_X0_13 rfl rfl (by decide) (fun q hq => by cases hq; rfl) (by assumption) rfl rfl (fun h2 w2 => ?_)
  refine g_aload_n dX0_set_10 rfl ?_
  refine g_iload_n dX0_set_11 rfl ?_
  refine w_putI w2 dX0_set_12 fl_X0_17 rfl rfl (by decide) (fun q hq => by cases hq; rfl) (by assumption) rfl rfl (fun h3 w3 => ?_)
  refine g_aload_n dX0_set_15 rfl ?_
  refine g_iload_n dX0_set_16 rfl ?_
  refine w_putI w3 dX0_set_17 fl_X0_20 rfl rfl (by decide) (fun q hq => by cases hq; rfl) (by assumption) rfl rfl (fun h4 w4 => ?_)
  refine g_vret dX0_set_20 rfl (by decide) (by decide) ?_
  exact ⟨rfl, w4⟩
set_option maxRecDepth 100000 in
set_option maxHeartbeats 4000000 in
theorem c_X0_set_s {l : Launch} (hlt : l.stackTraces = false) {N n p : Nat} {ord : List Nat} {L : Nat → Nat → Nat} {Γ : Nat → Nat → Nat → Int32} {o : Int64} {h : am_H} (w : WI N n p ord L Γ o h) {i : Nat} (hi : wdm n p 0 i = true) (a b c : Int32) : am_Con l yX0_set (.code yX0_set cX0_set 4 none) 1 0 0 [.ref (L 0 i), .int a, .int b, .int c] h (fun v h' => v = none ∧ WI N n p ord L (u3 (u3 (u3 (u3 Γ 0 i 0 1) 0 i 1 a) 0 i 2 b) 0 i 3 c) o h') (fun _ _ => False) := by
  refine am_body hlt (by decide +kernel) (Nat.le_of_ble_eq_true rfl) (fun k hl hR h0 hno => ?_)
  subst hl
  refine g_aload_n dX0_set_0 rfl ?_
  refine g_iconst (v := 1) dX0_set_1 (by decide) ?_
  refine w_putI w dX0_set_2 fl_X0_7 rfl rfl (by decide) (fun q hq => by cases hq; rfl) (by assumption) rfl rfl (fun h1 w1 => ?_)
  refine g_aload_n dX0_set_5 rfl ?_
  refine g_iload_n dX0_set_6 rfl ?_
  refine w_putI w1 dX0_set_7 fl_X0_13 rfl rfl (by decide) (fun q hq => by cases hq; rfl) (by assumption) rfl rfl (fun h2 w2 => ?_)
  refine g_aload_n dX0_set_10 rfl ?_
  refine g_iload_n dX0_set_11 rfl ?_
  refine w_putI w2 dX0_set_12 fl_X0_17 rfl rfl (by decide) (fun q hq => by cases hq; rfl) (by assumption) rfl rfl (fun h3 w3 => ?_)
  refine g_aload_n dX0_set_15 rfl ?_
  refine g_iload_n dX0_set_16 rfl ?_
  refine w_putI w3 dX0_set_17 fl_X0_20 rfl rfl (by decide) (fun q hq => by cases hq; rfl) (by assumption) rfl rfl (fun h4 w4 => ?_)
  refine g_vret dX0_set_20 rfl (by decide) (by decide) ?_
  exact ⟨rfl, w4⟩
/-- the bid that stands of i is ahead of that of j: 1 or 0 -/
def sp_ahead (Γ : Nat → Nat → Nat → Int32) (i j : Nat) : Int32 := if Γ 0 i 1 = Γ 0 j 1 then (if Γ 0 j 3 ≤ Γ 0 i 3 then 0 else 1) else (if Γ 0 i 1 ≤ Γ 0 j 1 then 0 else 1)
def sp_silent (Γ : Nat → Nat → Nat → Int32) (i : Nat) : Nat → Nat → Nat → Int32 := if Γ 1 i 0 = 0 then (if Γ 2 i 6 = 0 then u3 Γ 2 i 6 1 else u3 (u3 Γ 0 i 0 0) 2 i 6 1) else u3 (u3 (u3 (u3 (u3 (u3 Γ 0 i 0 1) 0 i 1 (Γ 1 i 1)) 0 i 2 (Γ 1 i 2)) 0 i 3 (Γ 1 i 3)) 1 i 0 0) 2 i 6 0
set_option maxRecDepth 100000 in
set_option maxHeartbeats 4000000 in
theorem c_X0_isAheadOf {l : Launch} (hlt : l.stackTraces = false) {N n p : Nat} {ord : List Nat} {L : Nat → Nat → Nat} {Γ : Nat → Nat → Nat → Int32} {o : Int64} {h : am_H} (w : WI N n p ord L Γ o h) {i j : Nat} (hi : wdm n p 0 i = true) (hj : wdm n p 0 j = true) : am_Con l yX0_isAheadOf (.code yX0_isAheadOf cX0_isAheadOf 2 (some .boolean)) 1 0 0 [.ref (L 0 i), .ref (L 0 j)] h (fun v h' => v = some (.int (sp_ahead Γ i j)) ∧ h' = h) (fun _ _ => False) := by
  refine am_body hlt (by decide +kernel) (Nat.le_of_ble_eq_true rfl) (fun k hl hR h0 hno => ?_)
  subst hl
  refine g_aload_n dX0_isAheadOf_0 rfl ?_
  refine w_getI w dX0_isAheadOf_1 fl_X0_13 rfl rfl (by assumption) ?_
  refine g_aload_n dX0_isAheadOf_4 rfl ?_
  refine w_getI w dX0_isAheadOf_5 fl_X0_13 rfl rfl (by assumption) ?_
  refine g_icmp_eq 30 dX0_isAheadOf_8 (by decide) (fun c_8 => ?_) (fun c_8 => ?_)
  · skip
    refine g_aload_n dX0_isAheadOf_30 rfl ?_
    refine w_getI w dX0_isAheadOf_31 fl_X0_20 rfl rfl (by assumption) ?_
    refine g_aload_n dX0_isAheadOf_34 rfl ?_
    refine w_getI w dX0_isAheadOf_35 fl_X0_20 rfl rfl (by assumption) ?_
    refine g_icmp_ge 45 dX0_isAheadOf_38 (by decide) (fun c_38 => ?_) (fun c_38 => ?_)
    · skip
      refine g_iconst (v := 0) dX0_isAheadOf_45 (by decide) ?_
      refine g_iret dX0_isAheadOf_46 rfl rfl (by decide) (by decide) ?_
      exact ⟨by unfold sp_ahead; simp only [reduceIte, c_8, c_38], rfl⟩
    · skip
      refine g_iconst (v := 1) dX0_isAheadOf_41 (by decide) ?_
      refine g_goto 46 dX0_isAheadOf_42 (by decide) ?_
      refine g_iret dX0_isAheadOf_46 rfl rfl (by decide) (by decide) ?_
      exact ⟨by unfold sp_ahead; simp only [reduceIte, c_8, c_38], rfl⟩
  · skip
    refine g_aload_n dX0_isAheadOf_11 rfl ?_
    refine w_getI w dX0_isAheadOf_12 fl_X0_13 rfl rfl (by assumption) ?_
    refine g_aload_n dX0_isAheadOf_15 rfl ?_
    refine w_getI w dX0_isAheadOf_16 fl_X0_13 rfl rfl (by assumption) ?_
    refine g_icmp_le 26 dX0_isAheadOf_19 (by decide) (fun c_19 => ?_) (fun c_19 => ?_)
    · skip
      refine g_iconst (v := 0) dX0_isAheadOf_26 (by decide) ?_
      refine g_goto 46 dX0_isAheadOf_27 (by decide) ?_
      refine g_iret dX0_isAheadOf_46 rfl rfl (by decide) (by decide) ?_
      exact ⟨by unfold sp_ahead; simp only [reduceIte, c_8, c_19], rfl⟩
    · skip
      refine g_iconst (v := 1) dX0_isAheadOf_22 (by decide) ?_
      refine g_goto 46 dX0_isAheadOf_23 (by decide) ?_
      refine g_iret dX0_isAheadOf_46 rfl rfl (by decide) (by decide) ?_
      exact ⟨by unfold sp_ahead; simp only [reduceIte, c_8, c_19], rfl⟩
set_option maxRecDepth 100000 in
set_option maxHeartbeats 4000000 in
theorem c_X1_settleRound {l : Launch} (hlt : l.stackTraces = false) {N n p : Nat} {ord : List Nat} {L : Nat → Nat → Nat} {Γ : Nat → Nat → Nat → Int32} {o : Int64} {h : am_H} (w : WI N n p ord L Γ o h) {i : Nat} (hi : wdm n p 2 i = true) : am_Con l yX1_settleRound (.code yX1_settleRound cX1_settleRound 1 none) 2 0 0 [.ref (L 2 i)] h (fun v h' => v = none ∧ WI N n p ord L (sp_silent Γ i) o h') (fun _ _ => False) := by
  refine am_body hlt (by decide +kernel) (Nat.le_of_ble_eq_true rfl) (fun k hl hR h0 hno => ?_)
  subst hl
  refine g_aload_n dX1_settleRound_0 rfl ?_
  refine w_getR w dX1_settleRound_1 fl_X1_20 rfl rfl (by assumption) rfl ?_
  refine w_getI w dX1_settleRound_4 fl_X1_57 rfl rfl (by assumption) ?_
  refine g_if_eq 54 dX1_settleRound_7 (by decide) (fun c_7 => ?_) (fun c_7 => ?_)
  · skip
    refine g_aload_n dX1_settleRound_54 rfl ?_
    refine w_getI w dX1_settleRound_55 fl_X1_23 rfl rfl (by assumption) ?_
    refine g_if_eq 69 dX1_settleRound_58 (by decide) (fun c_58 => ?_) (fun c_58 => ?_)
    · skip
      refine g_aload_n dX1_settleRound_69 rfl ?_
      refine g_iconst (v := 1) dX1_settleRound_70 (by decide) ?_
      refine w_putI w dX1_settleRound_71 fl_X1_23 rfl rfl (by decide) (fun q hq => by cases hq; rfl) (by assumption) rfl rfl (fun h1 w1 => ?_)
      refine g_vret dX1_settleRound_74 rfl (by decide) (by decide) ?_
      exact ⟨rfl, by unfold sp_silent; simp only [reduceIte, c_7, c_58]; exact w1⟩
    · skip
      refine g_aload_n dX1_settleRound_61 rfl ?_
      refine w_getR w dX1_settleRound_62 fl_X1_16 rfl rfl (by assumption) rfl ?_
      refine g_iconst (v := 0) dX1_settleRound_65 (by decide) ?_
      refine w_putI w dX1_settleRound_66 fl_X1_57 rfl rfl (by decide) (fun q hq => by cases hq; rfl) (by assumption) rfl rfl (fun h2 w2 => ?_)
      refine g_aload_n dX1_settleRound_69 rfl ?_
      refine g_iconst (v := 1) dX1_settleRound_70 (by decide) ?_
      refine w_putI w2 dX1_settleRound_71 fl_X1_23 rfl rfl (by decide) (fun q hq => by cases hq; rfl) (by assumption) rfl rfl (fun h3 w3 => ?_)
      refine g_vret dX1_settleRound_74 rfl (by decide) (by decide) ?_
      exact ⟨rfl, by unfold sp_silent; simp only [reduceIte, c_7, c_58]; exact w3⟩
  · skip
    refine g_aload_n dX1_settleRound_10 rfl ?_
    refine w_getR w dX1_settleRound_11 fl_X1_16 rfl rfl (by assumption) rfl ?_
    refine g_aload_n dX1_settleRound_14 rfl ?_
    refine w_getR w dX1_settleRound_15 fl_X1_20 rfl rfl (by assumption) rfl ?_
    refine w_getI w dX1_settleRound_18 fl_X1_60 rfl rfl (by assumption) ?_
    refine g_aload_n dX1_settleRound_21 rfl ?_
    refine w_getR w dX1_settleRound_22 fl_X1_20 rfl rfl (by assumption) rfl ?_
    refine w_getI w dX1_settleRound_25 fl_X1_63 rfl rfl (by assumption) ?_
    refine g_aload_n dX1_settleRound_28 rfl ?_
    refine w_getR w dX1_settleRound_29 fl_X1_20 rfl rfl (by assumption) rfl ?_
    refine w_getI w dX1_settleRound_32 fl_X1_66 rfl rfl (by assumption) ?_
    refine g_callV [_, _, _] dX1_settleRound_35 mc_X1_69 mi_X0_set se_X0_set (c_X0_set_s hlt w (by assumption) _ _ _) (w.k (by assumption)) rfl rfl (by decide) (am_rm hR (by decide)) (fun _ _ z => z) (fun v hx hq hE => ?_)
    obtain ⟨rfl, w4⟩ := hq
    refine g_aload_n dX1_settleRound_38 rfl ?_
    refine w_getR w4 dX1_settleRound_39 fl_X1_20 rfl rfl (by assumption) rfl ?_
    refine g_iconst (v := 0) dX1_settleRound_42 (by decide) ?_
    refine w_putI w4 dX1_settleRound_43 fl_X1_57 rfl rfl (by decide) (fun q hq => by cases hq; rfl) (by assumption) rfl rfl (fun h5 w5 => ?_)
    refine g_aload_n dX1_settleRound_46 rfl ?_
    refine g_iconst (v := 0) dX1_settleRound_47 (by decide) ?_
    refine w_putI w5 dX1_settleRound_48 fl_X1_23 rfl rfl (by decide) (fun q hq => by cases hq; rfl) (by assumption) rfl rfl (fun h6 w6 => ?_)
    refine g_goto 74 dX1_settleRound_51 (by decide) ?_
    refine g_vret dX1_settleRound_74 rfl (by decide) (by decide) ?_
    exact ⟨rfl, by unfold sp_silent; simp only [reduceIte, c_7]; exact w6⟩
set_option maxRecDepth 100000 in
set_option maxHeartbeats 4000000 in
theorem c_X1_pay {l : Launch} (hlt : l.stackTraces = false) {N n p : Nat} {ord : List Nat} {L : Nat → Nat → Nat} {Γ : Nat → Nat → Nat → Int32} {o : Int64} {h : am_H} (w : WI N n p ord L Γ o h) {i : Nat} (hi : wdm n p 2 i = true) : am_Con l yX1_pay (.code yX1_pay cX1_pay 1 none) 1 0 0 [.ref (L 2 i)] h (fun v h' => v = none ∧ WI N n p ord L (u3 Γ 2 i 9 (Γ 2 i 9 + Γ 0 i 1 * Γ 2 i 8)) o h') (fun _ _ => False) := by
  refine am_body hlt (by decide +kernel) (Nat.le_of_ble_eq_true rfl) (fun k hl hR h0 hno => ?_)
  subst hl
  refine g_aload_n dX1_pay_0 rfl ?_
  refine g_dup dX1_pay_1 rfl ?_
  refine w_getI w dX1_pay_2 fl_X1_33 rfl rfl (by assumption) ?_
  refine g_aload_n dX1_pay_5 rfl ?_
  refine w_getR w dX1_pay_6 fl_X1_16 rfl rfl (by assumption) rfl ?_
  refine w_getI w dX1_pay_9 fl_X1_60 rfl rfl (by assumption) ?_
  refine g_aload_n dX1_pay_12 rfl ?_
  refine w_getI w dX1_pay_13 fl_X1_30 rfl rfl (by assumption) ?_
  refine g_imul dX1_pay_16 ?_
  refine g_iadd dX1_pay_17 ?_
  refine w_putI w dX1_pay_18 fl_X1_33 rfl rfl (by decide) (fun q hq => by cases hq; rfl) (by assumption) rfl rfl (fun h1 w1 => ?_)
  refine g_vret dX1_pay_21 rfl (by decide) (by decide) ?_
  exact ⟨rfl, w1⟩
set_option maxRecDepth 100000 in
set_option maxHeartbeats 4000000 in
theorem c_X1_takeBackPay {l : Launch} (hlt : l.stackTraces = false) {N n p : Nat} {ord : List Nat} {L : Nat → Nat → Nat} {Γ : Nat → Nat → Nat → Int32} {o : Int64} {h : am_H} (w : WI N n p ord L Γ o h) {i : Nat} (hi : wdm n p 2 i = true) : am_Con l yX1_takeBackPay (.code yX1_takeBackPay cX1_takeBackPay 3 (some .int)) 1 0 0 [.ref (L 2 i)] h (fun v h' => v = some (.int (Γ 2 i 7 - Γ 2 i 8)) ∧ WI N n p ord L (u3 Γ 2 i 10 (Γ 2 i 10 + (Γ 0 i 1 * (Γ 2 i 7 - Γ 2 i 8) + Γ 0 i 1 * (Γ 2 i 7 - Γ 2 i 8) / 10))) o h') (fun _ _ => False) := by
  refine am_body hlt (by decide +kernel) (Nat.le_of_ble_eq_true rfl) (fun k hl hR h0 hno => ?_)
  subst hl
  refine g_aload_n dX1_takeBackPay_0 rfl ?_
  refine w_getI w dX1_takeBackPay_1 fl_X1_27 rfl rfl (by assumption) ?_
  refine g_aload_n dX1_takeBackPay_4 rfl ?_
  refine w_getI w dX1_takeBackPay_5 fl_X1_30 rfl rfl (by assumption) ?_
  refine g_isub dX1_takeBackPay_8 ?_
  refine g_istore_n dX1_takeBackPay_9 (by decide) rfl ?_
  refine g_aload_n dX1_takeBackPay_10 rfl ?_
  refine w_getR w dX1_takeBackPay_11 fl_X1_16 rfl rfl (by assumption) rfl ?_
  refine w_getI w dX1_takeBackPay_14 fl_X1_60 rfl rfl (by assumption) ?_
  refine g_iload_n dX1_takeBackPay_17 rfl ?_
  refine g_imul dX1_takeBackPay_18 ?_
  refine g_istore_n dX1_takeBackPay_19 (by decide) rfl ?_
  refine g_aload_n dX1_takeBackPay_20 rfl ?_
  refine g_dup dX1_takeBackPay_21 rfl ?_
  refine w_getI w dX1_takeBackPay_22 fl_X1_36 rfl rfl (by assumption) ?_
  refine g_iload_n dX1_takeBackPay_25 rfl ?_
  refine g_iload_n dX1_takeBackPay_26 rfl ?_
  refine g_bipush (v := 10) dX1_takeBackPay_27 (by decide) ?_
  refine g_idiv dX1_takeBackPay_29 (by decide) ?_
  refine g_iadd dX1_takeBackPay_30 ?_
  refine g_iadd dX1_takeBackPay_31 ?_
  refine w_putI w dX1_takeBackPay_32 fl_X1_36 rfl rfl (by decide) (fun q hq => by cases hq; rfl) (by assumption) rfl rfl (fun h1 w1 => ?_)
  refine g_iload_n dX1_takeBackPay_35 rfl ?_
  refine g_iret dX1_takeBackPay_36 rfl rfl (by decide) (by decide) ?_
  exact ⟨rfl, w1⟩
def sp_min (x y : Int32) : Int32 := if y < x then y else x
def sp_store (Γ : Nat → Nat → Nat → Int32) (i : Nat) : Nat → Nat → Nat → Int32 := u3 (u3 Γ 2 i 3 (Γ 2 i 3 + sp_min (Γ 2 i 8) (Γ 2 i 1 - Γ 2 i 3))) 2 i 13 (Γ 2 i 13 + (Γ 2 i 8 - sp_min (Γ 2 i 8) (Γ 2 i 1 - Γ 2 i 3)))
def sp_take (Γ : Nat → Nat → Nat → Int32) (i : Nat) : Nat → Nat → Nat → Int32 := u3 (u3 (u3 Γ 2 i 3 (Γ 2 i 3 - sp_min (Γ 2 i 2) (Γ 2 i 3))) 2 i 11 (Γ 2 i 11 + sp_min (Γ 2 i 2) (Γ 2 i 3))) 2 i 12 (Γ 2 i 12 + (Γ 2 i 2 - sp_min (Γ 2 i 2) (Γ 2 i 3)))
set_option maxRecDepth 100000 in
set_option maxHeartbeats 4000000 in
theorem c_X1_store {l : Launch} (hlt : l.stackTraces = false) {N n p : Nat} {ord : List Nat} {L : Nat → Nat → Nat} {Γ : Nat → Nat → Nat → Int32} {o : Int64} {h : am_H} (w : WI N n p ord L Γ o h) {i : Nat} (hi : wdm n p 2 i = true) : am_Con l yX1_store (.code yX1_store cX1_store 2 none) 1 0 0 [.ref (L 2 i)] h (fun v h' => v = none ∧ WI N n p ord L (sp_store Γ i) o h') (fun _ _ => False) := by
  refine am_body hlt (by decide +kernel) (Nat.le_of_ble_eq_true rfl) (fun k hl hR h0 hno => ?_)
  subst hl
  refine g_aload_n dX1_store_0 rfl ?_
  refine w_getI w dX1_store_1 fl_X1_30 rfl rfl (by assumption) ?_
  refine g_aload_n dX1_store_4 rfl ?_
  refine w_getI w dX1_store_5 fl_X1_51 rfl rfl (by assumption) ?_
  refine g_aload_n dX1_store_8 rfl ?_
  refine w_getI w dX1_store_9 fl_X1_7 rfl rfl (by assumption) ?_
  refine g_isub dX1_store_12 ?_
  refine g_min dX1_store_13 ml_X1_73 ms_min ini_Math mcode_min (by rw [hR]; decide) (by rw [hR]; decide) (by rw [hR]; decide) (by rw [hR]; decide) ?_
  refine g_istore_n dX1_store_16 (by decide) rfl ?_
  refine g_aload_n dX1_store_17 rfl ?_
  refine g_dup dX1_store_18 rfl ?_
  refine w_getI w dX1_store_19 fl_X1_7 rfl rfl (by assumption) ?_
  refine g_iload_n dX1_store_22 rfl ?_
  refine g_iadd dX1_store_23 ?_
  refine w_putI w dX1_store_24 fl_X1_7 rfl rfl (by decide) (fun q hq => by cases hq; rfl) (by assumption) rfl rfl (fun h1 w1 => ?_)
  refine g_aload_n dX1_store_27 rfl ?_
  refine g_dup dX1_store_28 rfl ?_
  refine w_getI w1 dX1_store_29 fl_X1_45 rfl rfl (by assumption) ?_
  refine g_aload_n dX1_store_32 rfl ?_
  refine w_getI w1 dX1_store_33 fl_X1_30 rfl rfl (by assumption) ?_
  refine g_iload_n dX1_store_36 rfl ?_
  refine g_isub dX1_store_37 ?_
  refine g_iadd dX1_store_38 ?_
  refine w_putI w1 dX1_store_39 fl_X1_45 rfl rfl (by decide) (fun q hq => by cases hq; rfl) (by assumption) rfl rfl (fun h2 w2 => ?_)
  refine g_vret dX1_store_42 rfl (by decide) (by decide) ?_
  exact ⟨rfl, by simpa [sp_store, sp_min, u3_ap] using w2⟩
set_option maxRecDepth 100000 in
set_option maxHeartbeats 4000000 in
theorem c_X1_takeNeed {l : Launch} (hlt : l.stackTraces = false) {N n p : Nat} {ord : List Nat} {L : Nat → Nat → Nat} {Γ : Nat → Nat → Nat → Int32} {o : Int64} {h : am_H} (w : WI N n p ord L Γ o h) {i : Nat} (hi : wdm n p 2 i = true) : am_Con l yX1_takeNeed (.code yX1_takeNeed cX1_takeNeed 3 (some .int)) 1 0 0 [.ref (L 2 i)] h (fun v h' => v = some (.int (Γ 2 i 2 - sp_min (Γ 2 i 2) (Γ 2 i 3))) ∧ WI N n p ord L (sp_take Γ i) o h') (fun _ _ => False) := by
  refine am_body hlt (by decide +kernel) (Nat.le_of_ble_eq_true rfl) (fun k hl hR h0 hno => ?_)
  subst hl
  refine g_aload_n dX1_takeNeed_0 rfl ?_
  refine w_getI w dX1_takeNeed_1 fl_X1_54 rfl rfl (by assumption) ?_
  refine g_aload_n dX1_takeNeed_4 rfl ?_
  refine w_getI w dX1_takeNeed_5 fl_X1_7 rfl rfl (by assumption) ?_
  refine g_min dX1_takeNeed_8 ml_X1_73 ms_min ini_Math mcode_min (by rw [hR]; decide) (by rw [hR]; decide) (by rw [hR]; decide) (by rw [hR]; decide) ?_
  refine g_istore_n dX1_takeNeed_11 (by decide) rfl ?_
  refine g_aload_n dX1_takeNeed_12 rfl ?_
  refine w_getI w dX1_takeNeed_13 fl_X1_54 rfl rfl (by assumption) ?_
  refine g_iload_n dX1_takeNeed_16 rfl ?_
  refine g_isub dX1_takeNeed_17 ?_
  refine g_istore_n dX1_takeNeed_18 (by decide) rfl ?_
  refine g_aload_n dX1_takeNeed_19 rfl ?_
  refine g_dup dX1_takeNeed_20 rfl ?_
  refine w_getI w dX1_takeNeed_21 fl_X1_7 rfl rfl (by assumption) ?_
  refine g_iload_n dX1_takeNeed_24 rfl ?_
  refine g_isub dX1_takeNeed_25 ?_
  refine w_putI w dX1_takeNeed_26 fl_X1_7 rfl rfl (by decide) (fun q hq => by cases hq; rfl) (by assumption) rfl rfl (fun h1 w1 => ?_)
  refine g_aload_n dX1_takeNeed_29 rfl ?_
  refine g_dup dX1_takeNeed_30 rfl ?_
  refine w_getI w1 dX1_takeNeed_31 fl_X1_39 rfl rfl (by assumption) ?_
  refine g_iload_n dX1_takeNeed_34 rfl ?_
  refine g_iadd dX1_takeNeed_35 ?_
  refine w_putI w1 dX1_takeNeed_36 fl_X1_39 rfl rfl (by decide) (fun q hq => by cases hq; rfl) (by assumption) rfl rfl (fun h2 w2 => ?_)
  refine g_aload_n dX1_takeNeed_39 rfl ?_
  refine g_dup dX1_takeNeed_40 rfl ?_
  refine w_getI w2 dX1_takeNeed_41 fl_X1_42 rfl rfl (by assumption) ?_
  refine g_iload_n dX1_takeNeed_44 rfl ?_
  refine g_iadd dX1_takeNeed_45 ?_
  refine w_putI w2 dX1_takeNeed_46 fl_X1_42 rfl rfl (by decide) (fun q hq => by cases hq; rfl) (by assumption) rfl rfl (fun h3 w3 => ?_)
  refine g_iload_n dX1_takeNeed_49 rfl ?_
  refine g_iret dX1_takeNeed_50 rfl rfl (by decide) (by decide) ?_
  exact ⟨rfl, by simpa [sp_take, sp_min, u3_ap] using w3⟩
set_option maxRecDepth 100000 in
set_option maxHeartbeats 4000000 in
theorem c_X1_beginHour {l : Launch} (hlt : l.stackTraces = false) {N n p : Nat} {ord : List Nat} {L : Nat → Nat → Nat} {Γ : Nat → Nat → Nat → Int32} {o : Int64} {h : am_H} (w : WI N n p ord L Γ o h) {i : Nat} (hi : wdm n p 2 i = true) : am_Con l yX1_beginHour (.code yX1_beginHour cX1_beginHour 1 none) 1 0 0 [.ref (L 2 i)] h (fun v h' => v = none ∧ WI N n p ord L (u3 (u3 Γ 0 i 0 0) 2 i 8 0) o h') (fun _ _ => False) := by
  refine am_body hlt (by decide +kernel) (Nat.le_of_ble_eq_true rfl) (fun k hl hR h0 hno => ?_)
  subst hl
  refine g_aload_n dX1_beginHour_0 rfl ?_
  refine w_getR w dX1_beginHour_1 fl_X1_16 rfl rfl (by assumption) rfl ?_
  refine g_iconst (v := 0) dX1_beginHour_4 (by decide) ?_
  refine w_putI w dX1_beginHour_5 fl_X1_57 rfl rfl (by decide) (fun q hq => by cases hq; rfl) (by assumption) rfl rfl (fun h1 w1 => ?_)
  refine g_aload_n dX1_beginHour_8 rfl ?_
  refine g_iconst (v := 0) dX1_beginHour_9 (by decide) ?_
  refine w_putI w1 dX1_beginHour_10 fl_X1_30 rfl rfl (by decide) (fun q hq => by cases hq; rfl) (by assumption) rfl rfl (fun h2 w2 => ?_)
  refine g_vret dX1_beginHour_13 rfl (by decide) (by decide) ?_
  exact ⟨rfl, w2⟩
set_option maxRecDepth 100000 in
set_option maxHeartbeats 4000000 in
theorem c_X5_thrown {l : Launch} (hlt : l.stackTraces = false) {N n p : Nat} {ord : List Nat} {L : Nat → Nat → Nat} {Γ : Nat → Nat → Nat → Int32} {o : Int64} {h : am_H} (w : WI N n p ord L Γ o h)  : am_Con l yX5_thrown (.code yX5_thrown cX5_thrown 1 (some .int)) 1 0 0 [.ref (L 11 0)] h (fun v h' => v = some (.int (Γ 11 0 34)) ∧ h' = h) (fun _ _ => False) := by
  refine am_body hlt (by decide +kernel) (Nat.le_of_ble_eq_true rfl) (fun k hl hR h0 hno => ?_)
  subst hl
  have hm : wdm n p 11 0 = true := rfl
  refine g_aload_n dX5_thrown_0 rfl ?_
  refine w_getI w dX5_thrown_1 fl_X5_89 rfl rfl (by assumption) ?_
  refine g_iret dX5_thrown_4 rfl rfl (by decide) (by decide) ?_
  exact ⟨rfl, rfl⟩
set_option maxRecDepth 100000 in
set_option maxHeartbeats 4000000 in
theorem c_X5_can {l : Launch} (hlt : l.stackTraces = false) {N n p : Nat} {ord : List Nat} {L : Nat → Nat → Nat} {Γ : Nat → Nat → Nat → Int32} {o : Int64} {h : am_H} (w : WI N n p ord L Γ o h) (a : Int32) : am_Con l yX5_can (.code yX5_can cX5_can 2 (some .boolean)) 1 0 0 [.ref (L 11 0), .int a] h (fun v h' => v = some (.int (if a = 0 then 1 else 0)) ∧ WI N n p ord L (u3 Γ 11 0 34 a) o h') (fun _ _ => False) := by
  refine am_body hlt (by decide +kernel) (Nat.le_of_ble_eq_true rfl) (fun k hl hR h0 hno => ?_)
  subst hl
  have hm : wdm n p 11 0 = true := rfl
  refine g_aload_n dX5_can_0 rfl ?_
  refine g_iload_n dX5_can_1 rfl ?_
  refine w_putI w dX5_can_2 fl_X5_89 rfl rfl (by decide) (fun q hq => by cases hq; rfl) (by assumption) rfl rfl (fun h1 w1 => ?_)
  refine g_iload_n dX5_can_5 rfl ?_
  refine g_if_ne 13 dX5_can_6 (by decide) (fun c_6 => ?_) (fun c_6 => ?_)
  · skip
    refine g_iconst (v := 0) dX5_can_13 (by decide) ?_
    refine g_iret dX5_can_14 rfl rfl (by decide) (by decide) ?_
    exact ⟨by simp only [reduceIte, c_6], w1⟩
  · skip
    refine g_iconst (v := 1) dX5_can_9 (by decide) ?_
    refine g_goto 14 dX5_can_10 (by decide) ?_
    refine g_iret dX5_can_14 rfl rfl (by decide) (by decide) ?_
    exact ⟨by simp only [reduceIte, c_6], w1⟩
def sp_in (a lo hi : Int32) : Int32 := if a < lo then 0 else if hi < a then 0 else 1
set_option maxRecDepth 100000 in
set_option maxHeartbeats 4000000 in
theorem c_X5_isIn {l : Launch} (hlt : l.stackTraces = false) {h : am_H} (a lo hi : Int32) : am_Con l yX5_isIn (.code yX5_isIn cX5_isIn 3 (some .boolean)) 1 0 0 [.int a, .int lo, .int hi] h (fun v h' => v = some (.int (sp_in a lo hi)) ∧ h' = h) (fun _ _ => False) := by
  refine am_body hlt (by decide +kernel) (Nat.le_of_ble_eq_true rfl) (fun k hl hR h0 hno => ?_)
  subst hl
  refine g_iload_n dX5_isIn_0 rfl ?_
  refine g_iload_n dX5_isIn_1 rfl ?_
  refine g_icmp_lt 14 dX5_isIn_2 (by decide) (fun c_2 => ?_) (fun c_2 => ?_)
  · skip
    refine g_iconst (v := 0) dX5_isIn_14 (by decide) ?_
    refine g_iret dX5_isIn_15 rfl rfl (by decide) (by decide) ?_
    exact ⟨by unfold sp_in; simp only [reduceIte, c_2], rfl⟩
  · skip
    refine g_iload_n dX5_isIn_5 rfl ?_
    refine g_iload_n dX5_isIn_6 rfl ?_
    refine g_icmp_gt 14 dX5_isIn_7 (by decide) (fun c_7 => ?_) (fun c_7 => ?_)
    · skip
      refine g_iconst (v := 0) dX5_isIn_14 (by decide) ?_
      refine g_iret dX5_isIn_15 rfl rfl (by decide) (by decide) ?_
      exact ⟨by unfold sp_in; simp only [reduceIte, c_2, c_7], rfl⟩
    · skip
      refine g_iconst (v := 1) dX5_isIn_10 (by decide) ?_
      refine g_goto 15 dX5_isIn_11 (by decide) ?_
      refine g_iret dX5_isIn_15 rfl rfl (by decide) (by decide) ?_
      exact ⟨by unfold sp_in; simp only [reduceIte, c_2, c_7], rfl⟩
set_option maxRecDepth 100000 in
set_option maxHeartbeats 4000000 in
theorem c_X5_isDistrict {l : Launch} (hlt : l.stackTraces = false) {N n p : Nat} {ord : List Nat} {L : Nat → Nat → Nat} {Γ : Nat → Nat → Nat → Int32} {o : Int64} {h : am_H} (w : WI N n p ord L Γ o h) (a : Int32) : am_Con l yX5_isDistrict (.code yX5_isDistrict cX5_isDistrict 2 (some .boolean)) 2 0 0 [.ref (L 11 0), .int a] h (fun v h' => v = some (.int (sp_in a 0 (Γ 11 0 3 - 1))) ∧ h' = h) (fun _ _ => False) := by
  refine am_body hlt (by decide +kernel) (Nat.le_of_ble_eq_true rfl) (fun k hl hR h0 hno => ?_)
  subst hl
  have hm : wdm n p 11 0 = true := rfl
  refine g_iload_n dX5_isDistrict_0 rfl ?_
  refine g_iconst (v := 0) dX5_isDistrict_1 (by decide) ?_
  refine g_aload_n dX5_isDistrict_2 rfl ?_
  refine w_getI w dX5_isDistrict_3 fl_X5_93 rfl rfl (by assumption) ?_
  refine g_iconst (v := 1) dX5_isDistrict_6 (by decide) ?_
  refine g_isub dX5_isDistrict_7 ?_
  refine g_callS [_, _, _] dX5_isDistrict_8 mc_X5_96 ms_X5_isIn (c_X5_isIn hlt _ _ _) rfl (by decide) (am_rm hR (by decide)) (fun _ _ z => z) (fun v hx hq hE => ?_)
  obtain ⟨rfl, rfl⟩ := hq
  refine g_iret dX5_isDistrict_11 rfl (by unfold sp_in; split <;> (try split) <;> rfl) (by decide) (by decide) ?_
  exact ⟨rfl, rfl⟩
set_option maxRecDepth 100000 in
set_option maxHeartbeats 4000000 in
theorem c_X5_isPipe {l : Launch} (hlt : l.stackTraces = false) {N n p : Nat} {ord : List Nat} {L : Nat → Nat → Nat} {Γ : Nat → Nat → Nat → Int32} {o : Int64} {h : am_H} (w : WI N n p ord L Γ o h) (a : Int32) : am_Con l yX5_isPipe (.code yX5_isPipe cX5_isPipe 2 (some .boolean)) 2 0 0 [.ref (L 11 0), .int a] h (fun v h' => v = some (.int (sp_in a 0 (Γ 11 0 24 - 1))) ∧ h' = h) (fun _ _ => False) := by
  refine am_body hlt (by decide +kernel) (Nat.le_of_ble_eq_true rfl) (fun k hl hR h0 hno => ?_)
  subst hl
  have hm : wdm n p 11 0 = true := rfl
  refine g_iload_n dX5_isPipe_0 rfl ?_
  refine g_iconst (v := 0) dX5_isPipe_1 (by decide) ?_
  refine g_aload_n dX5_isPipe_2 rfl ?_
  refine w_getI w dX5_isPipe_3 fl_X5_100 rfl rfl (by assumption) ?_
  refine g_iconst (v := 1) dX5_isPipe_6 (by decide) ?_
  refine g_isub dX5_isPipe_7 ?_
  refine g_callS [_, _, _] dX5_isPipe_8 mc_X5_96 ms_X5_isIn (c_X5_isIn hlt _ _ _) rfl (by decide) (am_rm hR (by decide)) (fun _ _ z => z) (fun v hx hq hE => ?_)
  obtain ⟨rfl, rfl⟩ := hq
  refine g_iret dX5_isPipe_11 rfl (by unfold sp_in; split <;> (try split) <;> rfl) (by decide) (by decide) ?_
  exact ⟨rfl, rfl⟩
set_option maxRecDepth 100000 in
set_option maxHeartbeats 4000000 in
theorem c_X5_lesser {l : Launch} (hlt : l.stackTraces = false) {h : am_H} (a b : Int32) : am_Con l yX5_lesser (.code yX5_lesser cX5_lesser 2 (some .int)) 1 0 0 [.int a, .int b] h (fun v h' => v = some (.int (if b ≤ a then b else a)) ∧ h' = h) (fun _ _ => False) := by
  refine am_body hlt (by decide +kernel) (Nat.le_of_ble_eq_true rfl) (fun k hl hR h0 hno => ?_)
  subst hl
  refine g_iload_n dX5_lesser_0 rfl ?_
  refine g_iload_n dX5_lesser_1 rfl ?_
  refine g_icmp_ge 9 dX5_lesser_2 (by decide) (fun c_2 => ?_) (fun c_2 => ?_)
  · skip
    refine g_iload_n dX5_lesser_9 rfl ?_
    refine g_iret dX5_lesser_10 rfl rfl (by decide) (by decide) ?_
    exact ⟨by simp only [reduceIte, c_2], rfl⟩
  · skip
    refine g_iload_n dX5_lesser_5 rfl ?_
    refine g_goto 10 dX5_lesser_6 (by decide) ?_
    refine g_iret dX5_lesser_10 rfl rfl (by decide) (by decide) ?_
    exact ⟨by simp only [reduceIte, c_2], rfl⟩
set_option maxRecDepth 100000 in
set_option maxHeartbeats 4000000 in
theorem c_X5_room {l : Launch} (hlt : l.stackTraces = false) {N n p : Nat} {ord : List Nat} {L : Nat → Nat → Nat} {Γ : Nat → Nat → Nat → Int32} {o : Int64} {h : am_H} (w : WI N n p ord L Γ o h) {j : Nat} (hj : j < 24) (b : Int32) : am_Con l yX5_room (.code yX5_room cX5_room 3 (some .int)) 1 0 0 [.ref (L 11 0), .int (nI j), .int b] h (fun v h' => v = some (.int (if Γ 13 28 j = 0 then (if b = 0 then Γ 12 29 j else Γ 12 27 j - Γ 12 29 j) else 0)) ∧ h' = h) (fun _ _ => False) := by
  refine am_body hlt (by decide +kernel) (Nat.le_of_ble_eq_true rfl) (fun k hl hR h0 hno => ?_)
  subst hl
  have hm : wdm n p 11 0 = true := rfl
  refine g_aload_n dX5_room_0 rfl ?_
  refine w_getR w dX5_room_1 fl_X5_74 rfl rfl (by assumption) rfl ?_
  refine g_iload_n dX5_room_4 rfl ?_
  refine w_zald w dX5_room_5 (by first | rfl | assumption) (by first | assumption | (show _ < 8; omega) | (show _ < 24; omega) | (show _ < 9; omega)) ?_
  refine g_if_eq 13 dX5_room_6 (by decide) (fun c_6 => ?_) (fun c_6 => ?_)
  · skip
    refine g_iload_n dX5_room_13 rfl ?_
    refine g_if_eq 33 dX5_room_14 (by decide) (fun c_14 => ?_) (fun c_14 => ?_)
    · skip
      refine g_aload_n dX5_room_33 rfl ?_
      refine w_getR w dX5_room_34 fl_X5_77 rfl rfl (by assumption) rfl ?_
      refine g_iload_n dX5_room_37 rfl ?_
      refine w_ald w dX5_room_38 (by decide) (by first | rfl | assumption) (by first | assumption | (show _ < 8; omega) | (show _ < 24; omega) | (show _ < 9; omega)) ?_
      refine g_iret dX5_room_39 rfl rfl (by decide) (by decide) ?_
      exact ⟨by simp only [reduceIte, c_6, c_14], rfl⟩
    · skip
      refine g_aload_n dX5_room_17 rfl ?_
      refine w_getR w dX5_room_18 fl_X5_71 rfl rfl (by assumption) rfl ?_
      refine g_iload_n dX5_room_21 rfl ?_
      refine w_ald w dX5_room_22 (by decide) (by first | rfl | assumption) (by first | assumption | (show _ < 8; omega) | (show _ < 24; omega) | (show _ < 9; omega)) ?_
      refine g_aload_n dX5_room_23 rfl ?_
      refine w_getR w dX5_room_24 fl_X5_77 rfl rfl (by assumption) rfl ?_
      refine g_iload_n dX5_room_27 rfl ?_
      refine w_ald w dX5_room_28 (by decide) (by first | rfl | assumption) (by first | assumption | (show _ < 8; omega) | (show _ < 24; omega) | (show _ < 9; omega)) ?_
      refine g_isub dX5_room_29 ?_
      refine g_goto 39 dX5_room_30 (by decide) ?_
      refine g_iret dX5_room_39 rfl rfl (by decide) (by decide) ?_
      exact ⟨by simp only [reduceIte, c_6, c_14], rfl⟩
  · skip
    refine g_iconst (v := 0) dX5_room_9 (by decide) ?_
    refine g_goto 39 dX5_room_10 (by decide) ?_
    refine g_iret dX5_room_39 rfl rfl (by decide) (by decide) ?_
    exact ⟨by simp only [reduceIte, c_6], rfl⟩
set_option maxRecDepth 100000 in
set_option maxHeartbeats 4000000 in
theorem c_X5_isAhead {l : Launch} (hlt : l.stackTraces = false) {N n p : Nat} {ord : List Nat} {L : Nat → Nat → Nat} {Γ : Nat → Nat → Nat → Int32} {o : Int64} {h : am_H} (w : WI N n p ord L Γ o h) {i j : Nat} (hi : i < 8) (hj : j < 8) : am_Con l yX5_isAhead (.code yX5_isAhead cX5_isAhead 3 (some .boolean)) 1 0 0 [.ref (L 11 0), .int (nI i), .int (nI j)] h (fun v h' => v = some (.int (if Γ 12 7 j < Γ 12 7 i then 1 else if Γ 12 7 i = Γ 12 7 j then (if Γ 12 9 j ≤ Γ 12 9 i then 0 else 1) else 0)) ∧ h' = h) (fun _ _ => False) := by
  refine am_body hlt (by decide +kernel) (Nat.le_of_ble_eq_true rfl) (fun k hl hR h0 hno => ?_)
  subst hl
  have hm : wdm n p 11 0 = true := rfl
  refine g_aload_n dX5_isAhead_0 rfl ?_
  refine w_getR w dX5_isAhead_1 fl_X5_19 rfl rfl (by assumption) rfl ?_
  refine g_iload_n dX5_isAhead_4 rfl ?_
  refine w_ald w dX5_isAhead_5 (by decide) (by first | rfl | assumption) (by first | assumption | (show _ < 8; omega) | (show _ < 24; omega) | (show _ < 9; omega)) ?_
  refine g_aload_n dX5_isAhead_6 rfl ?_
  refine w_getR w dX5_isAhead_7 fl_X5_19 rfl rfl (by assumption) rfl ?_
  refine g_iload_n dX5_isAhead_10 rfl ?_
  refine w_ald w dX5_isAhead_11 (by decide) (by first | rfl | assumption) (by first | assumption | (show _ < 8; omega) | (show _ < 24; omega) | (show _ < 9; omega)) ?_
  refine g_icmp_gt 45 dX5_isAhead_12 (by decide) (fun c_12 => ?_) (fun c_12 => ?_)
  · skip
    refine g_iconst (v := 1) dX5_isAhead_45 (by decide) ?_
    refine g_goto 50 dX5_isAhead_46 (by decide) ?_
    refine g_iret dX5_isAhead_50 rfl rfl (by decide) (by decide) ?_
    refine ⟨?_, rfl⟩
    repeat (first | rw [if_pos (by assumption)] | rw [if_neg (by assumption)])
  · skip
    refine g_aload_n dX5_isAhead_15 rfl ?_
    refine w_getR w dX5_isAhead_16 fl_X5_19 rfl rfl (by assumption) rfl ?_
    refine g_iload_n dX5_isAhead_19 rfl ?_
    refine w_ald w dX5_isAhead_20 (by decide) (by first | rfl | assumption) (by first | assumption | (show _ < 8; omega) | (show _ < 24; omega) | (show _ < 9; omega)) ?_
    refine g_aload_n dX5_isAhead_21 rfl ?_
    refine w_getR w dX5_isAhead_22 fl_X5_19 rfl rfl (by assumption) rfl ?_
    refine g_iload_n dX5_isAhead_25 rfl ?_
    refine w_ald w dX5_isAhead_26 (by decide) (by first | rfl | assumption) (by first | assumption | (show _ < 8; omega) | (show _ < 24; omega) | (show _ < 9; omega)) ?_
    refine g_icmp_ne 49 dX5_isAhead_27 (by decide) (fun c_27 => ?_) (fun c_27 => ?_)
    · skip
      refine g_iconst (v := 0) dX5_isAhead_49 (by decide) ?_
      refine g_iret dX5_isAhead_50 rfl rfl (by decide) (by decide) ?_
      refine ⟨?_, rfl⟩
      repeat (first | rw [if_pos (by assumption)] | rw [if_neg (by assumption)])
    · skip
      refine g_aload_n dX5_isAhead_30 rfl ?_
      refine w_getR w dX5_isAhead_31 fl_X5_25 rfl rfl (by assumption) rfl ?_
      refine g_iload_n dX5_isAhead_34 rfl ?_
      refine w_ald w dX5_isAhead_35 (by decide) (by first | rfl | assumption) (by first | assumption | (show _ < 8; omega) | (show _ < 24; omega) | (show _ < 9; omega)) ?_
      refine g_aload_n dX5_isAhead_36 rfl ?_
      refine w_getR w dX5_isAhead_37 fl_X5_25 rfl rfl (by assumption) rfl ?_
      refine g_iload_n dX5_isAhead_40 rfl ?_
      refine w_ald w dX5_isAhead_41 (by decide) (by first | rfl | assumption) (by first | assumption | (show _ < 8; omega) | (show _ < 24; omega) | (show _ < 9; omega)) ?_
      refine g_icmp_ge 49 dX5_isAhead_42 (by decide) (fun c_42 => ?_) (fun c_42 => ?_)
      · skip
        refine g_iconst (v := 0) dX5_isAhead_49 (by decide) ?_
        refine g_iret dX5_isAhead_50 rfl rfl (by decide) (by decide) ?_
        refine ⟨?_, rfl⟩
        repeat (first | rw [if_pos (by assumption)] | rw [if_neg (by assumption)])
      · skip
        refine g_iconst (v := 1) dX5_isAhead_45 (by decide) ?_
        refine g_goto 50 dX5_isAhead_46 (by decide) ?_
        refine g_iret dX5_isAhead_50 rfl rfl (by decide) (by decide) ?_
        refine ⟨?_, rfl⟩
        repeat (first | rw [if_pos (by assumption)] | rw [if_neg (by assumption)])
set_option maxRecDepth 100000 in
set_option maxHeartbeats 4000000 in
theorem c_X5_before_f {l : Launch} (hlt : l.stackTraces = false) {N n p : Nat} {ord : List Nat} {L : Nat → Nat → Nat} {Γ : Nat → Nat → Nat → Int32} {o : Int64} {h : am_H} (w : WI N n p ord L Γ o h) {i q : Nat} (hi : i < 9) (hq : q < 24) (e : Γ 12 31 i = nI q) : am_Con l yX5_before (.code yX5_before cX5_before 2 (some .int)) 1 0 0 [.ref (L 11 0), .int (nI i)] h (fun v h' => v = some (.int (Γ 12 25 q)) ∧ h' = h) (fun _ _ => False) := by
  refine am_body hlt (by decide +kernel) (Nat.le_of_ble_eq_true rfl) (fun k hl hR h0 hno => ?_)
  subst hl
  have hm : wdm n p 11 0 = true := rfl
  refine g_aload_n dX5_before_0 rfl ?_
  refine w_getR w dX5_before_1 fl_X5_80 rfl rfl (by assumption) rfl ?_
  refine g_iload_n dX5_before_4 rfl ?_
  refine w_ald w dX5_before_5 (by decide) (by first | rfl | assumption) (by first | assumption | (show _ < 8; omega) | (show _ < 24; omega) | (show _ < 9; omega)) ?_
  refine g_bipush (v := 24) dX5_before_6 (by decide) ?_
  rw [e]
  refine g_icmp_ge 25 dX5_before_8 (by decide) (fun c_8 => ?_) (fun c_8 => ?_)
  · skip
    refine g_aload_n dX5_before_25 rfl ?_
    refine w_getR w dX5_before_26 fl_X5_68 rfl rfl (by assumption) rfl ?_
    refine g_aload_n dX5_before_29 rfl ?_
    refine w_getR w dX5_before_30 fl_X5_80 rfl rfl (by assumption) rfl ?_
    refine g_iload_n dX5_before_33 rfl ?_
    refine w_ald w dX5_before_34 (by decide) (by first | rfl | assumption) (by first | assumption | (show _ < 8; omega) | (show _ < 24; omega) | (show _ < 9; omega)) ?_
    refine g_bipush (v := 24) dX5_before_35 (by decide) ?_
    refine g_isub dX5_before_37 ?_
    exact absurd c_8 (nI_ge (a := q) (b := 24) (by omega) (by decide))
    
  · skip
    refine g_aload_n dX5_before_11 rfl ?_
    refine w_getR w dX5_before_12 fl_X5_65 rfl rfl (by assumption) rfl ?_
    refine g_aload_n dX5_before_15 rfl ?_
    refine w_getR w dX5_before_16 fl_X5_80 rfl rfl (by assumption) rfl ?_
    refine g_iload_n dX5_before_19 rfl ?_
    refine w_ald w dX5_before_20 (by decide) (by first | rfl | assumption) (by first | assumption | (show _ < 8; omega) | (show _ < 24; omega) | (show _ < 9; omega)) ?_
    rw [e]
    refine w_ald w dX5_before_21 (by decide) (by first | rfl | assumption) (by first | assumption | (show _ < 8; omega) | (show _ < 24; omega) | (show _ < 9; omega)) ?_
    refine g_goto 39 dX5_before_22 (by decide) ?_
    refine g_iret dX5_before_39 rfl rfl (by decide) (by decide) ?_
    exact ⟨rfl, rfl⟩
