set_option maxRecDepth 100000 in
set_option maxHeartbeats 4000000 in
theorem c_X0_set_t {l : Launch} (hlt : l.stackTraces = false) {N n p : Nat} {ord : List Nat} {L : Nat → Nat → Nat} {Γ : Nat → Nat → Nat → Int32} {o : Int64} {h : am_H} (w : WI N n p ord L Γ o h) {i : Nat} (hi : wdm n p 1 i = true) (a b c : Int32) : am_Con l yX0_set (.code yX0_set cX0_set 4 none) 1 0 0 [.ref (L 1 i), .int a, .int b, .int c] h (fun v h' => v = none ∧ WI N n p ord L (u3 (u3 (u3 (u3 Γ 1 i 0 1) 1 i 1 a) 1 i 2 b) 1 i 3 c) o h') (fun _ _ => False) := by
  refine am_body hlt (by decide +kernel) (Nat.le_of_ble_eq_true rfl) (fun k hl hR h0 hno => ?_)
  refine g_aload_n dX0_set_0 rfl ?_
  refine g_iconst (v := 1) dX0_set_1 (by decide) ?_
  refine w_putI w dX0_set_2 fl_X0_7 rfl rfl (by decide) (fun q hq => by cases hq; rfl) (by assumption) rfl rfl (fun h1 w1 => ?_)
  refine g_aload_n dX0_set_5 rfl ?_
  refine g_iload_n dX0_set_6 rfl ?_
  refine w_putI w1 dX0_set_7 fl_X0_13 rfl rfl (by decide) (fun q hq => by cases hq; rfl) (by assumption) rfl rfl (fun h2 w2 => ?_)
  refine g_aload_n dX0_set_10 rfl ?_
  refine g_iload_n dX0_set_11 rfl ?_
  refine w_putI w2 dX0_set_12 fl_X0_17 rfl rfl (by decide) (fun q hq => by cases hq; rfl) (by assumption) rfl rfl (fun h3 w3 => ?_)
  refine g_aload_n dX0_set_15 rfl ?_
  refine g_iload_n dX0_set_16 rfl ?_
  refine w_putI w3 dX0_set_17 fl_X0_20 rfl rfl (by decide) (fun q hq => by cases hq; rfl) (by assumption) rfl rfl (fun h4 w4 => ?_)
  refine g_vret dX0_set_20 rfl (by decide) (by decide) ?_
  exact ⟨rfl, w4⟩
set_option maxRecDepth 100000 in
set_option maxHeartbeats 4000000 in
theorem c_X0_set_s {l : Launch} (hlt : l.stackTraces = false) {N n p : Nat} {ord : List Nat} {L : Nat → Nat → Nat} {Γ : Nat → Nat → Nat → Int32} {o : Int64} {h : am_H} (w : WI N n p ord L Γ o h) {i : Nat} (hi : wdm n p 0 i = true) (a b c : Int32) : am_Con l yX0_set (.code yX0_set cX0_set 4 none) 1 0 0 [.ref (L 0 i), .int a, .int b, .int c] h (fun v h' => v = none ∧ WI N n p ord L (u3 (u3 (u3 (u3 Γ 0 i 0 1) 0 i 1 a) 0 i 2 b) 0 i 3 c) o h') (fun _ _ => False) := by
  refine am_body hlt (by decide +kernel) (Nat.le_of_ble_eq_true rfl) (fun k hl hR h0 hno => ?_)
  refine g_aload_n dX0_set_0 rfl ?_
  refine g_iconst (v := 1) dX0_set_1 (by decide) ?_
  refine w_putI w dX0_set_2 fl_X0_7 rfl rfl (by decide) (fun q hq => by cases hq; rfl) (by assumption) rfl rfl (fun h1 w1 => ?_)
  refine g_aload_n dX0_set_5 rfl ?_
  refine g_iload_n dX0_set_6 rfl ?_
  refine w_putI w1 dX0_set_7 fl_X0_13 rfl rfl (by decide) (fun q hq => by cases hq; rfl) (by assumption) rfl rfl (fun h2 w2 => ?_)
  refine g_aload_n dX0_set_10 rfl ?_
  refine g_iload_n dX0_set_11 rfl ?_
  refine w_putI w2 dX0_set_12 fl_X0_17 rfl rfl (by decide) (fun q hq => by cases hq; rfl) (by assumption) rfl rfl (fun h3 w3 => ?_)
  refine g_aload_n dX0_set_15 rfl ?_
  refine g_iload_n dX0_set_16 rfl ?_
  refine w_putI w3 dX0_set_17 fl_X0_20 rfl rfl (by decide) (fun q hq => by cases hq; rfl) (by assumption) rfl rfl (fun h4 w4 => ?_)
  refine g_vret dX0_set_20 rfl (by decide) (by decide) ?_
  exact ⟨rfl, w4⟩
set_option maxRecDepth 100000 in
set_option maxHeartbeats 4000000 in
theorem c_X1_pay {l : Launch} (hlt : l.stackTraces = false) {N n p : Nat} {ord : List Nat} {L : Nat → Nat → Nat} {Γ : Nat → Nat → Nat → Int32} {o : Int64} {h : am_H} (w : WI N n p ord L Γ o h) {i : Nat} (hi : wdm n p 2 i = true) : am_Con l yX1_pay (.code yX1_pay cX1_pay 1 none) 1 0 0 [.ref (L 2 i)] h (fun v h' => v = none ∧ WI N n p ord L (u3 Γ 2 i 9 (Γ 2 i 9 + Γ 0 i 1 * Γ 2 i 8)) o h') (fun _ _ => False) := by
  refine am_body hlt (by decide +kernel) (Nat.le_of_ble_eq_true rfl) (fun k hl hR h0 hno => ?_)
  refine g_aload_n dX1_pay_0 rfl ?_
  refine g_dup dX1_pay_1 rfl ?_
  refine w_getI w dX1_pay_2 fl_X1_33 rfl rfl (by assumption) ?_
  refine g_aload_n dX1_pay_5 rfl ?_
  refine w_getR w dX1_pay_6 fl_X1_16 rfl rfl (by assumption) rfl ?_
  refine w_getI w dX1_pay_9 fl_X1_60 rfl rfl (by assumption) ?_
  refine g_aload_n dX1_pay_12 rfl ?_
  refine w_getI w dX1_pay_13 fl_X1_30 rfl rfl (by assumption) ?_
  refine g_imul dX1_pay_16 ?_
  refine g_iadd dX1_pay_17 ?_
  refine w_putI w dX1_pay_18 fl_X1_33 rfl rfl (by decide) (fun q hq => by cases hq; rfl) (by assumption) rfl rfl (fun h1 w1 => ?_)
  refine g_vret dX1_pay_21 rfl (by decide) (by decide) ?_
  exact ⟨rfl, w1⟩
