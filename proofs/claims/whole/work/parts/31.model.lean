set_option maxRecDepth 100000 in
set_option maxHeartbeats 4000000 in
theorem c_X5_standing {l : Launch} (hlt : l.stackTraces = false) {N n p : Nat} {ord : List Nat} {L : Nat → Nat → Nat} {Γ : Nat → Nat → Nat → Int32} {o : Int64} {h : am_H} (w : WI N n p ord L Γ o h) {b : Nat} (hb : b ≤ 8) (en : Γ 11 0 3 = nI b)  : am_Con l yX5_standing (.code yX5_standing cX5_standing 3 (some .int)) 1 0 0 [.ref (L 11 0)] h (fun v h' => v = some (.int (sp_sum (fun j => if Γ 13 10 j = 0 then 0 else 1) b)) ∧ h' = h) (fun _ _ => False) := by
  refine am_body hlt (by decide +kernel) (Nat.le_of_ble_eq_true rfl) (fun k hl hR h0 hno => ?_)
  subst hl
  obtain ⟨Qf, hQ⟩ : ∃ Qf, Qf = am_Q k 0 0 (fun v h' => v = some (.int (sp_sum (fun j => if Γ 13 10 j = 0 then 0 else 1) b)) ∧ h' = h) (fun _ _ => False) := ⟨_, rfl⟩
  rw [← hQ]
  refine g_iconst (v := 0) dX5_standing_0 (by decide) ?_
  refine g_istore_n dX5_standing_1 (by decide) rfl ?_
  refine g_iconst (v := 0) dX5_standing_2 (by decide) ?_
  refine g_istore_n dX5_standing_3 (by decide) rfl ?_
  have lp_4 : ∀ (f : Nat) (j : Nat) (x : Int32), j ≤ b → b - j < f → x = sp_sum (fun j => if Γ 13 10 j = 0 then 0 else 1) j → am_G k RX5 yX5_standing.name cX5_standing 3 (some .int) 0 0 Qf 4 [(2, .int (nI j)), (1, .int x), (0, .ref (L 11 0))] [] h := by
    intro f
    induction f with
    | zero => intro j x hj hf ex; omega
    | succ f ih =>
      intro j x hj hf ex
      refine g_iload_n dX5_standing_4 rfl ?_
      refine g_aload_n dX5_standing_5 rfl ?_
      refine w_getI w dX5_standing_6 fl_X5_93 rfl rfl (by first | rfl | assumption) ?_
      rw [en]
      refine gN_ge 35 dX5_standing_9 (by decide) (by omega) (by omega) (fun c_9 => ?_) (fun c_9 => ?_)
      · skip
        refine g_iload_n dX5_standing_35 rfl ?_
        rw [hQ]
        refine g_iret dX5_standing_36 rfl rfl (by decide) (by decide) ?_
        have ej : j = b := by omega
        subst ej
        exact ⟨by rw [ex], rfl⟩
      · skip
        refine g_iload_n dX5_standing_12 rfl ?_
        refine g_aload_n dX5_standing_13 rfl ?_
        refine w_getR w dX5_standing_14 fl_X5_28 rfl rfl (by first | rfl | assumption) rfl ?_
        refine g_iload_n dX5_standing_17 rfl ?_
        refine w_zald w dX5_standing_18 (by first | rfl | assumption) (by first | assumption | omega | (show _ < 8; omega) | (show _ < 24; omega) | (show _ < 9; omega)) ?_
        refine g_if_eq 26 dX5_standing_19 (by decide) (fun c_19 => ?_) (fun c_19 => ?_)
        · skip
          refine g_iconst (v := 0) dX5_standing_26 (by decide) ?_
          refine g_iadd dX5_standing_27 ?_
          refine g_istore_n dX5_standing_28 (by decide) rfl ?_
          refine g_iinc dX5_standing_29 rfl (nI_i1 _) (by decide) rfl ?_
          refine g_goto 4 dX5_standing_32 (by decide) ?_
          refine g_ls [(2, .int (nI (j + 1))), (1, .int _), (0, .ref (L 11 0))] ⟨rfl, rfl, rfl, trivial⟩ ?_
          exact ih (j + 1) _ (by omega) (by omega) (by rw [ex]; simp only [sp_sum, reduceIte, c_9, c_19])
        · skip
          refine g_iconst (v := 1) dX5_standing_22 (by decide) ?_
          refine g_goto 27 dX5_standing_23 (by decide) ?_
          refine g_iadd dX5_standing_27 ?_
          refine g_istore_n dX5_standing_28 (by decide) rfl ?_
          refine g_iinc dX5_standing_29 rfl (nI_i1 _) (by decide) rfl ?_
          refine g_goto 4 dX5_standing_32 (by decide) ?_
          refine g_ls [(2, .int (nI (j + 1))), (1, .int _), (0, .ref (L 11 0))] ⟨rfl, rfl, rfl, trivial⟩ ?_
          exact ih (j + 1) _ (by omega) (by omega) (by rw [ex]; simp only [sp_sum, reduceIte, c_9, c_19])
  refine g_ls [(2, .int (nI 0)), (1, .int 0), (0, .ref (L 11 0))] ⟨rfl, rfl, rfl, trivial⟩ ?_
  exact lp_4 (b + 1) 0 0 (by omega) (by omega) rfl
set_option maxRecDepth 100000 in
set_option maxHeartbeats 4000000 in
theorem c_X5_toldNow {l : Launch} (hlt : l.stackTraces = false) {N n p : Nat} {ord : List Nat} {L : Nat → Nat → Nat} {Γ : Nat → Nat → Nat → Int32} {o : Int64} {h : am_H} (w : WI N n p ord L Γ o h) {b : Nat} (hb : b ≤ 8) (en : Γ 11 0 3 = nI b)  : am_Con l yX5_toldNow (.code yX5_toldNow cX5_toldNow 3 (some .int)) 1 0 0 [.ref (L 11 0)] h (fun v h' => v = some (.int (sp_sum (fun j => if Γ 13 14 j = 0 then 0 else 1) b)) ∧ h' = h) (fun _ _ => False) := by
  refine am_body hlt (by decide +kernel) (Nat.le_of_ble_eq_true rfl) (fun k hl hR h0 hno => ?_)
  subst hl
  obtain ⟨Qf, hQ⟩ : ∃ Qf, Qf = am_Q k 0 0 (fun v h' => v = some (.int (sp_sum (fun j => if Γ 13 14 j = 0 then 0 else 1) b)) ∧ h' = h) (fun _ _ => False) := ⟨_, rfl⟩
  rw [← hQ]
  refine g_iconst (v := 0) dX5_toldNow_0 (by decide) ?_
  refine g_istore_n dX5_toldNow_1 (by decide) rfl ?_
  refine g_iconst (v := 0) dX5_toldNow_2 (by decide) ?_
  refine g_istore_n dX5_toldNow_3 (by decide) rfl ?_
  have lp_4 : ∀ (f : Nat) (j : Nat) (x : Int32), j ≤ b → b - j < f → x = sp_sum (fun j => if Γ 13 14 j = 0 then 0 else 1) j → am_G k RX5 yX5_toldNow.name cX5_toldNow 3 (some .int) 0 0 Qf 4 [(2, .int (nI j)), (1, .int x), (0, .ref (L 11 0))] [] h := by
    intro f
    induction f with
    | zero => intro j x hj hf ex; omega
    | succ f ih =>
      intro j x hj hf ex
      refine g_iload_n dX5_toldNow_4 rfl ?_
      refine g_aload_n dX5_toldNow_5 rfl ?_
      refine w_getI w dX5_toldNow_6 fl_X5_93 rfl rfl (by first | rfl | assumption) ?_
      rw [en]
      refine gN_ge 35 dX5_toldNow_9 (by decide) (by omega) (by omega) (fun c_9 => ?_) (fun c_9 => ?_)
      · skip
        refine g_iload_n dX5_toldNow_35 rfl ?_
        rw [hQ]
        refine g_iret dX5_toldNow_36 rfl rfl (by decide) (by decide) ?_
        have ej : j = b := by omega
        subst ej
        exact ⟨by rw [ex], rfl⟩
      · skip
        refine g_iload_n dX5_toldNow_12 rfl ?_
        refine g_aload_n dX5_toldNow_13 rfl ?_
        refine w_getR w dX5_toldNow_14 fl_X5_41 rfl rfl (by first | rfl | assumption) rfl ?_
        refine g_iload_n dX5_toldNow_17 rfl ?_
        refine w_zald w dX5_toldNow_18 (by first | rfl | assumption) (by first | assumption | omega | (show _ < 8; omega) | (show _ < 24; omega) | (show _ < 9; omega)) ?_
        refine g_if_eq 26 dX5_toldNow_19 (by decide) (fun c_19 => ?_) (fun c_19 => ?_)
        · skip
          refine g_iconst (v := 0) dX5_toldNow_26 (by decide) ?_
          refine g_iadd dX5_toldNow_27 ?_
          refine g_istore_n dX5_toldNow_28 (by decide) rfl ?_
          refine g_iinc dX5_toldNow_29 rfl (nI_i1 _) (by decide) rfl ?_
          refine g_goto 4 dX5_toldNow_32 (by decide) ?_
          refine g_ls [(2, .int (nI (j + 1))), (1, .int _), (0, .ref (L 11 0))] ⟨rfl, rfl, rfl, trivial⟩ ?_
          exact ih (j + 1) _ (by omega) (by omega) (by rw [ex]; simp only [sp_sum, reduceIte, c_9, c_19])
        · skip
          refine g_iconst (v := 1) dX5_toldNow_22 (by decide) ?_
          refine g_goto 27 dX5_toldNow_23 (by decide) ?_
          refine g_iadd dX5_toldNow_27 ?_
          refine g_istore_n dX5_toldNow_28 (by decide) rfl ?_
          refine g_iinc dX5_toldNow_29 rfl (nI_i1 _) (by decide) rfl ?_
          refine g_goto 4 dX5_toldNow_32 (by decide) ?_
          refine g_ls [(2, .int (nI (j + 1))), (1, .int _), (0, .ref (L 11 0))] ⟨rfl, rfl, rfl, trivial⟩ ?_
          exact ih (j + 1) _ (by omega) (by omega) (by rw [ex]; simp only [sp_sum, reduceIte, c_9, c_19])
  refine g_ls [(2, .int (nI 0)), (1, .int 0), (0, .ref (L 11 0))] ⟨rfl, rfl, rfl, trivial⟩ ?_
  exact lp_4 (b + 1) 0 0 (by omega) (by omega) rfl
set_option maxRecDepth 100000 in
set_option maxHeartbeats 4000000 in
theorem c_X5_burstPipes {l : Launch} (hlt : l.stackTraces = false) {N n p : Nat} {ord : List Nat} {L : Nat → Nat → Nat} {Γ : Nat → Nat → Nat → Int32} {o : Int64} {h : am_H} (w : WI N n p ord L Γ o h) {q : Nat} (hq : q ≤ 24) (ep : Γ 11 0 24 = nI q)  : am_Con l yX5_burstPipes (.code yX5_burstPipes cX5_burstPipes 3 (some .int)) 1 0 0 [.ref (L 11 0)] h (fun v h' => v = some (.int (sp_sum (fun j => if Γ 13 28 j = 0 then 0 else 1) q)) ∧ h' = h) (fun _ _ => False) := by
  refine am_body hlt (by decide +kernel) (Nat.le_of_ble_eq_true rfl) (fun k hl hR h0 hno => ?_)
  subst hl
  obtain ⟨Qf, hQ⟩ : ∃ Qf, Qf = am_Q k 0 0 (fun v h' => v = some (.int (sp_sum (fun j => if Γ 13 28 j = 0 then 0 else 1) q)) ∧ h' = h) (fun _ _ => False) := ⟨_, rfl⟩
  rw [← hQ]
  refine g_iconst (v := 0) dX5_burstPipes_0 (by decide) ?_
  refine g_istore_n dX5_burstPipes_1 (by decide) rfl ?_
  refine g_iconst (v := 0) dX5_burstPipes_2 (by decide) ?_
  refine g_istore_n dX5_burstPipes_3 (by decide) rfl ?_
  have lp_4 : ∀ (f : Nat) (j : Nat) (x : Int32), j ≤ q → q - j < f → x = sp_sum (fun j => if Γ 13 28 j = 0 then 0 else 1) j → am_G k RX5 yX5_burstPipes.name cX5_burstPipes 3 (some .int) 0 0 Qf 4 [(2, .int (nI j)), (1, .int x), (0, .ref (L 11 0))] [] h := by
    intro f
    induction f with
    | zero => intro j x hj hf ex; omega
    | succ f ih =>
      intro j x hj hf ex
      refine g_iload_n dX5_burstPipes_4 rfl ?_
      refine g_aload_n dX5_burstPipes_5 rfl ?_
      refine w_getI w dX5_burstPipes_6 fl_X5_100 rfl rfl (by first | rfl | assumption) ?_
      rw [ep]
      refine gN_ge 35 dX5_burstPipes_9 (by decide) (by omega) (by omega) (fun c_9 => ?_) (fun c_9 => ?_)
      · skip
        refine g_iload_n dX5_burstPipes_35 rfl ?_
        rw [hQ]
        refine g_iret dX5_burstPipes_36 rfl rfl (by decide) (by decide) ?_
        have ej : j = q := by omega
        subst ej
        exact ⟨by rw [ex], rfl⟩
      · skip
        refine g_iload_n dX5_burstPipes_12 rfl ?_
        refine g_aload_n dX5_burstPipes_13 rfl ?_
        refine w_getR w dX5_burstPipes_14 fl_X5_74 rfl rfl (by first | rfl | assumption) rfl ?_
        refine g_iload_n dX5_burstPipes_17 rfl ?_
        refine w_zald w dX5_burstPipes_18 (by first | rfl | assumption) (by first | assumption | omega | (show _ < 8; omega) | (show _ < 24; omega) | (show _ < 9; omega)) ?_
        refine g_if_eq 26 dX5_burstPipes_19 (by decide) (fun c_19 => ?_) (fun c_19 => ?_)
        · skip
          refine g_iconst (v := 0) dX5_burstPipes_26 (by decide) ?_
          refine g_iadd dX5_burstPipes_27 ?_
          refine g_istore_n dX5_burstPipes_28 (by decide) rfl ?_
          refine g_iinc dX5_burstPipes_29 rfl (nI_i1 _) (by decide) rfl ?_
          refine g_goto 4 dX5_burstPipes_32 (by decide) ?_
          refine g_ls [(2, .int (nI (j + 1))), (1, .int _), (0, .ref (L 11 0))] ⟨rfl, rfl, rfl, trivial⟩ ?_
          exact ih (j + 1) _ (by omega) (by omega) (by rw [ex]; simp only [sp_sum, reduceIte, c_9, c_19])
        · skip
          refine g_iconst (v := 1) dX5_burstPipes_22 (by decide) ?_
          refine g_goto 27 dX5_burstPipes_23 (by decide) ?_
          refine g_iadd dX5_burstPipes_27 ?_
          refine g_istore_n dX5_burstPipes_28 (by decide) rfl ?_
          refine g_iinc dX5_burstPipes_29 rfl (nI_i1 _) (by decide) rfl ?_
          refine g_goto 4 dX5_burstPipes_32 (by decide) ?_
          refine g_ls [(2, .int (nI (j + 1))), (1, .int _), (0, .ref (L 11 0))] ⟨rfl, rfl, rfl, trivial⟩ ?_
          exact ih (j + 1) _ (by omega) (by omega) (by rw [ex]; simp only [sp_sum, reduceIte, c_9, c_19])
  refine g_ls [(2, .int (nI 0)), (1, .int 0), (0, .ref (L 11 0))] ⟨rfl, rfl, rfl, trivial⟩ ?_
  exact lp_4 (q + 1) 0 0 (by omega) (by omega) rfl
set_option maxRecDepth 100000 in
set_option maxHeartbeats 4000000 in
theorem c_X5_sum6 {l : Launch} (hlt : l.stackTraces = false) {N n p : Nat} {ord : List Nat} {L : Nat → Nat → Nat} {Γ : Nat → Nat → Nat → Int32} {o : Int64} {h : am_H} (w : WI N n p ord L Γ o h) {b : Nat} (hb : b ≤ 8) (en : Γ 11 0 3 = nI b)  : am_Con l yX5_sum (.code yX5_sum cX5_sum 4 (some .int)) 1 0 0 [.ref (L 11 0), .ref (L 12 6)] h (fun v h' => v = some (.int (sp_sum (fun j => Γ 12 6 j) b)) ∧ h' = h) (fun _ _ => False) := by
  refine am_body hlt (by decide +kernel) (Nat.le_of_ble_eq_true rfl) (fun k hl hR h0 hno => ?_)
  subst hl
  obtain ⟨Qf, hQ⟩ : ∃ Qf, Qf = am_Q k 0 0 (fun v h' => v = some (.int (sp_sum (fun j => Γ 12 6 j) b)) ∧ h' = h) (fun _ _ => False) := ⟨_, rfl⟩
  rw [← hQ]
  refine g_iconst (v := 0) dX5_sum_0 (by decide) ?_
  refine g_istore_n dX5_sum_1 (by decide) rfl ?_
  refine g_iconst (v := 0) dX5_sum_2 (by decide) ?_
  refine g_istore_n dX5_sum_3 (by decide) rfl ?_
  have lp_4 : ∀ (f : Nat) (j : Nat) (x : Int32), j ≤ b → b - j < f → x = sp_sum (fun j => Γ 12 6 j) j → am_G k RX5 yX5_sum.name cX5_sum 4 (some .int) 0 0 Qf 4 [(3, .int (nI j)), (2, .int x), (1, .ref (L 12 6)), (0, .ref (L 11 0))] [] h := by
    intro f
    induction f with
    | zero => intro j x hj hf ex; omega
    | succ f ih =>
      intro j x hj hf ex
      refine g_iload_n dX5_sum_4 rfl ?_
      refine g_aload_n dX5_sum_5 rfl ?_
      refine w_getI w dX5_sum_6 fl_X5_93 rfl rfl (by first | rfl | assumption) ?_
      rw [en]
      refine gN_ge 24 dX5_sum_9 (by decide) (by omega) (by omega) (fun c_9 => ?_) (fun c_9 => ?_)
      · skip
        refine g_iload_n dX5_sum_24 rfl ?_
        rw [hQ]
        refine g_iret dX5_sum_25 rfl rfl (by decide) (by decide) ?_
        have ej : j = b := by omega
        subst ej
        exact ⟨by rw [ex], rfl⟩
      · skip
        refine g_iload_n dX5_sum_12 rfl ?_
        refine g_aload_n dX5_sum_13 rfl ?_
        refine g_iload_n dX5_sum_14 rfl ?_
        refine w_ald w dX5_sum_15 (by decide) (by first | rfl | assumption) (by first | assumption | omega | (show _ < 8; omega) | (show _ < 24; omega) | (show _ < 9; omega)) ?_
        refine g_iadd dX5_sum_16 ?_
        refine g_istore_n dX5_sum_17 (by decide) rfl ?_
        refine g_iinc dX5_sum_18 rfl (nI_i1 _) (by decide) rfl ?_
        refine g_goto 4 dX5_sum_21 (by decide) ?_
        refine g_ls [(3, .int (nI (j + 1))), (2, .int _), (1, .ref (L 12 6)), (0, .ref (L 11 0))] ⟨rfl, rfl, rfl, rfl, trivial⟩ ?_
        exact ih (j + 1) _ (by omega) (by omega) (by rw [ex]; simp only [sp_sum, reduceIte, c_9])
  refine g_ls [(3, .int (nI 0)), (2, .int 0), (1, .ref (L 12 6)), (0, .ref (L 11 0))] ⟨rfl, rfl, rfl, rfl, trivial⟩ ?_
  exact lp_4 (b + 1) 0 0 (by omega) (by omega) rfl
set_option maxRecDepth 100000 in
set_option maxHeartbeats 4000000 in
theorem c_X5_sum17 {l : Launch} (hlt : l.stackTraces = false) {N n p : Nat} {ord : List Nat} {L : Nat → Nat → Nat} {Γ : Nat → Nat → Nat → Int32} {o : Int64} {h : am_H} (w : WI N n p ord L Γ o h) {b : Nat} (hb : b ≤ 8) (en : Γ 11 0 3 = nI b)  : am_Con l yX5_sum (.code yX5_sum cX5_sum 4 (some .int)) 1 0 0 [.ref (L 11 0), .ref (L 12 17)] h (fun v h' => v = some (.int (sp_sum (fun j => Γ 12 17 j) b)) ∧ h' = h) (fun _ _ => False) := by
  refine am_body hlt (by decide +kernel) (Nat.le_of_ble_eq_true rfl) (fun k hl hR h0 hno => ?_)
  subst hl
  obtain ⟨Qf, hQ⟩ : ∃ Qf, Qf = am_Q k 0 0 (fun v h' => v = some (.int (sp_sum (fun j => Γ 12 17 j) b)) ∧ h' = h) (fun _ _ => False) := ⟨_, rfl⟩
  rw [← hQ]
  refine g_iconst (v := 0) dX5_sum_0 (by decide) ?_
  refine g_istore_n dX5_sum_1 (by decide) rfl ?_
  refine g_iconst (v := 0) dX5_sum_2 (by decide) ?_
  refine g_istore_n dX5_sum_3 (by decide) rfl ?_
  have lp_4 : ∀ (f : Nat) (j : Nat) (x : Int32), j ≤ b → b - j < f → x = sp_sum (fun j => Γ 12 17 j) j → am_G k RX5 yX5_sum.name cX5_sum 4 (some .int) 0 0 Qf 4 [(3, .int (nI j)), (2, .int x), (1, .ref (L 12 17)), (0, .ref (L 11 0))] [] h := by
    intro f
    induction f with
    | zero => intro j x hj hf ex; omega
    | succ f ih =>
      intro j x hj hf ex
      refine g_iload_n dX5_sum_4 rfl ?_
      refine g_aload_n dX5_sum_5 rfl ?_
      refine w_getI w dX5_sum_6 fl_X5_93 rfl rfl (by first | rfl | assumption) ?_
      rw [en]
      refine gN_ge 24 dX5_sum_9 (by decide) (by omega) (by omega) (fun c_9 => ?_) (fun c_9 => ?_)
      · skip
        refine g_iload_n dX5_sum_24 rfl ?_
        rw [hQ]
        refine g_iret dX5_sum_25 rfl rfl (by decide) (by decide) ?_
        have ej : j = b := by omega
        subst ej
        exact ⟨by rw [ex], rfl⟩
      · skip
        refine g_iload_n dX5_sum_12 rfl ?_
        refine g_aload_n dX5_sum_13 rfl ?_
        refine g_iload_n dX5_sum_14 rfl ?_
        refine w_ald w dX5_sum_15 (by decide) (by first | rfl | assumption) (by first | assumption | omega | (show _ < 8; omega) | (show _ < 24; omega) | (show _ < 9; omega)) ?_
        refine g_iadd dX5_sum_16 ?_
        refine g_istore_n dX5_sum_17 (by decide) rfl ?_
        refine g_iinc dX5_sum_18 rfl (nI_i1 _) (by decide) rfl ?_
        refine g_goto 4 dX5_sum_21 (by decide) ?_
        refine g_ls [(3, .int (nI (j + 1))), (2, .int _), (1, .ref (L 12 17)), (0, .ref (L 11 0))] ⟨rfl, rfl, rfl, rfl, trivial⟩ ?_
        exact ih (j + 1) _ (by omega) (by omega) (by rw [ex]; simp only [sp_sum, reduceIte, c_9])
  refine g_ls [(3, .int (nI 0)), (2, .int 0), (1, .ref (L 12 17)), (0, .ref (L 11 0))] ⟨rfl, rfl, rfl, rfl, trivial⟩ ?_
  exact lp_4 (b + 1) 0 0 (by omega) (by omega) rfl
set_option maxRecDepth 100000 in
set_option maxHeartbeats 4000000 in
theorem c_X5_sum18 {l : Launch} (hlt : l.stackTraces = false) {N n p : Nat} {ord : List Nat} {L : Nat → Nat → Nat} {Γ : Nat → Nat → Nat → Int32} {o : Int64} {h : am_H} (w : WI N n p ord L Γ o h) {b : Nat} (hb : b ≤ 8) (en : Γ 11 0 3 = nI b)  : am_Con l yX5_sum (.code yX5_sum cX5_sum 4 (some .int)) 1 0 0 [.ref (L 11 0), .ref (L 12 18)] h (fun v h' => v = some (.int (sp_sum (fun j => Γ 12 18 j) b)) ∧ h' = h) (fun _ _ => False) := by
  refine am_body hlt (by decide +kernel) (Nat.le_of_ble_eq_true rfl) (fun k hl hR h0 hno => ?_)
  subst hl
  obtain ⟨Qf, hQ⟩ : ∃ Qf, Qf = am_Q k 0 0 (fun v h' => v = some (.int (sp_sum (fun j => Γ 12 18 j) b)) ∧ h' = h) (fun _ _ => False) := ⟨_, rfl⟩
  rw [← hQ]
  refine g_iconst (v := 0) dX5_sum_0 (by decide) ?_
  refine g_istore_n dX5_sum_1 (by decide) rfl ?_
  refine g_iconst (v := 0) dX5_sum_2 (by decide) ?_
  refine g_istore_n dX5_sum_3 (by decide) rfl ?_
  have lp_4 : ∀ (f : Nat) (j : Nat) (x : Int32), j ≤ b → b - j < f → x = sp_sum (fun j => Γ 12 18 j) j → am_G k RX5 yX5_sum.name cX5_sum 4 (some .int) 0 0 Qf 4 [(3, .int (nI j)), (2, .int x), (1, .ref (L 12 18)), (0, .ref (L 11 0))] [] h := by
    intro f
    induction f with
    | zero => intro j x hj hf ex; omega
    | succ f ih =>
      intro j x hj hf ex
      refine g_iload_n dX5_sum_4 rfl ?_
      refine g_aload_n dX5_sum_5 rfl ?_
      refine w_getI w dX5_sum_6 fl_X5_93 rfl rfl (by first | rfl | assumption) ?_
      rw [en]
      refine gN_ge 24 dX5_sum_9 (by decide) (by omega) (by omega) (fun c_9 => ?_) (fun c_9 => ?_)
      · skip
        refine g_iload_n dX5_sum_24 rfl ?_
        rw [hQ]
        refine g_iret dX5_sum_25 rfl rfl (by decide) (by decide) ?_
        have ej : j = b := by omega
        subst ej
        exact ⟨by rw [ex], rfl⟩
      · skip
        refine g_iload_n dX5_sum_12 rfl ?_
        refine g_aload_n dX5_sum_13 rfl ?_
        refine g_iload_n dX5_sum_14 rfl ?_
        refine w_ald w dX5_sum_15 (by decide) (by first | rfl | assumption) (by first | assumption | omega | (show _ < 8; omega) | (show _ < 24; omega) | (show _ < 9; omega)) ?_
        refine g_iadd dX5_sum_16 ?_
        refine g_istore_n dX5_sum_17 (by decide) rfl ?_
        refine g_iinc dX5_sum_18 rfl (nI_i1 _) (by decide) rfl ?_
        refine g_goto 4 dX5_sum_21 (by decide) ?_
        refine g_ls [(3, .int (nI (j + 1))), (2, .int _), (1, .ref (L 12 18)), (0, .ref (L 11 0))] ⟨rfl, rfl, rfl, rfl, trivial⟩ ?_
        exact ih (j + 1) _ (by omega) (by omega) (by rw [ex]; simp only [sp_sum, reduceIte, c_9])
  refine g_ls [(3, .int (nI 0)), (2, .int 0), (1, .ref (L 12 18)), (0, .ref (L 11 0))] ⟨rfl, rfl, rfl, rfl, trivial⟩ ?_
  exact lp_4 (b + 1) 0 0 (by omega) (by omega) rfl
set_option maxRecDepth 100000 in
set_option maxHeartbeats 4000000 in
theorem c_X5_sum19 {l : Launch} (hlt : l.stackTraces = false) {N n p : Nat} {ord : List Nat} {L : Nat → Nat → Nat} {Γ : Nat → Nat → Nat → Int32} {o : Int64} {h : am_H} (w : WI N n p ord L Γ o h) {b : Nat} (hb : b ≤ 8) (en : Γ 11 0 3 = nI b)  : am_Con l yX5_sum (.code yX5_sum cX5_sum 4 (some .int)) 1 0 0 [.ref (L 11 0), .ref (L 12 19)] h (fun v h' => v = some (.int (sp_sum (fun j => Γ 12 19 j) b)) ∧ h' = h) (fun _ _ => False) := by
  refine am_body hlt (by decide +kernel) (Nat.le_of_ble_eq_true rfl) (fun k hl hR h0 hno => ?_)
  subst hl
  obtain ⟨Qf, hQ⟩ : ∃ Qf, Qf = am_Q k 0 0 (fun v h' => v = some (.int (sp_sum (fun j => Γ 12 19 j) b)) ∧ h' = h) (fun _ _ => False) := ⟨_, rfl⟩
  rw [← hQ]
  refine g_iconst (v := 0) dX5_sum_0 (by decide) ?_
  refine g_istore_n dX5_sum_1 (by decide) rfl ?_
  refine g_iconst (v := 0) dX5_sum_2 (by decide) ?_
  refine g_istore_n dX5_sum_3 (by decide) rfl ?_
  have lp_4 : ∀ (f : Nat) (j : Nat) (x : Int32), j ≤ b → b - j < f → x = sp_sum (fun j => Γ 12 19 j) j → am_G k RX5 yX5_sum.name cX5_sum 4 (some .int) 0 0 Qf 4 [(3, .int (nI j)), (2, .int x), (1, .ref (L 12 19)), (0, .ref (L 11 0))] [] h := by
    intro f
    induction f with
    | zero => intro j x hj hf ex; omega
    | succ f ih =>
      intro j x hj hf ex
      refine g_iload_n dX5_sum_4 rfl ?_
      refine g_aload_n dX5_sum_5 rfl ?_
      refine w_getI w dX5_sum_6 fl_X5_93 rfl rfl (by first | rfl | assumption) ?_
      rw [en]
      refine gN_ge 24 dX5_sum_9 (by decide) (by omega) (by omega) (fun c_9 => ?_) (fun c_9 => ?_)
      · skip
        refine g_iload_n dX5_sum_24 rfl ?_
        rw [hQ]
        refine g_iret dX5_sum_25 rfl rfl (by decide) (by decide) ?_
        have ej : j = b := by omega
        subst ej
        exact ⟨by rw [ex], rfl⟩
      · skip
        refine g_iload_n dX5_sum_12 rfl ?_
        refine g_aload_n dX5_sum_13 rfl ?_
        refine g_iload_n dX5_sum_14 rfl ?_
        refine w_ald w dX5_sum_15 (by decide) (by first | rfl | assumption) (by first | assumption | omega | (show _ < 8; omega) | (show _ < 24; omega) | (show _ < 9; omega)) ?_
        refine g_iadd dX5_sum_16 ?_
        refine g_istore_n dX5_sum_17 (by decide) rfl ?_
        refine g_iinc dX5_sum_18 rfl (nI_i1 _) (by decide) rfl ?_
        refine g_goto 4 dX5_sum_21 (by decide) ?_
        refine g_ls [(3, .int (nI (j + 1))), (2, .int _), (1, .ref (L 12 19)), (0, .ref (L 11 0))] ⟨rfl, rfl, rfl, rfl, trivial⟩ ?_
        exact ih (j + 1) _ (by omega) (by omega) (by rw [ex]; simp only [sp_sum, reduceIte, c_9])
  refine g_ls [(3, .int (nI 0)), (2, .int 0), (1, .ref (L 12 19)), (0, .ref (L 11 0))] ⟨rfl, rfl, rfl, rfl, trivial⟩ ?_
  exact lp_4 (b + 1) 0 0 (by omega) (by omega) rfl
def sp_ma (Γ : Nat → Nat → Nat → Int32) (i j : Nat) : Int32 := if Γ 12 7 j < Γ 12 7 i then 1 else if Γ 12 7 i = Γ 12 7 j then (if Γ 12 9 j ≤ Γ 12 9 i then 0 else 1) else 0
/-- the place of i among the model's bids that stand -/
def sp_place (Γ : Nat → Nat → Nat → Int32) (b i : Nat) : Int32 := sp_sum (fun j => if Γ 13 10 j = 0 then 0 else if sp_ma Γ j i = 0 then 0 else 1) b
/-- which district stands at a place -/
def sp_at (Γ : Nat → Nat → Nat → Int32) (b : Nat) (pl : Int32) : Nat → Int32
  | 0 => -1
  | j + 1 => if Γ 13 10 j = 0 then sp_at Γ b pl j else if sp_place Γ b j = pl then nI j else sp_at Γ b pl j
set_option maxRecDepth 100000 in
set_option maxHeartbeats 4000000 in
theorem c_X5_placeOf {l : Launch} (hlt : l.stackTraces = false) {N n p : Nat} {ord : List Nat} {L : Nat → Nat → Nat} {Γ : Nat → Nat → Nat → Int32} {o : Int64} {h : am_H} (w : WI N n p ord L Γ o h) {b : Nat} (hb : b ≤ 8) (en : Γ 11 0 3 = nI b) {i : Nat} (hi : i < 8) : am_Con l yX5_placeOf (.code yX5_placeOf cX5_placeOf 4 (some .int)) 2 0 0 [.ref (L 11 0), .int (nI i)] h (fun v h' => v = some (.int (sp_sum (fun j => if Γ 13 10 j = 0 then 0 else if sp_ma Γ j i = 0 then 0 else 1) b)) ∧ h' = h) (fun _ _ => False) := by
  refine am_body hlt (by decide +kernel) (Nat.le_of_ble_eq_true rfl) (fun k hl hR h0 hno => ?_)
  subst hl
  obtain ⟨Qf, hQ⟩ : ∃ Qf, Qf = am_Q k 0 0 (fun v h' => v = some (.int (sp_sum (fun j => if Γ 13 10 j = 0 then 0 else if sp_ma Γ j i = 0 then 0 else 1) b)) ∧ h' = h) (fun _ _ => False) := ⟨_, rfl⟩
  rw [← hQ]
  refine g_iconst (v := 0) dX5_placeOf_0 (by decide) ?_
  refine g_istore_n dX5_placeOf_1 (by decide) rfl ?_
  refine g_iconst (v := 0) dX5_placeOf_2 (by decide) ?_
  refine g_istore_n dX5_placeOf_3 (by decide) rfl ?_
  have lp_4 : ∀ (f : Nat) (j : Nat) (x : Int32), j ≤ b → b - j < f → x = sp_sum (fun j => if Γ 13 10 j = 0 then 0 else if sp_ma Γ j i = 0 then 0 else 1) j → am_G k RX5 yX5_placeOf.name cX5_placeOf 4 (some .int) 0 0 Qf 4 [(3, .int (nI j)), (2, .int x), (1, .int (nI i)), (0, .ref (L 11 0))] [] h := by
    intro f
    induction f with
    | zero => intro j x hj hf ex; omega
    | succ f ih =>
      intro j x hj hf ex
      refine g_iload_n dX5_placeOf_4 rfl ?_
      refine g_aload_n dX5_placeOf_5 rfl ?_
      refine w_getI w dX5_placeOf_6 fl_X5_93 rfl rfl (by first | rfl | assumption) ?_
      rw [en]
      refine gN_ge 44 dX5_placeOf_9 (by decide) (by omega) (by omega) (fun c_9 => ?_) (fun c_9 => ?_)
      · skip
        refine g_iload_n dX5_placeOf_44 rfl ?_
        rw [hQ]
        refine g_iret dX5_placeOf_45 rfl rfl (by decide) (by decide) ?_
        have ej : j = b := by omega
        subst ej
        exact ⟨by rw [ex], rfl⟩
      · skip
        refine g_iload_n dX5_placeOf_12 rfl ?_
        refine g_aload_n dX5_placeOf_13 rfl ?_
        refine w_getR w dX5_placeOf_14 fl_X5_28 rfl rfl (by first | rfl | assumption) rfl ?_
        refine g_iload_n dX5_placeOf_17 rfl ?_
        refine w_zald w dX5_placeOf_18 (by first | rfl | assumption) (by first | assumption | omega | (show _ < 8; omega) | (show _ < 24; omega) | (show _ < 9; omega)) ?_
        refine g_if_eq 35 dX5_placeOf_19 (by decide) (fun c_19 => ?_) (fun c_19 => ?_)
        · skip
          refine g_iconst (v := 0) dX5_placeOf_35 (by decide) ?_
          refine g_iadd dX5_placeOf_36 ?_
          refine g_istore_n dX5_placeOf_37 (by decide) rfl ?_
          refine g_iinc dX5_placeOf_38 rfl (nI_i1 _) (by decide) rfl ?_
          refine g_goto 4 dX5_placeOf_41 (by decide) ?_
          refine g_ls [(3, .int (nI (j + 1))), (2, .int _), (1, .int (nI i)), (0, .ref (L 11 0))] ⟨rfl, rfl, rfl, rfl, trivial⟩ ?_
          exact ih (j + 1) _ (by omega) (by omega) (by rw [ex]; simp only [sp_sum, reduceIte, c_9, c_19])
        · skip
          refine g_aload_n dX5_placeOf_22 rfl ?_
          refine g_iload_n dX5_placeOf_23 rfl ?_
          refine g_iload_n dX5_placeOf_24 rfl ?_
          refine g_callV [_, _] dX5_placeOf_25 mc_X5_134 mi_X5_isAhead se_X5_isAhead (c_X5_isAhead hlt w (by omega) hi) (w.k (by first | rfl | assumption)) rfl rfl (Nat.le_of_ble_eq_true rfl) (am_rm hR (by decide)) (fun _ _ z => z) (fun v hx hq hE => ?_)
          obtain ⟨rfl, rfl⟩ := hq
          rw [show (if Γ 12 7 i < Γ 12 7 j then (1 : Int32) else if Γ 12 7 j = Γ 12 7 i then (if Γ 12 9 i ≤ Γ 12 9 j then 0 else 1) else 0) = sp_ma Γ j i from rfl]
          refine g_if_eq 35 dX5_placeOf_28 (by decide) (fun c_28 => ?_) (fun c_28 => ?_)
          · skip
            refine g_iconst (v := 0) dX5_placeOf_35 (by decide) ?_
            refine g_iadd dX5_placeOf_36 ?_
            refine g_istore_n dX5_placeOf_37 (by decide) rfl ?_
            refine g_iinc dX5_placeOf_38 rfl (nI_i1 _) (by decide) rfl ?_
            refine g_goto 4 dX5_placeOf_41 (by decide) ?_
            refine g_ls [(3, .int (nI (j + 1))), (2, .int _), (1, .int (nI i)), (0, .ref (L 11 0))] ⟨rfl, rfl, rfl, rfl, trivial⟩ ?_
            exact ih (j + 1) _ (by omega) (by omega) (by rw [ex]; simp only [sp_sum, reduceIte, c_9, c_19, c_28])
          · skip
            refine g_iconst (v := 1) dX5_placeOf_31 (by decide) ?_
            refine g_goto 36 dX5_placeOf_32 (by decide) ?_
            refine g_iadd dX5_placeOf_36 ?_
            refine g_istore_n dX5_placeOf_37 (by decide) rfl ?_
            refine g_iinc dX5_placeOf_38 rfl (nI_i1 _) (by decide) rfl ?_
            refine g_goto 4 dX5_placeOf_41 (by decide) ?_
            refine g_ls [(3, .int (nI (j + 1))), (2, .int _), (1, .int (nI i)), (0, .ref (L 11 0))] ⟨rfl, rfl, rfl, rfl, trivial⟩ ?_
            exact ih (j + 1) _ (by omega) (by omega) (by rw [ex]; simp only [sp_sum, reduceIte, c_9, c_19, c_28])
  refine g_ls [(3, .int (nI 0)), (2, .int 0), (1, .int (nI i)), (0, .ref (L 11 0))] ⟨rfl, rfl, rfl, rfl, trivial⟩ ?_
  exact lp_4 (b + 1) 0 0 (by omega) (by omega) rfl
set_option maxRecDepth 100000 in
set_option maxHeartbeats 4000000 in
theorem c_X5_at {l : Launch} (hlt : l.stackTraces = false) {N n p : Nat} {ord : List Nat} {L : Nat → Nat → Nat} {Γ : Nat → Nat → Nat → Int32} {o : Int64} {h : am_H} (w : WI N n p ord L Γ o h) {b : Nat} (hb : b ≤ 8) (en : Γ 11 0 3 = nI b) (pl : Int32) : am_Con l yX5_at (.code yX5_at cX5_at 4 (some .int)) 3 0 0 [.ref (L 11 0), .int pl] h (fun v h' => v = some (.int (sp_at Γ b pl b)) ∧ h' = h) (fun _ _ => False) := by
  refine am_body hlt (by decide +kernel) (Nat.le_of_ble_eq_true rfl) (fun k hl hR h0 hno => ?_)
  subst hl
  obtain ⟨Qf, hQ⟩ : ∃ Qf, Qf = am_Q k 0 0 (fun v h' => v = some (.int (sp_at Γ b pl b)) ∧ h' = h) (fun _ _ => False) := ⟨_, rfl⟩
  rw [← hQ]
  refine g_iconst (v := (-1)) dX5_at_0 (by decide) ?_
  refine g_istore_n dX5_at_1 (by decide) rfl ?_
  refine g_iconst (v := 0) dX5_at_2 (by decide) ?_
  refine g_istore_n dX5_at_3 (by decide) rfl ?_
  have lp_4 : ∀ (f : Nat) (j : Nat) (x : Int32), j ≤ b → b - j < f → x = sp_at Γ b pl j → am_G k RX5 yX5_at.name cX5_at 4 (some .int) 0 0 Qf 4 [(3, .int (nI j)), (2, .int x), (1, .int pl), (0, .ref (L 11 0))] [] h := by
    intro f
    induction f with
    | zero => intro j x hj hf ex; omega
    | succ f ih =>
      intro j x hj hf ex
      refine g_iload_n dX5_at_4 rfl ?_
      refine g_aload_n dX5_at_5 rfl ?_
      refine w_getI w dX5_at_6 fl_X5_93 rfl rfl (by first | rfl | assumption) ?_
      rw [en]
      refine gN_ge 42 dX5_at_9 (by decide) (by omega) (by omega) (fun c_9 => ?_) (fun c_9 => ?_)
      · skip
        refine g_iload_n dX5_at_42 rfl ?_
        rw [hQ]
        refine g_iret dX5_at_43 rfl rfl (by decide) (by decide) ?_
        have ej : j = b := by omega
        subst ej
        exact ⟨by rw [ex], rfl⟩
      · skip
        refine g_aload_n dX5_at_12 rfl ?_
        refine w_getR w dX5_at_13 fl_X5_28 rfl rfl (by first | rfl | assumption) rfl ?_
        refine g_iload_n dX5_at_16 rfl ?_
        refine w_zald w dX5_at_17 (by first | rfl | assumption) (by first | assumption | omega | (show _ < 8; omega) | (show _ < 24; omega) | (show _ < 9; omega)) ?_
        refine g_if_eq 34 dX5_at_18 (by decide) (fun c_18 => ?_) (fun c_18 => ?_)
        · skip
          refine g_iload_n dX5_at_34 rfl ?_
          refine g_istore_n dX5_at_35 (by decide) rfl ?_
          refine g_iinc dX5_at_36 rfl (nI_i1 _) (by decide) rfl ?_
          refine g_goto 4 dX5_at_39 (by decide) ?_
          refine g_ls [(3, .int (nI (j + 1))), (2, .int _), (1, .int pl), (0, .ref (L 11 0))] ⟨rfl, rfl, rfl, rfl, trivial⟩ ?_
          exact ih (j + 1) _ (by omega) (by omega) (by first | (simp only [sp_at, reduceIte, c_9, c_18]; done) | (rw [ex]; simp only [sp_at, reduceIte, c_9, c_18]))
        · skip
          refine g_aload_n dX5_at_21 rfl ?_
          refine g_iload_n dX5_at_22 rfl ?_
          refine g_callV [_] dX5_at_23 mc_X5_138 mi_X5_placeOf se_X5_placeOf (c_X5_placeOf hlt w hb en (by omega)) (w.k (by first | rfl | assumption)) rfl rfl (Nat.le_of_ble_eq_true rfl) (am_rm hR (by decide)) (fun _ _ z => z) (fun v hx hq hE => ?_)
          obtain ⟨rfl, rfl⟩ := hq
          rw [show sp_sum (fun j_1 => if Γ 13 10 j_1 = 0 then (0 : Int32) else if sp_ma Γ j_1 j = 0 then 0 else 1) b = sp_place Γ b j from rfl]
          refine g_iload_n dX5_at_26 rfl ?_
          refine g_icmp_ne 34 dX5_at_27 (by decide) (fun c_27 => ?_) (fun c_27 => ?_)
          · skip
            refine g_iload_n dX5_at_34 rfl ?_
            refine g_istore_n dX5_at_35 (by decide) rfl ?_
            refine g_iinc dX5_at_36 rfl (nI_i1 _) (by decide) rfl ?_
            refine g_goto 4 dX5_at_39 (by decide) ?_
            refine g_ls [(3, .int (nI (j + 1))), (2, .int _), (1, .int pl), (0, .ref (L 11 0))] ⟨rfl, rfl, rfl, rfl, trivial⟩ ?_
            exact ih (j + 1) _ (by omega) (by omega) (by first | (simp only [sp_at, reduceIte, c_9, c_18, c_27]; done) | (rw [ex]; simp only [sp_at, reduceIte, c_9, c_18, c_27]))
          · skip
            refine g_iload_n dX5_at_30 rfl ?_
            refine g_goto 35 dX5_at_31 (by decide) ?_
            refine g_istore_n dX5_at_35 (by decide) rfl ?_
            refine g_iinc dX5_at_36 rfl (nI_i1 _) (by decide) rfl ?_
            refine g_goto 4 dX5_at_39 (by decide) ?_
            refine g_ls [(3, .int (nI (j + 1))), (2, .int _), (1, .int pl), (0, .ref (L 11 0))] ⟨rfl, rfl, rfl, rfl, trivial⟩ ?_
            exact ih (j + 1) _ (by omega) (by omega) (by first | (simp only [sp_at, reduceIte, c_9, c_18, c_27]; done) | (rw [ex]; simp only [sp_at, reduceIte, c_9, c_18, c_27]))
  refine g_ls [(3, .int (nI 0)), (2, .int (-1)), (1, .int pl), (0, .ref (L 11 0))] ⟨rfl, rfl, rfl, rfl, trivial⟩ ?_
  exact lp_4 (b + 1) 0 (-1) (by omega) (by omega) rfl
def sp_dry (q : Nat) (Γ : Nat → Nat → Nat → Int32) : Nat → Nat → Nat → Int32 := sp_it (fun k Γ => u3 Γ 12 29 k 0) q (u3 Γ 11 0 30 0)
theorem sp_dry_s (Γ : Nat → Nat → Nat → Int32) (m : Nat) {c i j : Nat} (h : c ≠ 12) (h2 : c ≠ 11 ∨ j ≠ 30) : sp_dry m Γ c i j = Γ c i j := by
  unfold sp_dry
  rw [sp_it_pres (fun k Γ => by rw [u3_ap, if_neg (fun z => h z.1)])]
  rw [u3_ap, if_neg]
  omega
set_option maxRecDepth 100000 in
set_option maxHeartbeats 4000000 in
theorem c_X5_dries {l : Launch} (hlt : l.stackTraces = false) {N n p : Nat} {ord : List Nat} {L : Nat → Nat → Nat} {Γ : Nat → Nat → Nat → Int32} {o : Int64} {h : am_H} (w : WI N n p ord L Γ o h) {q : Nat} (hq : q ≤ 24) (ep : Γ 11 0 24 = nI q) : am_Con l yX5_dries (.code yX5_dries cX5_dries 2 none) 1 0 0 [.ref (L 11 0)] h (fun v h' => v = none ∧ WI N n p ord L (sp_dry q Γ) o h') (fun _ _ => False) := by
  refine am_body hlt (by decide +kernel) (Nat.le_of_ble_eq_true rfl) (fun k hl hR h0 hno => ?_)
  subst hl
  obtain ⟨Qf, hQ⟩ : ∃ Qf, Qf = am_Q k 0 0 (fun v h' => v = none ∧ WI N n p ord L (sp_dry q Γ) o h') (fun _ _ => False) := ⟨_, rfl⟩
  rw [← hQ]
  refine g_aload_n dX5_dries_0 rfl ?_
  refine g_iconst (v := 0) dX5_dries_1 (by decide) ?_
  refine w_putI w dX5_dries_2 fl_X5_116 rfl rfl (by decide) (fun q hq => by cases hq; rfl) (by first | rfl | assumption) rfl rfl (fun h1 w1 => ?_)
  refine g_iconst (v := 0) dX5_dries_5 (by decide) ?_
  refine g_istore_n dX5_dries_6 (by decide) rfl ?_
  have lp_7 : ∀ (f : Nat) (j : Nat) (h' : am_H), j ≤ q → q - j < f → WI N n p ord L (sp_it (fun k Γ => u3 Γ 12 29 k 0) j (u3 Γ 11 0 30 0)) o h' → am_G k RX5 yX5_dries.name cX5_dries 2 none 0 0 Qf 7 [(1, .int (nI j)), (0, .ref (L 11 0))] [] h' := by
    intro f
    induction f with
    | zero => intro j h' hj hf w'; omega
    | succ f ih =>
      intro j h' hj hf w'
      refine g_iload_n dX5_dries_7 rfl ?_
      refine g_aload_n dX5_dries_8 rfl ?_
      refine w_getI w' dX5_dries_9 fl_X5_100 rfl rfl (by first | rfl | assumption) ?_
      rw [show (sp_it (fun k Γ => u3 Γ 12 29 k 0) j (u3 Γ 11 0 30 0)) 11 0 24 = nI q from (sp_dry_s Γ j (by decide) (by decide)).trans ep]
      refine gN_ge 28 dX5_dries_12 (by decide) (by omega) (by omega) (fun c_12 => ?_) (fun c_12 => ?_)
      · skip
        rw [hQ]
        refine g_vret dX5_dries_28 rfl (by decide) (by decide) ?_
        have ej : j = q := by omega
        subst ej
        exact ⟨rfl, w'⟩
      · skip
        refine g_aload_n dX5_dries_15 rfl ?_
        refine w_getR w' dX5_dries_16 fl_X5_77 rfl rfl (by first | rfl | assumption) rfl ?_
        refine g_iload_n dX5_dries_19 rfl ?_
        refine g_iconst (v := 0) dX5_dries_20 (by decide) ?_
        refine w_ast w' dX5_dries_21 (by decide) (by first | rfl | assumption) (by first | assumption | omega | (show _ < 8; omega) | (show _ < 24; omega) | (show _ < 9; omega)) (fun h22 w22 => ?_)
        refine g_iinc dX5_dries_22 rfl (nI_i1 _) (by decide) rfl ?_
        refine g_goto 7 dX5_dries_25 (by decide) ?_
        refine g_ls [(1, .int (nI (j + 1))), (0, .ref (L 11 0))] ⟨rfl, rfl, trivial⟩ ?_
        exact ih (j + 1) _ (by omega) (by omega) w22
  refine g_ls [(1, .int (nI 0)), (0, .ref (L 11 0))] ⟨rfl, rfl, trivial⟩ ?_
  exact lp_7 (q + 1) 0 _ (by omega) (by omega) w1
