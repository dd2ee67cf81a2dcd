set_option maxRecDepth 100000 in
set_option maxHeartbeats 4000000 in
theorem c_X5_standing {l : Launch} (hlt : l.stackTraces = false) {N n p : Nat} {ord : List Nat} {L : Nat → Nat → Nat} {Γ : Nat → Nat → Nat → Int32} {o : Int64} {h : am_H} (w : WI N n p ord L Γ o h) (en : Γ 11 0 3 = nI n) (ep : Γ 11 0 24 = nI p)  : am_Con l yX5_standing (.code yX5_standing cX5_standing 3 (some .int)) 1 0 0 [.ref (L 11 0)] h (fun v h' => v = some (.int (sp_sum (fun j => if Γ 13 10 j = 0 then 0 else 1) n)) ∧ h' = h) (fun _ _ => False) := by
  refine am_body hlt (by decide +kernel) (Nat.le_of_ble_eq_true rfl) (fun k hl hR h0 hno => ?_)
  subst hl
  obtain ⟨Qf, hQ⟩ : ∃ Qf, Qf = am_Q k 0 0 (fun v h' => v = some (.int (sp_sum (fun j => if Γ 13 10 j = 0 then 0 else 1) n)) ∧ h' = h) (fun _ _ => False) := ⟨_, rfl⟩
  rw [← hQ]
  have hm : wdm n p 11 0 = true := rfl
  have hn8 : n ≤ 8 := w.1.1
  have hp24 : p ≤ 24 := w.1.2.1
  refine g_iconst (v := 0) dX5_standing_0 (by decide) ?_
  refine g_istore_n dX5_standing_1 (by decide) rfl ?_
  refine g_iconst (v := 0) dX5_standing_2 (by decide) ?_
  refine g_istore_n dX5_standing_3 (by decide) rfl ?_
  have lp_4 : ∀ (f : Nat) (j : Nat) (x : Int32), j ≤ n → n - j < f → x = sp_sum (fun j => if Γ 13 10 j = 0 then 0 else 1) j → am_G k RX5 yX5_standing.name cX5_standing 3 (some .int) 0 0 Qf 4 [(2, .int (nI j)), (1, .int x), (0, .ref (L 11 0))] [] h := by
    intro f
    induction f with
    | zero => intro j x hj hf ex; omega
    | succ f ih =>
      intro j x hj hf ex
      refine g_iload_n dX5_standing_4 rfl ?_
      refine g_aload_n dX5_standing_5 rfl ?_
      refine w_getI w dX5_standing_6 fl_X5_93 rfl rfl (by assumption) ?_
      rw [en]
      refine gN_ge 35 dX5_standing_9 (by decide) (by omega) (by omega) (fun c_9 => ?_) (fun c_9 => ?_)
      · skip
        refine g_iload_n dX5_standing_35 rfl ?_
        rw [hQ]
        refine g_iret dX5_standing_36 rfl rfl (by decide) (by decide) ?_
        have ej : j = n := by omega
        subst ej
        exact ⟨by rw [ex], rfl⟩
      · skip
        refine g_iload_n dX5_standing_12 rfl ?_
        refine g_aload_n dX5_standing_13 rfl ?_
        refine w_getR w dX5_standing_14 fl_X5_28 rfl rfl (by assumption) rfl ?_
        refine g_iload_n dX5_standing_17 rfl ?_
        refine w_zald w dX5_standing_18 (by first | rfl | assumption) (by first | assumption | (show _ < 8; omega) | (show _ < 24; omega) | (show _ < 9; omega)) ?_
        refine g_if_eq 26 dX5_standing_19 (by decide) (fun c_19 => ?_) (fun c_19 => ?_)
        · skip
          refine g_iconst (v := 0) dX5_standing_26 (by decide) ?_
          refine g_iadd dX5_standing_27 ?_
          refine g_istore_n dX5_standing_28 (by decide) rfl ?_
          refine g_iinc dX5_standing_29 rfl (nI_i1 _) (by decide) rfl ?_
          refine g_goto 4 dX5_standing_32 (by decide) ?_
          refine g_ls [(2, .int (nI (j + 1))), (1, .int (sp_sum (fun j => if Γ 13 10 j = 0 then 0 else 1) (j + 1))), (0, .ref (L 11 0))] ⟨rfl, by simp only [am_lk, sp_sum, Nat.beq, cond_true, cond_false, ex, reduceIte, c_9, c_19]; rfl, rfl, trivial⟩ ?_
          exact ih (j + 1) _ (by omega) (by omega) rfl
        · skip
          refine g_iconst (v := 1) dX5_standing_22 (by decide) ?_
          refine g_goto 27 dX5_standing_23 (by decide) ?_
          refine g_iadd dX5_standing_27 ?_
          refine g_istore_n dX5_standing_28 (by decide) rfl ?_
          refine g_iinc dX5_standing_29 rfl (nI_i1 _) (by decide) rfl ?_
          refine g_goto 4 dX5_standing_32 (by decide) ?_
          refine g_ls [(2, .int (nI (j + 1))), (1, .int (sp_sum (fun j => if Γ 13 10 j = 0 then 0 else 1) (j + 1))), (0, .ref (L 11 0))] ⟨rfl, by simp only [am_lk, sp_sum, Nat.beq, cond_true, cond_false, ex, reduceIte, c_9, c_19]; rfl, rfl, trivial⟩ ?_
          exact ih (j + 1) _ (by omega) (by omega) rfl
  refine g_ls [(2, .int (nI 0)), (1, .int 0), (0, .ref (L 11 0))] ⟨rfl, rfl, rfl, trivial⟩ ?_
  exact lp_4 (n + 1) 0 0 (by omega) (by omega) rfl
