theorem cx_IAE : Cond.castable "java/lang/IllegalArgumentException" "java/lang/IllegalArgumentException" ∈ am_WF := am_wf (i := 184) (by decide +kernel) rfl
theorem cx_ISE : Cond.castable "java/lang/IllegalStateException" "java/lang/IllegalStateException" ∈ am_WF := am_wf (i := 256) (by decide +kernel) rfl
theorem cx_IOB : Cond.castable "java/lang/IndexOutOfBoundsException" "java/lang/IndexOutOfBoundsException" ∈ am_WF := am_wf (i := 430) (by decide +kernel) rfl
theorem mcw_district : am_mcW RL 67 yL_district cL_district 5 (some .int) [(0, 10, 13, 13), (0, 10, 17, 15)] 4 := ⟨am_ws (i := 170) (by decide +kernel) rfl, am_ws (i := 172) (by decide +kernel) rfl, am_ws (i := 36) (by decide +kernel) rfl, am_ws (i := 171) (by decide +kernel) rfl, by decide, rfl⟩
set_option maxRecDepth 100000 in
set_option maxHeartbeats 4000000 in
theorem cL_district_IAE {l : Launch} (hlt : l.stackTraces = false) {N n p : Nat} {ord : List Nat} {L : Nat → Nat → Nat} {Γ : Nat → Nat → Nat → Int32} {o : Int64} {h : am_H} (w : WI N n p ord L Γ o h) {a b : Int32} (hc : am_Con l yX4_district (.code yX4_district cX4_district 4 (some .int)) 20 1 6 [.ref (L 5 0), .int a, .int b] h (fun _ _ => False) (fun E h' => E = "java/lang/IllegalArgumentException" ∧ h' = h)) : am_Con l yL_district (.codeWith yL_district cL_district 5 (some .int) [(0, 10, 13, 13), (0, 10, 17, 15)]) 21 1 6 [.ref (L 5 0), .int a, .int b, .ref (L 14 0)] h (fun v h' => v = some (.int 1) ∧ h' = h) (fun _ _ => False) := by
  refine am_bodyH hlt (by decide +kernel) (Nat.le_of_ble_eq_true rfl) (fun k hl hR h0 htab => ?_)
  subst hl
  obtain ⟨Qf, hQ⟩ : ∃ Qf, Qf = am_Q k 1 6 (fun v h' => v = some (.int 1) ∧ h' = h) (fun _ _ => False) := ⟨_, rfl⟩
  rw [← hQ]
  refine g_aload_n dL_district_0 rfl ?_
  refine g_iconst (v := 0) dL_district_1 (by decide) ?_
  refine g_aload_n dL_district_2 rfl ?_
  refine g_iload_n dL_district_3 rfl ?_
  refine g_iload_n dL_district_4 rfl ?_
  refine g_callVX [_, _] dL_district_5 mc_L_7 mi_X4_district se_X4_district hc (w.k (c := 5) (i := 0) rfl) rfl rfl (Nat.le_of_ble_eq_true rfl) (am_rm hR (by decide)) (fun _ _ z => z.elim) (fun E h' q hxx => ?_)
  obtain ⟨rfl, rfl⟩ := hxx
  have hps : ∀ z ∈ ([] : List ExceptionTableEntry), covers z 5 = false ∨ (z.catchType ≠ 0 ∧ ∃ nm : String, Cond.classLink RL z.catchType nm ∈ am_WS ∧ ∀ U, am_T U → va_Nc "java/lang/IllegalArgumentException" nm U) := fun z hz => by cases hz
  refine ⟨13, ⟨[], ⟨0, 10, 13, 13⟩, [⟨0, 10, 17, 15⟩], htab, hps, by decide, by decide, rfl, kl_L_13, cx_IAE⟩, ?_⟩
  skip
  refine g_astore dL_district_13 (by decide) rfl ?_
  refine g_iconst (v := 1) dL_district_15 (by decide) ?_
  rw [hQ]
  refine g_iret dL_district_16 rfl rfl (by decide) (by decide) ?_
  exact ⟨rfl, rfl⟩
set_option maxRecDepth 100000 in
set_option maxHeartbeats 4000000 in
theorem cL_district_ISE {l : Launch} (hlt : l.stackTraces = false) {N n p : Nat} {ord : List Nat} {L : Nat → Nat → Nat} {Γ : Nat → Nat → Nat → Int32} {o : Int64} {h : am_H} (w : WI N n p ord L Γ o h) {a b : Int32} (hc : am_Con l yX4_district (.code yX4_district cX4_district 4 (some .int)) 20 1 6 [.ref (L 5 0), .int a, .int b] h (fun _ _ => False) (fun E h' => E = "java/lang/IllegalStateException" ∧ h' = h)) : am_Con l yL_district (.codeWith yL_district cL_district 5 (some .int) [(0, 10, 13, 13), (0, 10, 17, 15)]) 21 1 6 [.ref (L 5 0), .int a, .int b, .ref (L 14 0)] h (fun v h' => v = some (.int 2) ∧ h' = h) (fun _ _ => False) := by
  refine am_bodyH hlt (by decide +kernel) (Nat.le_of_ble_eq_true rfl) (fun k hl hR h0 htab => ?_)
  subst hl
  obtain ⟨Qf, hQ⟩ : ∃ Qf, Qf = am_Q k 1 6 (fun v h' => v = some (.int 2) ∧ h' = h) (fun _ _ => False) := ⟨_, rfl⟩
  rw [← hQ]
  refine g_aload_n dL_district_0 rfl ?_
  refine g_iconst (v := 0) dL_district_1 (by decide) ?_
  refine g_aload_n dL_district_2 rfl ?_
  refine g_iload_n dL_district_3 rfl ?_
  refine g_iload_n dL_district_4 rfl ?_
  refine g_callVX [_, _] dL_district_5 mc_L_7 mi_X4_district se_X4_district hc (w.k (c := 5) (i := 0) rfl) rfl rfl (Nat.le_of_ble_eq_true rfl) (am_rm hR (by decide)) (fun _ _ z => z.elim) (fun E h' q hxx => ?_)
  obtain ⟨rfl, rfl⟩ := hxx
  have hps : ∀ z ∈ ([⟨0, 10, 13, 13⟩] : List ExceptionTableEntry), covers z 5 = false ∨ (z.catchType ≠ 0 ∧ ∃ nm : String, Cond.classLink RL z.catchType nm ∈ am_WS ∧ ∀ U, am_T U → va_Nc "java/lang/IllegalStateException" nm U) := fun z hz => by
    rcases List.mem_cons.mp hz with rfl | hz
    · exact Or.inr ⟨by decide, _, kl_L_13, fun U hU => hU.2.2.2.2.2.2.2.2.1⟩
    cases hz
  refine ⟨17, ⟨[⟨0, 10, 13, 13⟩], ⟨0, 10, 17, 15⟩, [], htab, hps, by decide, by decide, rfl, kl_L_15, cx_ISE⟩, ?_⟩
  skip
  refine g_astore dL_district_17 (by decide) rfl ?_
  refine g_iconst (v := 2) dL_district_19 (by decide) ?_
  rw [hQ]
  refine g_iret dL_district_20 rfl rfl (by decide) (by decide) ?_
  exact ⟨rfl, rfl⟩
set_option maxRecDepth 100000 in
set_option maxHeartbeats 4000000 in
theorem cL_district_0 {l : Launch} (hlt : l.stackTraces = false) {N n p : Nat} {ord : List Nat} {L : Nat → Nat → Nat} {Γ : Nat → Nat → Nat → Int32} {o : Int64} {h : am_H} (w : WI N n p ord L Γ o h) {a b : Int32} {mc ms : Nat} {Rr : Int32 → Nat → Nat → List Nat → (Nat → Nat → Nat) → (Nat → Nat → Nat → Int32) → Prop} (hc : am_Con l yX4_district (.code yX4_district cX4_district 4 (some .int)) 20 mc ms [.ref (L 5 0), .int a, .int b] h (fun v h' => ∃ (i : Int32) (n' p' : Nat) (ord' : List Nat) (L' : Nat → Nat → Nat) (Γ' : Nat → Nat → Nat → Int32), v = some (.int i) ∧ L' 14 0 = L 14 0 ∧ WI N n' p' ord' L' Γ' o h' ∧ Rr i n' p' ord' L' Γ') (fun _ _ => False)) : am_Con l yL_district (.codeWith yL_district cL_district 5 (some .int) [(0, 10, 13, 13), (0, 10, 17, 15)]) 21 mc ms [.ref (L 5 0), .int a, .int b, .ref (L 14 0)] h (fun v h' => ∃ (i : Int32) (n' p' : Nat) (ord' : List Nat) (L' : Nat → Nat → Nat) (Γ' : Nat → Nat → Nat → Int32), v = some (.int 0) ∧ WI N n' p' ord' L' Γ' i.toInt64 h' ∧ Rr i n' p' ord' L' Γ') (fun _ _ => False) := by
  refine am_bodyH hlt (by decide +kernel) (Nat.le_of_ble_eq_true rfl) (fun k hl hR h0 htab => ?_)
  subst hl
  obtain ⟨Qf, hQ⟩ : ∃ Qf, Qf = am_Q k mc ms (fun v h' => ∃ (i : Int32) (n' p' : Nat) (ord' : List Nat) (L' : Nat → Nat → Nat) (Γ' : Nat → Nat → Nat → Int32), v = some (.int 0) ∧ WI N n' p' ord' L' Γ' i.toInt64 h' ∧ Rr i n' p' ord' L' Γ') (fun _ _ => False) := ⟨_, rfl⟩
  rw [← hQ]
  refine g_aload_n dL_district_0 rfl ?_
  refine g_iconst (v := nI 0) dL_district_1 (by decide) ?_
  refine g_aload_n dL_district_2 rfl ?_
  refine g_iload_n dL_district_3 rfl ?_
  refine g_iload_n dL_district_4 rfl ?_
  refine g_callV [_, _] dL_district_5 mc_L_7 mi_X4_district se_X4_district (hc) ((w.k (c := 5) (i := 0) rfl)) rfl rfl (Nat.le_of_ble_eq_true rfl) (am_rm hR ⟨Nat.le_of_ble_eq_true rfl, Nat.le_of_ble_eq_true rfl, Nat.le_of_eq (Nat.zero_add _), Nat.le_of_eq (Nat.zero_add _)⟩) (fun _ _ z => z) (fun v hx hq hE => ?_)
  obtain ⟨i, n1, p1, ord1, L1, Γ1, rfl, hL, w1, hRr⟩ := hq
  rw [← hL]
  refine g_i2l dL_district_8 rfl ?_
  refine w_last w1 dL_district_9 (fun h2 w2 => ?_)
  refine g_goto 21 dL_district_10 (by decide) ?_
  refine g_iconst (v := 0) dL_district_21 (by decide) ?_
  rw [hQ]
  refine g_iret dL_district_22 rfl rfl (by omega) (by omega) ?_
  exact ⟨i, n1, p1, ord1, L1, Γ1, rfl, w2, hRr⟩
theorem mcw_pipe : am_mcW RL 76 yL_pipe cL_pipe 6 (some .int) [(0, 12, 15, 21), (0, 12, 19, 13), (0, 12, 23, 15)] 5 := ⟨am_ws (i := 416) (by decide +kernel) rfl, am_ws (i := 418) (by decide +kernel) rfl, am_ws (i := 36) (by decide +kernel) rfl, am_ws (i := 417) (by decide +kernel) rfl, by decide, rfl⟩
set_option maxRecDepth 100000 in
set_option maxHeartbeats 4000000 in
theorem cL_pipe_IOB {l : Launch} (hlt : l.stackTraces = false) {N n p : Nat} {ord : List Nat} {L : Nat → Nat → Nat} {Γ : Nat → Nat → Nat → Int32} {o : Int64} {h : am_H} (w : WI N n p ord L Γ o h) {a b c : Int32} (hc : am_Con l yX4_pipe (.code yX4_pipe cX4_pipe 5 (some .int)) 20 1 6 [.ref (L 5 0), .int a, .int b, .int c] h (fun _ _ => False) (fun E h' => E = "java/lang/IndexOutOfBoundsException" ∧ h' = h)) : am_Con l yL_pipe (.codeWith yL_pipe cL_pipe 6 (some .int) [(0, 12, 15, 21), (0, 12, 19, 13), (0, 12, 23, 15)]) 21 1 6 [.ref (L 5 0), .int a, .int b, .int c, .ref (L 14 0)] h (fun v h' => v = some (.int 1) ∧ h' = h) (fun _ _ => False) := by
  refine am_bodyH hlt (by decide +kernel) (Nat.le_of_ble_eq_true rfl) (fun k hl hR h0 htab => ?_)
  subst hl
  obtain ⟨Qf, hQ⟩ : ∃ Qf, Qf = am_Q k 1 6 (fun v h' => v = some (.int 1) ∧ h' = h) (fun _ _ => False) := ⟨_, rfl⟩
  rw [← hQ]
  refine g_aload dL_pipe_0 rfl ?_
  refine g_iconst (v := 0) dL_pipe_2 (by decide) ?_
  refine g_aload_n dL_pipe_3 rfl ?_
  refine g_iload_n dL_pipe_4 rfl ?_
  refine g_iload_n dL_pipe_5 rfl ?_
  refine g_iload_n dL_pipe_6 rfl ?_
  refine g_callVX [_, _, _] dL_pipe_7 mc_L_17 mi_X4_pipe se_X4_pipe hc (w.k (c := 5) (i := 0) rfl) rfl rfl (Nat.le_of_ble_eq_true rfl) (am_rm hR (by decide)) (fun _ _ z => z.elim) (fun E h' q hxx => ?_)
  obtain ⟨rfl, rfl⟩ := hxx
  have hps : ∀ z ∈ ([] : List ExceptionTableEntry), covers z 7 = false ∨ (z.catchType ≠ 0 ∧ ∃ nm : String, Cond.classLink RL z.catchType nm ∈ am_WS ∧ ∀ U, am_T U → va_Nc "java/lang/IndexOutOfBoundsException" nm U) := fun z hz => by cases hz
  refine ⟨15, ⟨[], ⟨0, 12, 15, 21⟩, [⟨0, 12, 19, 13⟩, ⟨0, 12, 23, 15⟩], htab, hps, by decide, by decide, rfl, kl_L_21, cx_IOB⟩, ?_⟩
  skip
  refine g_astore dL_pipe_15 (by decide) rfl ?_
  refine g_iconst (v := 1) dL_pipe_17 (by decide) ?_
  rw [hQ]
  refine g_iret dL_pipe_18 rfl rfl (by decide) (by decide) ?_
  exact ⟨rfl, rfl⟩
set_option maxRecDepth 100000 in
set_option maxHeartbeats 4000000 in
theorem cL_pipe_IAE {l : Launch} (hlt : l.stackTraces = false) {N n p : Nat} {ord : List Nat} {L : Nat → Nat → Nat} {Γ : Nat → Nat → Nat → Int32} {o : Int64} {h : am_H} (w : WI N n p ord L Γ o h) {a b c : Int32} (hc : am_Con l yX4_pipe (.code yX4_pipe cX4_pipe 5 (some .int)) 20 1 6 [.ref (L 5 0), .int a, .int b, .int c] h (fun _ _ => False) (fun E h' => E = "java/lang/IllegalArgumentException" ∧ h' = h)) : am_Con l yL_pipe (.codeWith yL_pipe cL_pipe 6 (some .int) [(0, 12, 15, 21), (0, 12, 19, 13), (0, 12, 23, 15)]) 21 1 6 [.ref (L 5 0), .int a, .int b, .int c, .ref (L 14 0)] h (fun v h' => v = some (.int 2) ∧ h' = h) (fun _ _ => False) := by
  refine am_bodyH hlt (by decide +kernel) (Nat.le_of_ble_eq_true rfl) (fun k hl hR h0 htab => ?_)
  subst hl
  obtain ⟨Qf, hQ⟩ : ∃ Qf, Qf = am_Q k 1 6 (fun v h' => v = some (.int 2) ∧ h' = h) (fun _ _ => False) := ⟨_, rfl⟩
  rw [← hQ]
  refine g_aload dL_pipe_0 rfl ?_
  refine g_iconst (v := 0) dL_pipe_2 (by decide) ?_
  refine g_aload_n dL_pipe_3 rfl ?_
  refine g_iload_n dL_pipe_4 rfl ?_
  refine g_iload_n dL_pipe_5 rfl ?_
  refine g_iload_n dL_pipe_6 rfl ?_
  refine g_callVX [_, _, _] dL_pipe_7 mc_L_17 mi_X4_pipe se_X4_pipe hc (w.k (c := 5) (i := 0) rfl) rfl rfl (Nat.le_of_ble_eq_true rfl) (am_rm hR (by decide)) (fun _ _ z => z.elim) (fun E h' q hxx => ?_)
  obtain ⟨rfl, rfl⟩ := hxx
  have hps : ∀ z ∈ ([⟨0, 12, 15, 21⟩] : List ExceptionTableEntry), covers z 7 = false ∨ (z.catchType ≠ 0 ∧ ∃ nm : String, Cond.classLink RL z.catchType nm ∈ am_WS ∧ ∀ U, am_T U → va_Nc "java/lang/IllegalArgumentException" nm U) := fun z hz => by
    rcases List.mem_cons.mp hz with rfl | hz
    · exact Or.inr ⟨by decide, _, kl_L_21, fun U hU => hU.2.2.2.2.2.2.2.2.2.1⟩
    cases hz
  refine ⟨19, ⟨[⟨0, 12, 15, 21⟩], ⟨0, 12, 19, 13⟩, [⟨0, 12, 23, 15⟩], htab, hps, by decide, by decide, rfl, kl_L_13, cx_IAE⟩, ?_⟩
  skip
  refine g_astore dL_pipe_19 (by decide) rfl ?_
  refine g_iconst (v := 2) dL_pipe_21 (by decide) ?_
  rw [hQ]
  refine g_iret dL_pipe_22 rfl rfl (by decide) (by decide) ?_
  exact ⟨rfl, rfl⟩
set_option maxRecDepth 100000 in
set_option maxHeartbeats 4000000 in
theorem cL_pipe_ISE {l : Launch} (hlt : l.stackTraces = false) {N n p : Nat} {ord : List Nat} {L : Nat → Nat → Nat} {Γ : Nat → Nat → Nat → Int32} {o : Int64} {h : am_H} (w : WI N n p ord L Γ o h) {a b c : Int32} (hc : am_Con l yX4_pipe (.code yX4_pipe cX4_pipe 5 (some .int)) 20 1 6 [.ref (L 5 0), .int a, .int b, .int c] h (fun _ _ => False) (fun E h' => E = "java/lang/IllegalStateException" ∧ h' = h)) : am_Con l yL_pipe (.codeWith yL_pipe cL_pipe 6 (some .int) [(0, 12, 15, 21), (0, 12, 19, 13), (0, 12, 23, 15)]) 21 1 6 [.ref (L 5 0), .int a, .int b, .int c, .ref (L 14 0)] h (fun v h' => v = some (.int 3) ∧ h' = h) (fun _ _ => False) := by
  refine am_bodyH hlt (by decide +kernel) (Nat.le_of_ble_eq_true rfl) (fun k hl hR h0 htab => ?_)
  subst hl
  obtain ⟨Qf, hQ⟩ : ∃ Qf, Qf = am_Q k 1 6 (fun v h' => v = some (.int 3) ∧ h' = h) (fun _ _ => False) := ⟨_, rfl⟩
  rw [← hQ]
  refine g_aload dL_pipe_0 rfl ?_
  refine g_iconst (v := 0) dL_pipe_2 (by decide) ?_
  refine g_aload_n dL_pipe_3 rfl ?_
  refine g_iload_n dL_pipe_4 rfl ?_
  refine g_iload_n dL_pipe_5 rfl ?_
  refine g_iload_n dL_pipe_6 rfl ?_
  refine g_callVX [_, _, _] dL_pipe_7 mc_L_17 mi_X4_pipe se_X4_pipe hc (w.k (c := 5) (i := 0) rfl) rfl rfl (Nat.le_of_ble_eq_true rfl) (am_rm hR (by decide)) (fun _ _ z => z.elim) (fun E h' q hxx => ?_)
  obtain ⟨rfl, rfl⟩ := hxx
  have hps : ∀ z ∈ ([⟨0, 12, 15, 21⟩, ⟨0, 12, 19, 13⟩] : List ExceptionTableEntry), covers z 7 = false ∨ (z.catchType ≠ 0 ∧ ∃ nm : String, Cond.classLink RL z.catchType nm ∈ am_WS ∧ ∀ U, am_T U → va_Nc "java/lang/IllegalStateException" nm U) := fun z hz => by
    rcases List.mem_cons.mp hz with rfl | hz
    · exact Or.inr ⟨by decide, _, kl_L_21, fun U hU => hU.2.2.2.2.2.2.2.2.2.2⟩
    rcases List.mem_cons.mp hz with rfl | hz
    · exact Or.inr ⟨by decide, _, kl_L_13, fun U hU => hU.2.2.2.2.2.2.2.2.1⟩
    cases hz
  refine ⟨23, ⟨[⟨0, 12, 15, 21⟩, ⟨0, 12, 19, 13⟩], ⟨0, 12, 23, 15⟩, [], htab, hps, by decide, by decide, rfl, kl_L_15, cx_ISE⟩, ?_⟩
  skip
  refine g_astore dL_pipe_23 (by decide) rfl ?_
  refine g_iconst (v := 3) dL_pipe_25 (by decide) ?_
  rw [hQ]
  refine g_iret dL_pipe_26 rfl rfl (by decide) (by decide) ?_
  exact ⟨rfl, rfl⟩
set_option maxRecDepth 100000 in
set_option maxHeartbeats 4000000 in
theorem cL_pipe_0 {l : Launch} (hlt : l.stackTraces = false) {N n p : Nat} {ord : List Nat} {L : Nat → Nat → Nat} {Γ : Nat → Nat → Nat → Int32} {o : Int64} {h : am_H} (w : WI N n p ord L Γ o h) {a b c : Int32} {mc ms : Nat} {Rr : Int32 → Nat → Nat → List Nat → (Nat → Nat → Nat) → (Nat → Nat → Nat → Int32) → Prop} (hc : am_Con l yX4_pipe (.code yX4_pipe cX4_pipe 5 (some .int)) 20 mc ms [.ref (L 5 0), .int a, .int b, .int c] h (fun v h' => ∃ (i : Int32) (n' p' : Nat) (ord' : List Nat) (L' : Nat → Nat → Nat) (Γ' : Nat → Nat → Nat → Int32), v = some (.int i) ∧ L' 14 0 = L 14 0 ∧ WI N n' p' ord' L' Γ' o h' ∧ Rr i n' p' ord' L' Γ') (fun _ _ => False)) : am_Con l yL_pipe (.codeWith yL_pipe cL_pipe 6 (some .int) [(0, 12, 15, 21), (0, 12, 19, 13), (0, 12, 23, 15)]) 21 mc ms [.ref (L 5 0), .int a, .int b, .int c, .ref (L 14 0)] h (fun v h' => ∃ (i : Int32) (n' p' : Nat) (ord' : List Nat) (L' : Nat → Nat → Nat) (Γ' : Nat → Nat → Nat → Int32), v = some (.int 0) ∧ WI N n' p' ord' L' Γ' i.toInt64 h' ∧ Rr i n' p' ord' L' Γ') (fun _ _ => False) := by
  refine am_bodyH hlt (by decide +kernel) (Nat.le_of_ble_eq_true rfl) (fun k hl hR h0 htab => ?_)
  subst hl
  obtain ⟨Qf, hQ⟩ : ∃ Qf, Qf = am_Q k mc ms (fun v h' => ∃ (i : Int32) (n' p' : Nat) (ord' : List Nat) (L' : Nat → Nat → Nat) (Γ' : Nat → Nat → Nat → Int32), v = some (.int 0) ∧ WI N n' p' ord' L' Γ' i.toInt64 h' ∧ Rr i n' p' ord' L' Γ') (fun _ _ => False) := ⟨_, rfl⟩
  rw [← hQ]
  refine g_aload dL_pipe_0 rfl ?_
  refine g_iconst (v := nI 0) dL_pipe_2 (by decide) ?_
  refine g_aload_n dL_pipe_3 rfl ?_
  refine g_iload_n dL_pipe_4 rfl ?_
  refine g_iload_n dL_pipe_5 rfl ?_
  refine g_iload_n dL_pipe_6 rfl ?_
  refine g_callV [_, _, _] dL_pipe_7 mc_L_17 mi_X4_pipe se_X4_pipe (hc) ((w.k (c := 5) (i := 0) rfl)) rfl rfl (Nat.le_of_ble_eq_true rfl) (am_rm hR ⟨Nat.le_of_ble_eq_true rfl, Nat.le_of_ble_eq_true rfl, Nat.le_of_eq (Nat.zero_add _), Nat.le_of_eq (Nat.zero_add _)⟩) (fun _ _ z => z) (fun v hx hq hE => ?_)
  obtain ⟨i, n1, p1, ord1, L1, Γ1, rfl, hL, w1, hRr⟩ := hq
  rw [← hL]
  refine g_i2l dL_pipe_10 rfl ?_
  refine w_last w1 dL_pipe_11 (fun h2 w2 => ?_)
  refine g_goto 27 dL_pipe_12 (by decide) ?_
  refine g_iconst (v := 0) dL_pipe_27 (by decide) ?_
  rw [hQ]
  refine g_iret dL_pipe_28 rfl rfl (by omega) (by omega) ?_
  exact ⟨i, n1, p1, ord1, L1, Γ1, rfl, w2, hRr⟩
theorem mcw_source : am_mcW RL 80 yL_source cL_source 4 (some .int) [(0, 9, 12, 13), (0, 9, 15, 15)] 3 := ⟨am_ws (i := 470) (by decide +kernel) rfl, am_ws (i := 472) (by decide +kernel) rfl, am_ws (i := 36) (by decide +kernel) rfl, am_ws (i := 471) (by decide +kernel) rfl, by decide, rfl⟩
set_option maxRecDepth 100000 in
set_option maxHeartbeats 4000000 in
theorem cL_source_IAE {l : Launch} (hlt : l.stackTraces = false) {N n p : Nat} {ord : List Nat} {L : Nat → Nat → Nat} {Γ : Nat → Nat → Nat → Int32} {o : Int64} {h : am_H} (w : WI N n p ord L Γ o h) {a : Int32} (hc : am_Con l yX4_source (.code yX4_source cX4_source 3 (some .int)) 20 1 6 [.ref (L 5 0), .int a] h (fun _ _ => False) (fun E h' => E = "java/lang/IllegalArgumentException" ∧ h' = h)) : am_Con l yL_source (.codeWith yL_source cL_source 4 (some .int) [(0, 9, 12, 13), (0, 9, 15, 15)]) 21 1 6 [.ref (L 5 0), .int a, .ref (L 14 0)] h (fun v h' => v = some (.int 1) ∧ h' = h) (fun _ _ => False) := by
  refine am_bodyH hlt (by decide +kernel) (Nat.le_of_ble_eq_true rfl) (fun k hl hR h0 htab => ?_)
  subst hl
  obtain ⟨Qf, hQ⟩ : ∃ Qf, Qf = am_Q k 1 6 (fun v h' => v = some (.int 1) ∧ h' = h) (fun _ _ => False) := ⟨_, rfl⟩
  rw [← hQ]
  refine g_aload_n dL_source_0 rfl ?_
  refine g_iconst (v := 0) dL_source_1 (by decide) ?_
  refine g_aload_n dL_source_2 rfl ?_
  refine g_iload_n dL_source_3 rfl ?_
  refine g_callVX [_] dL_source_4 mc_L_23 mi_X4_source se_X4_source hc (w.k (c := 5) (i := 0) rfl) rfl rfl (Nat.le_of_ble_eq_true rfl) (am_rm hR (by decide)) (fun _ _ z => z.elim) (fun E h' q hxx => ?_)
  obtain ⟨rfl, rfl⟩ := hxx
  have hps : ∀ z ∈ ([] : List ExceptionTableEntry), covers z 4 = false ∨ (z.catchType ≠ 0 ∧ ∃ nm : String, Cond.classLink RL z.catchType nm ∈ am_WS ∧ ∀ U, am_T U → va_Nc "java/lang/IllegalArgumentException" nm U) := fun z hz => by cases hz
  refine ⟨12, ⟨[], ⟨0, 9, 12, 13⟩, [⟨0, 9, 15, 15⟩], htab, hps, by decide, by decide, rfl, kl_L_13, cx_IAE⟩, ?_⟩
  skip
  refine g_astore_n dL_source_12 (by decide) rfl ?_
  refine g_iconst (v := 1) dL_source_13 (by decide) ?_
  rw [hQ]
  refine g_iret dL_source_14 rfl rfl (by decide) (by decide) ?_
  exact ⟨rfl, rfl⟩
set_option maxRecDepth 100000 in
set_option maxHeartbeats 4000000 in
theorem cL_source_ISE {l : Launch} (hlt : l.stackTraces = false) {N n p : Nat} {ord : List Nat} {L : Nat → Nat → Nat} {Γ : Nat → Nat → Nat → Int32} {o : Int64} {h : am_H} (w : WI N n p ord L Γ o h) {a : Int32} (hc : am_Con l yX4_source (.code yX4_source cX4_source 3 (some .int)) 20 1 6 [.ref (L 5 0), .int a] h (fun _ _ => False) (fun E h' => E = "java/lang/IllegalStateException" ∧ h' = h)) : am_Con l yL_source (.codeWith yL_source cL_source 4 (some .int) [(0, 9, 12, 13), (0, 9, 15, 15)]) 21 1 6 [.ref (L 5 0), .int a, .ref (L 14 0)] h (fun v h' => v = some (.int 2) ∧ h' = h) (fun _ _ => False) := by
  refine am_bodyH hlt (by decide +kernel) (Nat.le_of_ble_eq_true rfl) (fun k hl hR h0 htab => ?_)
  subst hl
  obtain ⟨Qf, hQ⟩ : ∃ Qf, Qf = am_Q k 1 6 (fun v h' => v = some (.int 2) ∧ h' = h) (fun _ _ => False) := ⟨_, rfl⟩
  rw [← hQ]
  refine g_aload_n dL_source_0 rfl ?_
  refine g_iconst (v := 0) dL_source_1 (by decide) ?_
  refine g_aload_n dL_source_2 rfl ?_
  refine g_iload_n dL_source_3 rfl ?_
  refine g_callVX [_] dL_source_4 mc_L_23 mi_X4_source se_X4_source hc (w.k (c := 5) (i := 0) rfl) rfl rfl (Nat.le_of_ble_eq_true rfl) (am_rm hR (by decide)) (fun _ _ z => z.elim) (fun E h' q hxx => ?_)
  obtain ⟨rfl, rfl⟩ := hxx
  have hps : ∀ z ∈ ([⟨0, 9, 12, 13⟩] : List ExceptionTableEntry), covers z 4 = false ∨ (z.catchType ≠ 0 ∧ ∃ nm : String, Cond.classLink RL z.catchType nm ∈ am_WS ∧ ∀ U, am_T U → va_Nc "java/lang/IllegalStateException" nm U) := fun z hz => by
    rcases List.mem_cons.mp hz with rfl | hz
    · exact Or.inr ⟨by decide, _, kl_L_13, fun U hU => hU.2.2.2.2.2.2.2.2.1⟩
    cases hz
  refine ⟨15, ⟨[⟨0, 9, 12, 13⟩], ⟨0, 9, 15, 15⟩, [], htab, hps, by decide, by decide, rfl, kl_L_15, cx_ISE⟩, ?_⟩
  skip
  refine g_astore_n dL_source_15 (by decide) rfl ?_
  refine g_iconst (v := 2) dL_source_16 (by decide) ?_
  rw [hQ]
  refine g_iret dL_source_17 rfl rfl (by decide) (by decide) ?_
  exact ⟨rfl, rfl⟩
set_option maxRecDepth 100000 in
set_option maxHeartbeats 4000000 in
theorem cL_source_0 {l : Launch} (hlt : l.stackTraces = false) {N n p : Nat} {ord : List Nat} {L : Nat → Nat → Nat} {Γ : Nat → Nat → Nat → Int32} {o : Int64} {h : am_H} (w : WI N n p ord L Γ o h) {a : Int32} {mc ms : Nat} {Rr : Int32 → Nat → Nat → List Nat → (Nat → Nat → Nat) → (Nat → Nat → Nat → Int32) → Prop} (hc : am_Con l yX4_source (.code yX4_source cX4_source 3 (some .int)) 20 mc ms [.ref (L 5 0), .int a] h (fun v h' => ∃ (i : Int32) (n' p' : Nat) (ord' : List Nat) (L' : Nat → Nat → Nat) (Γ' : Nat → Nat → Nat → Int32), v = some (.int i) ∧ L' 14 0 = L 14 0 ∧ WI N n' p' ord' L' Γ' o h' ∧ Rr i n' p' ord' L' Γ') (fun _ _ => False)) : am_Con l yL_source (.codeWith yL_source cL_source 4 (some .int) [(0, 9, 12, 13), (0, 9, 15, 15)]) 21 mc ms [.ref (L 5 0), .int a, .ref (L 14 0)] h (fun v h' => ∃ (i : Int32) (n' p' : Nat) (ord' : List Nat) (L' : Nat → Nat → Nat) (Γ' : Nat → Nat → Nat → Int32), v = some (.int 0) ∧ WI N n' p' ord' L' Γ' i.toInt64 h' ∧ Rr i n' p' ord' L' Γ') (fun _ _ => False) := by
  refine am_bodyH hlt (by decide +kernel) (Nat.le_of_ble_eq_true rfl) (fun k hl hR h0 htab => ?_)
  subst hl
  obtain ⟨Qf, hQ⟩ : ∃ Qf, Qf = am_Q k mc ms (fun v h' => ∃ (i : Int32) (n' p' : Nat) (ord' : List Nat) (L' : Nat → Nat → Nat) (Γ' : Nat → Nat → Nat → Int32), v = some (.int 0) ∧ WI N n' p' ord' L' Γ' i.toInt64 h' ∧ Rr i n' p' ord' L' Γ') (fun _ _ => False) := ⟨_, rfl⟩
  rw [← hQ]
  refine g_aload_n dL_source_0 rfl ?_
  refine g_iconst (v := nI 0) dL_source_1 (by decide) ?_
  refine g_aload_n dL_source_2 rfl ?_
  refine g_iload_n dL_source_3 rfl ?_
  refine g_callV [_] dL_source_4 mc_L_23 mi_X4_source se_X4_source (hc) ((w.k (c := 5) (i := 0) rfl)) rfl rfl (Nat.le_of_ble_eq_true rfl) (am_rm hR ⟨Nat.le_of_ble_eq_true rfl, Nat.le_of_ble_eq_true rfl, Nat.le_of_eq (Nat.zero_add _), Nat.le_of_eq (Nat.zero_add _)⟩) (fun _ _ z => z) (fun v hx hq hE => ?_)
  obtain ⟨i, n1, p1, ord1, L1, Γ1, rfl, hL, w1, hRr⟩ := hq
  rw [← hL]
  refine g_i2l dL_source_7 rfl ?_
  refine w_last w1 dL_source_8 (fun h2 w2 => ?_)
  refine g_goto 18 dL_source_9 (by decide) ?_
  refine g_iconst (v := 0) dL_source_18 (by decide) ?_
  rw [hQ]
  refine g_iret dL_source_19 rfl rfl (by omega) (by omega) ?_
  exact ⟨i, n1, p1, ord1, L1, Γ1, rfl, w2, hRr⟩
theorem mcw_need : am_mcW RL 84 yL_need cL_need 5 (some .int) [(0, 10, 13, 21), (0, 10, 17, 13)] 4 := ⟨am_ws (i := 479) (by decide +kernel) rfl, am_ws (i := 481) (by decide +kernel) rfl, am_ws (i := 36) (by decide +kernel) rfl, am_ws (i := 480) (by decide +kernel) rfl, by decide, rfl⟩
set_option maxRecDepth 100000 in
set_option maxHeartbeats 4000000 in
theorem cL_need_IOB {l : Launch} (hlt : l.stackTraces = false) {N n p : Nat} {ord : List Nat} {L : Nat → Nat → Nat} {Γ : Nat → Nat → Nat → Int32} {o : Int64} {h : am_H} (w : WI N n p ord L Γ o h) {a b : Int32} (hc : am_Con l yX4_need (.code yX4_need cX4_need 5 (some .int)) 20 1 6 [.ref (L 5 0), .int a, .int b] h (fun _ _ => False) (fun E h' => E = "java/lang/IndexOutOfBoundsException" ∧ h' = h)) : am_Con l yL_need (.codeWith yL_need cL_need 5 (some .int) [(0, 10, 13, 21), (0, 10, 17, 13)]) 21 1 6 [.ref (L 5 0), .int a, .int b, .ref (L 14 0)] h (fun v h' => v = some (.int 1) ∧ h' = h) (fun _ _ => False) := by
  refine am_bodyH hlt (by decide +kernel) (Nat.le_of_ble_eq_true rfl) (fun k hl hR h0 htab => ?_)
  subst hl
  obtain ⟨Qf, hQ⟩ : ∃ Qf, Qf = am_Q k 1 6 (fun v h' => v = some (.int 1) ∧ h' = h) (fun _ _ => False) := ⟨_, rfl⟩
  rw [← hQ]
  refine g_aload_n dL_need_0 rfl ?_
  refine g_iconst (v := 0) dL_need_1 (by decide) ?_
  refine g_aload_n dL_need_2 rfl ?_
  refine g_iload_n dL_need_3 rfl ?_
  refine g_iload_n dL_need_4 rfl ?_
  refine g_callVX [_, _] dL_need_5 mc_L_27 mi_X4_need se_X4_need hc (w.k (c := 5) (i := 0) rfl) rfl rfl (Nat.le_of_ble_eq_true rfl) (am_rm hR (by decide)) (fun _ _ z => z.elim) (fun E h' q hxx => ?_)
  obtain ⟨rfl, rfl⟩ := hxx
  have hps : ∀ z ∈ ([] : List ExceptionTableEntry), covers z 5 = false ∨ (z.catchType ≠ 0 ∧ ∃ nm : String, Cond.classLink RL z.catchType nm ∈ am_WS ∧ ∀ U, am_T U → va_Nc "java/lang/IndexOutOfBoundsException" nm U) := fun z hz => by cases hz
  refine ⟨13, ⟨[], ⟨0, 10, 13, 21⟩, [⟨0, 10, 17, 13⟩], htab, hps, by decide, by decide, rfl, kl_L_21, cx_IOB⟩, ?_⟩
  skip
  refine g_astore dL_need_13 (by decide) rfl ?_
  refine g_iconst (v := 1) dL_need_15 (by decide) ?_
  rw [hQ]
  refine g_iret dL_need_16 rfl rfl (by decide) (by decide) ?_
  exact ⟨rfl, rfl⟩
set_option maxRecDepth 100000 in
set_option maxHeartbeats 4000000 in
theorem cL_need_IAE {l : Launch} (hlt : l.stackTraces = false) {N n p : Nat} {ord : List Nat} {L : Nat → Nat → Nat} {Γ : Nat → Nat → Nat → Int32} {o : Int64} {h : am_H} (w : WI N n p ord L Γ o h) {a b : Int32} (hc : am_Con l yX4_need (.code yX4_need cX4_need 5 (some .int)) 20 1 6 [.ref (L 5 0), .int a, .int b] h (fun _ _ => False) (fun E h' => E = "java/lang/IllegalArgumentException" ∧ h' = h)) : am_Con l yL_need (.codeWith yL_need cL_need 5 (some .int) [(0, 10, 13, 21), (0, 10, 17, 13)]) 21 1 6 [.ref (L 5 0), .int a, .int b, .ref (L 14 0)] h (fun v h' => v = some (.int 2) ∧ h' = h) (fun _ _ => False) := by
  refine am_bodyH hlt (by decide +kernel) (Nat.le_of_ble_eq_true rfl) (fun k hl hR h0 htab => ?_)
  subst hl
  obtain ⟨Qf, hQ⟩ : ∃ Qf, Qf = am_Q k 1 6 (fun v h' => v = some (.int 2) ∧ h' = h) (fun _ _ => False) := ⟨_, rfl⟩
  rw [← hQ]
  refine g_aload_n dL_need_0 rfl ?_
  refine g_iconst (v := 0) dL_need_1 (by decide) ?_
  refine g_aload_n dL_need_2 rfl ?_
  refine g_iload_n dL_need_3 rfl ?_
  refine g_iload_n dL_need_4 rfl ?_
  refine g_callVX [_, _] dL_need_5 mc_L_27 mi_X4_need se_X4_need hc (w.k (c := 5) (i := 0) rfl) rfl rfl (Nat.le_of_ble_eq_true rfl) (am_rm hR (by decide)) (fun _ _ z => z.elim) (fun E h' q hxx => ?_)
  obtain ⟨rfl, rfl⟩ := hxx
  have hps : ∀ z ∈ ([⟨0, 10, 13, 21⟩] : List ExceptionTableEntry), covers z 5 = false ∨ (z.catchType ≠ 0 ∧ ∃ nm : String, Cond.classLink RL z.catchType nm ∈ am_WS ∧ ∀ U, am_T U → va_Nc "java/lang/IllegalArgumentException" nm U) := fun z hz => by
    rcases List.mem_cons.mp hz with rfl | hz
    · exact Or.inr ⟨by decide, _, kl_L_21, fun U hU => hU.2.2.2.2.2.2.2.2.2.1⟩
    cases hz
  refine ⟨17, ⟨[⟨0, 10, 13, 21⟩], ⟨0, 10, 17, 13⟩, [], htab, hps, by decide, by decide, rfl, kl_L_13, cx_IAE⟩, ?_⟩
  skip
  refine g_astore dL_need_17 (by decide) rfl ?_
  refine g_iconst (v := 2) dL_need_19 (by decide) ?_
  rw [hQ]
  refine g_iret dL_need_20 rfl rfl (by decide) (by decide) ?_
  exact ⟨rfl, rfl⟩
set_option maxRecDepth 100000 in
set_option maxHeartbeats 4000000 in
theorem cL_need_0 {l : Launch} (hlt : l.stackTraces = false) {N n p : Nat} {ord : List Nat} {L : Nat → Nat → Nat} {Γ : Nat → Nat → Nat → Int32} {o : Int64} {h : am_H} (w : WI N n p ord L Γ o h) {a b : Int32} {mc ms : Nat} {Rr : Int32 → Nat → Nat → List Nat → (Nat → Nat → Nat) → (Nat → Nat → Nat → Int32) → Prop} (hc : am_Con l yX4_need (.code yX4_need cX4_need 5 (some .int)) 20 mc ms [.ref (L 5 0), .int a, .int b] h (fun v h' => ∃ (i : Int32) (n' p' : Nat) (ord' : List Nat) (L' : Nat → Nat → Nat) (Γ' : Nat → Nat → Nat → Int32), v = some (.int i) ∧ L' 14 0 = L 14 0 ∧ WI N n' p' ord' L' Γ' o h' ∧ Rr i n' p' ord' L' Γ') (fun _ _ => False)) : am_Con l yL_need (.codeWith yL_need cL_need 5 (some .int) [(0, 10, 13, 21), (0, 10, 17, 13)]) 21 mc ms [.ref (L 5 0), .int a, .int b, .ref (L 14 0)] h (fun v h' => ∃ (i : Int32) (n' p' : Nat) (ord' : List Nat) (L' : Nat → Nat → Nat) (Γ' : Nat → Nat → Nat → Int32), v = some (.int 0) ∧ WI N n' p' ord' L' Γ' i.toInt64 h' ∧ Rr i n' p' ord' L' Γ') (fun _ _ => False) := by
  refine am_bodyH hlt (by decide +kernel) (Nat.le_of_ble_eq_true rfl) (fun k hl hR h0 htab => ?_)
  subst hl
  obtain ⟨Qf, hQ⟩ : ∃ Qf, Qf = am_Q k mc ms (fun v h' => ∃ (i : Int32) (n' p' : Nat) (ord' : List Nat) (L' : Nat → Nat → Nat) (Γ' : Nat → Nat → Nat → Int32), v = some (.int 0) ∧ WI N n' p' ord' L' Γ' i.toInt64 h' ∧ Rr i n' p' ord' L' Γ') (fun _ _ => False) := ⟨_, rfl⟩
  rw [← hQ]
  refine g_aload_n dL_need_0 rfl ?_
  refine g_iconst (v := nI 0) dL_need_1 (by decide) ?_
  refine g_aload_n dL_need_2 rfl ?_
  refine g_iload_n dL_need_3 rfl ?_
  refine g_iload_n dL_need_4 rfl ?_
  refine g_callV [_, _] dL_need_5 mc_L_27 mi_X4_need se_X4_need (hc) ((w.k (c := 5) (i := 0) rfl)) rfl rfl (Nat.le_of_ble_eq_true rfl) (am_rm hR ⟨Nat.le_of_ble_eq_true rfl, Nat.le_of_ble_eq_true rfl, Nat.le_of_eq (Nat.zero_add _), Nat.le_of_eq (Nat.zero_add _)⟩) (fun _ _ z => z) (fun v hx hq hE => ?_)
  obtain ⟨i, n1, p1, ord1, L1, Γ1, rfl, hL, w1, hRr⟩ := hq
  rw [← hL]
  refine g_i2l dL_need_8 rfl ?_
  refine w_last w1 dL_need_9 (fun h2 w2 => ?_)
  refine g_goto 21 dL_need_10 (by decide) ?_
  refine g_iconst (v := 0) dL_need_21 (by decide) ?_
  rw [hQ]
  refine g_iret dL_need_22 rfl rfl (by omega) (by omega) ?_
  exact ⟨i, n1, p1, ord1, L1, Γ1, rfl, w2, hRr⟩
theorem mcw_bid : am_mcW RL 87 yL_bid cL_bid 6 (some .int) [(0, 12, 15, 21), (0, 12, 19, 13), (0, 12, 23, 15)] 5 := ⟨am_ws (i := 501) (by decide +kernel) rfl, am_ws (i := 503) (by decide +kernel) rfl, am_ws (i := 36) (by decide +kernel) rfl, am_ws (i := 502) (by decide +kernel) rfl, by decide, rfl⟩
set_option maxRecDepth 100000 in
set_option maxHeartbeats 4000000 in
theorem cL_bid_IOB {l : Launch} (hlt : l.stackTraces = false) {N n p : Nat} {ord : List Nat} {L : Nat → Nat → Nat} {Γ : Nat → Nat → Nat → Int32} {o : Int64} {h : am_H} (w : WI N n p ord L Γ o h) {a b c : Int32} (hc : am_Con l yX4_bid (.code yX4_bid cX4_bid 5 (some .int)) 20 1 6 [.ref (L 5 0), .int a, .int b, .int c] h (fun _ _ => False) (fun E h' => E = "java/lang/IndexOutOfBoundsException" ∧ h' = h)) : am_Con l yL_bid (.codeWith yL_bid cL_bid 6 (some .int) [(0, 12, 15, 21), (0, 12, 19, 13), (0, 12, 23, 15)]) 21 1 6 [.ref (L 5 0), .int a, .int b, .int c, .ref (L 14 0)] h (fun v h' => v = some (.int 1) ∧ h' = h) (fun _ _ => False) := by
  refine am_bodyH hlt (by decide +kernel) (Nat.le_of_ble_eq_true rfl) (fun k hl hR h0 htab => ?_)
  subst hl
  obtain ⟨Qf, hQ⟩ : ∃ Qf, Qf = am_Q k 1 6 (fun v h' => v = some (.int 1) ∧ h' = h) (fun _ _ => False) := ⟨_, rfl⟩
  rw [← hQ]
  refine g_aload dL_bid_0 rfl ?_
  refine g_iconst (v := 0) dL_bid_2 (by decide) ?_
  refine g_aload_n dL_bid_3 rfl ?_
  refine g_iload_n dL_bid_4 rfl ?_
  refine g_iload_n dL_bid_5 rfl ?_
  refine g_iload_n dL_bid_6 rfl ?_
  refine g_callVX [_, _, _] dL_bid_7 mc_L_30 mi_X4_bid se_X4_bid hc (w.k (c := 5) (i := 0) rfl) rfl rfl (Nat.le_of_ble_eq_true rfl) (am_rm hR (by decide)) (fun _ _ z => z.elim) (fun E h' q hxx => ?_)
  obtain ⟨rfl, rfl⟩ := hxx
  have hps : ∀ z ∈ ([] : List ExceptionTableEntry), covers z 7 = false ∨ (z.catchType ≠ 0 ∧ ∃ nm : String, Cond.classLink RL z.catchType nm ∈ am_WS ∧ ∀ U, am_T U → va_Nc "java/lang/IndexOutOfBoundsException" nm U) := fun z hz => by cases hz
  refine ⟨15, ⟨[], ⟨0, 12, 15, 21⟩, [⟨0, 12, 19, 13⟩, ⟨0, 12, 23, 15⟩], htab, hps, by decide, by decide, rfl, kl_L_21, cx_IOB⟩, ?_⟩
  skip
  refine g_astore dL_bid_15 (by decide) rfl ?_
  refine g_iconst (v := 1) dL_bid_17 (by decide) ?_
  rw [hQ]
  refine g_iret dL_bid_18 rfl rfl (by decide) (by decide) ?_
  exact ⟨rfl, rfl⟩
set_option maxRecDepth 100000 in
set_option maxHeartbeats 4000000 in
theorem cL_bid_IAE {l : Launch} (hlt : l.stackTraces = false) {N n p : Nat} {ord : List Nat} {L : Nat → Nat → Nat} {Γ : Nat → Nat → Nat → Int32} {o : Int64} {h : am_H} (w : WI N n p ord L Γ o h) {a b c : Int32} (hc : am_Con l yX4_bid (.code yX4_bid cX4_bid 5 (some .int)) 20 1 6 [.ref (L 5 0), .int a, .int b, .int c] h (fun _ _ => False) (fun E h' => E = "java/lang/IllegalArgumentException" ∧ h' = h)) : am_Con l yL_bid (.codeWith yL_bid cL_bid 6 (some .int) [(0, 12, 15, 21), (0, 12, 19, 13), (0, 12, 23, 15)]) 21 1 6 [.ref (L 5 0), .int a, .int b, .int c, .ref (L 14 0)] h (fun v h' => v = some (.int 2) ∧ h' = h) (fun _ _ => False) := by
  refine am_bodyH hlt (by decide +kernel) (Nat.le_of_ble_eq_true rfl) (fun k hl hR h0 htab => ?_)
  subst hl
  obtain ⟨Qf, hQ⟩ : ∃ Qf, Qf = am_Q k 1 6 (fun v h' => v = some (.int 2) ∧ h' = h) (fun _ _ => False) := ⟨_, rfl⟩
  rw [← hQ]
  refine g_aload dL_bid_0 rfl ?_
  refine g_iconst (v := 0) dL_bid_2 (by decide) ?_
  refine g_aload_n dL_bid_3 rfl ?_
  refine g_iload_n dL_bid_4 rfl ?_
  refine g_iload_n dL_bid_5 rfl ?_
  refine g_iload_n dL_bid_6 rfl ?_
  refine g_callVX [_, _, _] dL_bid_7 mc_L_30 mi_X4_bid se_X4_bid hc (w.k (c := 5) (i := 0) rfl) rfl rfl (Nat.le_of_ble_eq_true rfl) (am_rm hR (by decide)) (fun _ _ z => z.elim) (fun E h' q hxx => ?_)
  obtain ⟨rfl, rfl⟩ := hxx
  have hps : ∀ z ∈ ([⟨0, 12, 15, 21⟩] : List ExceptionTableEntry), covers z 7 = false ∨ (z.catchType ≠ 0 ∧ ∃ nm : String, Cond.classLink RL z.catchType nm ∈ am_WS ∧ ∀ U, am_T U → va_Nc "java/lang/IllegalArgumentException" nm U) := fun z hz => by
    rcases List.mem_cons.mp hz with rfl | hz
    · exact Or.inr ⟨by decide, _, kl_L_21, fun U hU => hU.2.2.2.2.2.2.2.2.2.1⟩
    cases hz
  refine ⟨19, ⟨[⟨0, 12, 15, 21⟩], ⟨0, 12, 19, 13⟩, [⟨0, 12, 23, 15⟩], htab, hps, by decide, by decide, rfl, kl_L_13, cx_IAE⟩, ?_⟩
  skip
  refine g_astore dL_bid_19 (by decide) rfl ?_
  refine g_iconst (v := 2) dL_bid_21 (by decide) ?_
  rw [hQ]
  refine g_iret dL_bid_22 rfl rfl (by decide) (by decide) ?_
  exact ⟨rfl, rfl⟩
set_option maxRecDepth 100000 in
set_option maxHeartbeats 4000000 in
theorem cL_bid_ISE {l : Launch} (hlt : l.stackTraces = false) {N n p : Nat} {ord : List Nat} {L : Nat → Nat → Nat} {Γ : Nat → Nat → Nat → Int32} {o : Int64} {h : am_H} (w : WI N n p ord L Γ o h) {a b c : Int32} (hc : am_Con l yX4_bid (.code yX4_bid cX4_bid 5 (some .int)) 20 1 6 [.ref (L 5 0), .int a, .int b, .int c] h (fun _ _ => False) (fun E h' => E = "java/lang/IllegalStateException" ∧ h' = h)) : am_Con l yL_bid (.codeWith yL_bid cL_bid 6 (some .int) [(0, 12, 15, 21), (0, 12, 19, 13), (0, 12, 23, 15)]) 21 1 6 [.ref (L 5 0), .int a, .int b, .int c, .ref (L 14 0)] h (fun v h' => v = some (.int 3) ∧ h' = h) (fun _ _ => False) := by
  refine am_bodyH hlt (by decide +kernel) (Nat.le_of_ble_eq_true rfl) (fun k hl hR h0 htab => ?_)
  subst hl
  obtain ⟨Qf, hQ⟩ : ∃ Qf, Qf = am_Q k 1 6 (fun v h' => v = some (.int 3) ∧ h' = h) (fun _ _ => False) := ⟨_, rfl⟩
  rw [← hQ]
  refine g_aload dL_bid_0 rfl ?_
  refine g_iconst (v := 0) dL_bid_2 (by decide) ?_
  refine g_aload_n dL_bid_3 rfl ?_
  refine g_iload_n dL_bid_4 rfl ?_
  refine g_iload_n dL_bid_5 rfl ?_
  refine g_iload_n dL_bid_6 rfl ?_
  refine g_callVX [_, _, _] dL_bid_7 mc_L_30 mi_X4_bid se_X4_bid hc (w.k (c := 5) (i := 0) rfl) rfl rfl (Nat.le_of_ble_eq_true rfl) (am_rm hR (by decide)) (fun _ _ z => z.elim) (fun E h' q hxx => ?_)
  obtain ⟨rfl, rfl⟩ := hxx
  have hps : ∀ z ∈ ([⟨0, 12, 15, 21⟩, ⟨0, 12, 19, 13⟩] : List ExceptionTableEntry), covers z 7 = false ∨ (z.catchType ≠ 0 ∧ ∃ nm : String, Cond.classLink RL z.catchType nm ∈ am_WS ∧ ∀ U, am_T U → va_Nc "java/lang/IllegalStateException" nm U) := fun z hz => by
    rcases List.mem_cons.mp hz with rfl | hz
    · exact Or.inr ⟨by decide, _, kl_L_21, fun U hU => hU.2.2.2.2.2.2.2.2.2.2⟩
    rcases List.mem_cons.mp hz with rfl | hz
    · exact Or.inr ⟨by decide, _, kl_L_13, fun U hU => hU.2.2.2.2.2.2.2.2.1⟩
    cases hz
  refine ⟨23, ⟨[⟨0, 12, 15, 21⟩, ⟨0, 12, 19, 13⟩], ⟨0, 12, 23, 15⟩, [], htab, hps, by decide, by decide, rfl, kl_L_15, cx_ISE⟩, ?_⟩
  skip
  refine g_astore dL_bid_23 (by decide) rfl ?_
  refine g_iconst (v := 3) dL_bid_25 (by decide) ?_
  rw [hQ]
  refine g_iret dL_bid_26 rfl rfl (by decide) (by decide) ?_
  exact ⟨rfl, rfl⟩
set_option maxRecDepth 100000 in
set_option maxHeartbeats 4000000 in
theorem cL_bid_0 {l : Launch} (hlt : l.stackTraces = false) {N n p : Nat} {ord : List Nat} {L : Nat → Nat → Nat} {Γ : Nat → Nat → Nat → Int32} {o : Int64} {h : am_H} (w : WI N n p ord L Γ o h) {a b c : Int32} {mc ms : Nat} {Rr : Int32 → Nat → Nat → List Nat → (Nat → Nat → Nat) → (Nat → Nat → Nat → Int32) → Prop} (hc : am_Con l yX4_bid (.code yX4_bid cX4_bid 5 (some .int)) 20 mc ms [.ref (L 5 0), .int a, .int b, .int c] h (fun v h' => ∃ (i : Int32) (n' p' : Nat) (ord' : List Nat) (L' : Nat → Nat → Nat) (Γ' : Nat → Nat → Nat → Int32), v = some (.int i) ∧ L' 14 0 = L 14 0 ∧ WI N n' p' ord' L' Γ' o h' ∧ Rr i n' p' ord' L' Γ') (fun _ _ => False)) : am_Con l yL_bid (.codeWith yL_bid cL_bid 6 (some .int) [(0, 12, 15, 21), (0, 12, 19, 13), (0, 12, 23, 15)]) 21 mc ms [.ref (L 5 0), .int a, .int b, .int c, .ref (L 14 0)] h (fun v h' => ∃ (i : Int32) (n' p' : Nat) (ord' : List Nat) (L' : Nat → Nat → Nat) (Γ' : Nat → Nat → Nat → Int32), v = some (.int 0) ∧ WI N n' p' ord' L' Γ' i.toInt64 h' ∧ Rr i n' p' ord' L' Γ') (fun _ _ => False) := by
  refine am_bodyH hlt (by decide +kernel) (Nat.le_of_ble_eq_true rfl) (fun k hl hR h0 htab => ?_)
  subst hl
  obtain ⟨Qf, hQ⟩ : ∃ Qf, Qf = am_Q k mc ms (fun v h' => ∃ (i : Int32) (n' p' : Nat) (ord' : List Nat) (L' : Nat → Nat → Nat) (Γ' : Nat → Nat → Nat → Int32), v = some (.int 0) ∧ WI N n' p' ord' L' Γ' i.toInt64 h' ∧ Rr i n' p' ord' L' Γ') (fun _ _ => False) := ⟨_, rfl⟩
  rw [← hQ]
  refine g_aload dL_bid_0 rfl ?_
  refine g_iconst (v := nI 0) dL_bid_2 (by decide) ?_
  refine g_aload_n dL_bid_3 rfl ?_
  refine g_iload_n dL_bid_4 rfl ?_
  refine g_iload_n dL_bid_5 rfl ?_
  refine g_iload_n dL_bid_6 rfl ?_
  refine g_callV [_, _, _] dL_bid_7 mc_L_30 mi_X4_bid se_X4_bid (hc) ((w.k (c := 5) (i := 0) rfl)) rfl rfl (Nat.le_of_ble_eq_true rfl) (am_rm hR ⟨Nat.le_of_ble_eq_true rfl, Nat.le_of_ble_eq_true rfl, Nat.le_of_eq (Nat.zero_add _), Nat.le_of_eq (Nat.zero_add _)⟩) (fun _ _ z => z) (fun v hx hq hE => ?_)
  obtain ⟨i, n1, p1, ord1, L1, Γ1, rfl, hL, w1, hRr⟩ := hq
  rw [← hL]
  refine g_i2l dL_bid_10 rfl ?_
  refine w_last w1 dL_bid_11 (fun h2 w2 => ?_)
  refine g_goto 27 dL_bid_12 (by decide) ?_
  refine g_iconst (v := 0) dL_bid_27 (by decide) ?_
  rw [hQ]
  refine g_iret dL_bid_28 rfl rfl (by omega) (by omega) ?_
  exact ⟨i, n1, p1, ord1, L1, Γ1, rfl, w2, hRr⟩
theorem mcw_close : am_mcW RL 90 yL_close cL_close 3 (some .int) [(0, 15, 18, 15)] 2 := ⟨am_ws (i := 514) (by decide +kernel) rfl, am_ws (i := 516) (by decide +kernel) rfl, am_ws (i := 36) (by decide +kernel) rfl, am_ws (i := 515) (by decide +kernel) rfl, by decide, rfl⟩
set_option maxRecDepth 100000 in
set_option maxHeartbeats 4000000 in
theorem cL_close_ISE {l : Launch} (hlt : l.stackTraces = false) {N n p : Nat} {ord : List Nat} {L : Nat → Nat → Nat} {Γ : Nat → Nat → Nat → Int32} {o : Int64} {h : am_H} (w : WI N n p ord L Γ o h) (hc : am_Con l yX4_close (.code yX4_close cX4_close 3 (some .boolean)) 20 1 6 [.ref (L 5 0)] h (fun _ _ => False) (fun E h' => E = "java/lang/IllegalStateException" ∧ h' = h)) : am_Con l yL_close (.codeWith yL_close cL_close 3 (some .int) [(0, 15, 18, 15)]) 21 1 6 [.ref (L 5 0), .ref (L 14 0)] h (fun v h' => v = some (.int 1) ∧ h' = h) (fun _ _ => False) := by
  refine am_bodyH hlt (by decide +kernel) (Nat.le_of_ble_eq_true rfl) (fun k hl hR h0 htab => ?_)
  subst hl
  obtain ⟨Qf, hQ⟩ : ∃ Qf, Qf = am_Q k 1 6 (fun v h' => v = some (.int 1) ∧ h' = h) (fun _ _ => False) := ⟨_, rfl⟩
  rw [← hQ]
  refine g_aload_n dL_close_0 rfl ?_
  refine g_iconst (v := 0) dL_close_1 (by decide) ?_
  refine g_aload_n dL_close_2 rfl ?_
  refine g_callVX [] dL_close_3 mc_L_33 mi_X4_close se_X4_close hc (w.k (c := 5) (i := 0) rfl) rfl rfl (Nat.le_of_ble_eq_true rfl) (am_rm hR (by decide)) (fun _ _ z => z.elim) (fun E h' q hxx => ?_)
  obtain ⟨rfl, rfl⟩ := hxx
  have hps : ∀ z ∈ ([] : List ExceptionTableEntry), covers z 3 = false ∨ (z.catchType ≠ 0 ∧ ∃ nm : String, Cond.classLink RL z.catchType nm ∈ am_WS ∧ ∀ U, am_T U → va_Nc "java/lang/IllegalStateException" nm U) := fun z hz => by cases hz
  refine ⟨18, ⟨[], ⟨0, 15, 18, 15⟩, [], htab, hps, by decide, by decide, rfl, kl_L_15, cx_ISE⟩, ?_⟩
  skip
  refine g_astore_n dL_close_18 (by decide) rfl ?_
  refine g_iconst (v := 1) dL_close_19 (by decide) ?_
  rw [hQ]
  refine g_iret dL_close_20 rfl rfl (by decide) (by decide) ?_
  exact ⟨rfl, rfl⟩
set_option maxRecDepth 100000 in
set_option maxHeartbeats 4000000 in
theorem cL_close_0 {l : Launch} (hlt : l.stackTraces = false) {N n p : Nat} {ord : List Nat} {L : Nat → Nat → Nat} {Γ : Nat → Nat → Nat → Int32} {o : Int64} {h : am_H} (w : WI N n p ord L Γ o h) {mc ms : Nat} {Rr : Int32 → Nat → Nat → List Nat → (Nat → Nat → Nat) → (Nat → Nat → Nat → Int32) → Prop} (hc : am_Con l yX4_close (.code yX4_close cX4_close 3 (some .boolean)) 20 mc ms [.ref (L 5 0)] h (fun v h' => ∃ (i : Int32) (n' p' : Nat) (ord' : List Nat) (L' : Nat → Nat → Nat) (Γ' : Nat → Nat → Nat → Int32), v = some (.int i) ∧ L' 14 0 = L 14 0 ∧ WI N n' p' ord' L' Γ' o h' ∧ Rr i n' p' ord' L' Γ') (fun _ _ => False)) : am_Con l yL_close (.codeWith yL_close cL_close 3 (some .int) [(0, 15, 18, 15)]) 21 mc ms [.ref (L 5 0), .ref (L 14 0)] h (fun v h' => ∃ (i : Int32) (n' p' : Nat) (ord' : List Nat) (L' : Nat → Nat → Nat) (Γ' : Nat → Nat → Nat → Int32), v = some (.int 0) ∧ WI N n' p' ord' L' Γ' (if i = 0 then 0 else 1) h' ∧ Rr i n' p' ord' L' Γ') (fun _ _ => False) := by
  refine am_bodyH hlt (by decide +kernel) (Nat.le_of_ble_eq_true rfl) (fun k hl hR h0 htab => ?_)
  subst hl
  obtain ⟨Qf, hQ⟩ : ∃ Qf, Qf = am_Q k mc ms (fun v h' => ∃ (i : Int32) (n' p' : Nat) (ord' : List Nat) (L' : Nat → Nat → Nat) (Γ' : Nat → Nat → Nat → Int32), v = some (.int 0) ∧ WI N n' p' ord' L' Γ' (if i = 0 then 0 else 1) h' ∧ Rr i n' p' ord' L' Γ') (fun _ _ => False) := ⟨_, rfl⟩
  rw [← hQ]
  refine g_aload_n dL_close_0 rfl ?_
  refine g_iconst (v := nI 0) dL_close_1 (by decide) ?_
  refine g_aload_n dL_close_2 rfl ?_
  refine g_callV [] dL_close_3 mc_L_33 mi_X4_close se_X4_close (hc) ((w.k (c := 5) (i := 0) rfl)) rfl rfl (Nat.le_of_ble_eq_true rfl) (am_rm hR ⟨Nat.le_of_ble_eq_true rfl, Nat.le_of_ble_eq_true rfl, Nat.le_of_eq (Nat.zero_add _), Nat.le_of_eq (Nat.zero_add _)⟩) (fun _ _ z => z) (fun v hx hq hE => ?_)
  obtain ⟨i, n1, p1, ord1, L1, Γ1, rfl, hL, w1, hRr⟩ := hq
  rw [← hL]
  refine g_if_eq 13 dL_close_6 (by decide) (fun c_6 => ?_) (fun c_6 => ?_)
  · skip
    refine g_lconst dL_close_13 rfl ?_
    refine w_last w1 dL_close_14 (fun h2 w2 => ?_)
    refine g_goto 21 dL_close_15 (by decide) ?_
    refine g_iconst (v := 0) dL_close_21 (by decide) ?_
    rw [hQ]
    refine g_iret dL_close_22 rfl rfl (by omega) (by omega) ?_
    exact ⟨i, n1, p1, ord1, L1, Γ1, rfl, (by rw [if_pos c_6]; exact w2), hRr⟩
  · skip
    refine g_lconst dL_close_9 rfl ?_
    refine g_goto 14 dL_close_10 (by decide) ?_
    refine w_last w1 dL_close_14 (fun h2 w2 => ?_)
    refine g_goto 21 dL_close_15 (by decide) ?_
    refine g_iconst (v := 0) dL_close_21 (by decide) ?_
    rw [hQ]
    refine g_iret dL_close_22 rfl rfl (by omega) (by omega) ?_
    exact ⟨i, n1, p1, ord1, L1, Γ1, rfl, (by rw [if_neg c_6]; exact w2), hRr⟩
theorem mcw_burst : am_mcW RL 94 yL_burst cL_burst 4 (some .int) [(0, 9, 12, 21), (0, 9, 15, 15)] 3 := ⟨am_ws (i := 824) (by decide +kernel) rfl, am_ws (i := 826) (by decide +kernel) rfl, am_ws (i := 36) (by decide +kernel) rfl, am_ws (i := 825) (by decide +kernel) rfl, by decide, rfl⟩
set_option maxRecDepth 100000 in
set_option maxHeartbeats 4000000 in
theorem cL_burst_IOB {l : Launch} (hlt : l.stackTraces = false) {N n p : Nat} {ord : List Nat} {L : Nat → Nat → Nat} {Γ : Nat → Nat → Nat → Int32} {o : Int64} {h : am_H} (w : WI N n p ord L Γ o h) {a : Int32} (hc : am_Con l yX4_burst (.code yX4_burst cX4_burst 3 (some .int)) 20 1 6 [.ref (L 5 0), .int a] h (fun _ _ => False) (fun E h' => E = "java/lang/IndexOutOfBoundsException" ∧ h' = h)) : am_Con l yL_burst (.codeWith yL_burst cL_burst 4 (some .int) [(0, 9, 12, 21), (0, 9, 15, 15)]) 21 1 6 [.ref (L 5 0), .int a, .ref (L 14 0)] h (fun v h' => v = some (.int 1) ∧ h' = h) (fun _ _ => False) := by
  refine am_bodyH hlt (by decide +kernel) (Nat.le_of_ble_eq_true rfl) (fun k hl hR h0 htab => ?_)
  subst hl
  obtain ⟨Qf, hQ⟩ : ∃ Qf, Qf = am_Q k 1 6 (fun v h' => v = some (.int 1) ∧ h' = h) (fun _ _ => False) := ⟨_, rfl⟩
  rw [← hQ]
  refine g_aload_n dL_burst_0 rfl ?_
  refine g_iconst (v := 0) dL_burst_1 (by decide) ?_
  refine g_aload_n dL_burst_2 rfl ?_
  refine g_iload_n dL_burst_3 rfl ?_
  refine g_callVX [_] dL_burst_4 mc_L_37 mi_X4_burst se_X4_burst hc (w.k (c := 5) (i := 0) rfl) rfl rfl (Nat.le_of_ble_eq_true rfl) (am_rm hR (by decide)) (fun _ _ z => z.elim) (fun E h' q hxx => ?_)
  obtain ⟨rfl, rfl⟩ := hxx
  have hps : ∀ z ∈ ([] : List ExceptionTableEntry), covers z 4 = false ∨ (z.catchType ≠ 0 ∧ ∃ nm : String, Cond.classLink RL z.catchType nm ∈ am_WS ∧ ∀ U, am_T U → va_Nc "java/lang/IndexOutOfBoundsException" nm U) := fun z hz => by cases hz
  refine ⟨12, ⟨[], ⟨0, 9, 12, 21⟩, [⟨0, 9, 15, 15⟩], htab, hps, by decide, by decide, rfl, kl_L_21, cx_IOB⟩, ?_⟩
  skip
  refine g_astore_n dL_burst_12 (by decide) rfl ?_
  refine g_iconst (v := 1) dL_burst_13 (by decide) ?_
  rw [hQ]
  refine g_iret dL_burst_14 rfl rfl (by decide) (by decide) ?_
  exact ⟨rfl, rfl⟩
set_option maxRecDepth 100000 in
set_option maxHeartbeats 4000000 in
theorem cL_burst_ISE {l : Launch} (hlt : l.stackTraces = false) {N n p : Nat} {ord : List Nat} {L : Nat → Nat → Nat} {Γ : Nat → Nat → Nat → Int32} {o : Int64} {h : am_H} (w : WI N n p ord L Γ o h) {a : Int32} (hc : am_Con l yX4_burst (.code yX4_burst cX4_burst 3 (some .int)) 20 1 6 [.ref (L 5 0), .int a] h (fun _ _ => False) (fun E h' => E = "java/lang/IllegalStateException" ∧ h' = h)) : am_Con l yL_burst (.codeWith yL_burst cL_burst 4 (some .int) [(0, 9, 12, 21), (0, 9, 15, 15)]) 21 1 6 [.ref (L 5 0), .int a, .ref (L 14 0)] h (fun v h' => v = some (.int 2) ∧ h' = h) (fun _ _ => False) := by
  refine am_bodyH hlt (by decide +kernel) (Nat.le_of_ble_eq_true rfl) (fun k hl hR h0 htab => ?_)
  subst hl
  obtain ⟨Qf, hQ⟩ : ∃ Qf, Qf = am_Q k 1 6 (fun v h' => v = some (.int 2) ∧ h' = h) (fun _ _ => False) := ⟨_, rfl⟩
  rw [← hQ]
  refine g_aload_n dL_burst_0 rfl ?_
  refine g_iconst (v := 0) dL_burst_1 (by decide) ?_
  refine g_aload_n dL_burst_2 rfl ?_
  refine g_iload_n dL_burst_3 rfl ?_
  refine g_callVX [_] dL_burst_4 mc_L_37 mi_X4_burst se_X4_burst hc (w.k (c := 5) (i := 0) rfl) rfl rfl (Nat.le_of_ble_eq_true rfl) (am_rm hR (by decide)) (fun _ _ z => z.elim) (fun E h' q hxx => ?_)
  obtain ⟨rfl, rfl⟩ := hxx
  have hps : ∀ z ∈ ([⟨0, 9, 12, 21⟩] : List ExceptionTableEntry), covers z 4 = false ∨ (z.catchType ≠ 0 ∧ ∃ nm : String, Cond.classLink RL z.catchType nm ∈ am_WS ∧ ∀ U, am_T U → va_Nc "java/lang/IllegalStateException" nm U) := fun z hz => by
    rcases List.mem_cons.mp hz with rfl | hz
    · exact Or.inr ⟨by decide, _, kl_L_21, fun U hU => hU.2.2.2.2.2.2.2.2.2.2⟩
    cases hz
  refine ⟨15, ⟨[⟨0, 9, 12, 21⟩], ⟨0, 9, 15, 15⟩, [], htab, hps, by decide, by decide, rfl, kl_L_15, cx_ISE⟩, ?_⟩
  skip
  refine g_astore_n dL_burst_15 (by decide) rfl ?_
  refine g_iconst (v := 2) dL_burst_16 (by decide) ?_
  rw [hQ]
  refine g_iret dL_burst_17 rfl rfl (by decide) (by decide) ?_
  exact ⟨rfl, rfl⟩
set_option maxRecDepth 100000 in
set_option maxHeartbeats 4000000 in
theorem cL_burst_0 {l : Launch} (hlt : l.stackTraces = false) {N n p : Nat} {ord : List Nat} {L : Nat → Nat → Nat} {Γ : Nat → Nat → Nat → Int32} {o : Int64} {h : am_H} (w : WI N n p ord L Γ o h) {a : Int32} {mc ms : Nat} {Rr : Int32 → Nat → Nat → List Nat → (Nat → Nat → Nat) → (Nat → Nat → Nat → Int32) → Prop} (hc : am_Con l yX4_burst (.code yX4_burst cX4_burst 3 (some .int)) 20 mc ms [.ref (L 5 0), .int a] h (fun v h' => ∃ (i : Int32) (n' p' : Nat) (ord' : List Nat) (L' : Nat → Nat → Nat) (Γ' : Nat → Nat → Nat → Int32), v = some (.int i) ∧ L' 14 0 = L 14 0 ∧ WI N n' p' ord' L' Γ' o h' ∧ Rr i n' p' ord' L' Γ') (fun _ _ => False)) : am_Con l yL_burst (.codeWith yL_burst cL_burst 4 (some .int) [(0, 9, 12, 21), (0, 9, 15, 15)]) 21 mc ms [.ref (L 5 0), .int a, .ref (L 14 0)] h (fun v h' => ∃ (i : Int32) (n' p' : Nat) (ord' : List Nat) (L' : Nat → Nat → Nat) (Γ' : Nat → Nat → Nat → Int32), v = some (.int 0) ∧ WI N n' p' ord' L' Γ' i.toInt64 h' ∧ Rr i n' p' ord' L' Γ') (fun _ _ => False) := by
  refine am_bodyH hlt (by decide +kernel) (Nat.le_of_ble_eq_true rfl) (fun k hl hR h0 htab => ?_)
  subst hl
  obtain ⟨Qf, hQ⟩ : ∃ Qf, Qf = am_Q k mc ms (fun v h' => ∃ (i : Int32) (n' p' : Nat) (ord' : List Nat) (L' : Nat → Nat → Nat) (Γ' : Nat → Nat → Nat → Int32), v = some (.int 0) ∧ WI N n' p' ord' L' Γ' i.toInt64 h' ∧ Rr i n' p' ord' L' Γ') (fun _ _ => False) := ⟨_, rfl⟩
  rw [← hQ]
  refine g_aload_n dL_burst_0 rfl ?_
  refine g_iconst (v := nI 0) dL_burst_1 (by decide) ?_
  refine g_aload_n dL_burst_2 rfl ?_
  refine g_iload_n dL_burst_3 rfl ?_
  refine g_callV [_] dL_burst_4 mc_L_37 mi_X4_burst se_X4_burst (hc) ((w.k (c := 5) (i := 0) rfl)) rfl rfl (Nat.le_of_ble_eq_true rfl) (am_rm hR ⟨Nat.le_of_ble_eq_true rfl, Nat.le_of_ble_eq_true rfl, Nat.le_of_eq (Nat.zero_add _), Nat.le_of_eq (Nat.zero_add _)⟩) (fun _ _ z => z) (fun v hx hq hE => ?_)
  obtain ⟨i, n1, p1, ord1, L1, Γ1, rfl, hL, w1, hRr⟩ := hq
  rw [← hL]
  refine g_i2l dL_burst_7 rfl ?_
  refine w_last w1 dL_burst_8 (fun h2 w2 => ?_)
  refine g_goto 18 dL_burst_9 (by decide) ?_
  refine g_iconst (v := 0) dL_burst_18 (by decide) ?_
  rw [hQ]
  refine g_iret dL_burst_19 rfl rfl (by omega) (by omega) ?_
  exact ⟨i, n1, p1, ord1, L1, Γ1, rfl, w2, hRr⟩
theorem mcw_repair : am_mcW RL 97 yL_repair cL_repair 3 (some .int) [(0, 5, 8, 21), (0, 5, 11, 15)] 2 := ⟨am_ws (i := 845) (by decide +kernel) rfl, am_ws (i := 847) (by decide +kernel) rfl, am_ws (i := 36) (by decide +kernel) rfl, am_ws (i := 846) (by decide +kernel) rfl, by decide, rfl⟩
set_option maxRecDepth 100000 in
set_option maxHeartbeats 4000000 in
theorem cL_repair_IOB {l : Launch} (hlt : l.stackTraces = false) {N n p : Nat} {ord : List Nat} {L : Nat → Nat → Nat} {Γ : Nat → Nat → Nat → Int32} {o : Int64} {h : am_H} (w : WI N n p ord L Γ o h) {a : Int32} (hc : am_Con l yX4_repair (.code yX4_repair cX4_repair 3 none) 20 1 6 [.ref (L 5 0), .int a] h (fun _ _ => False) (fun E h' => E = "java/lang/IndexOutOfBoundsException" ∧ h' = h)) : am_Con l yL_repair (.codeWith yL_repair cL_repair 3 (some .int) [(0, 5, 8, 21), (0, 5, 11, 15)]) 21 1 6 [.ref (L 5 0), .int a] h (fun v h' => v = some (.int 1) ∧ h' = h) (fun _ _ => False) := by
  refine am_bodyH hlt (by decide +kernel) (Nat.le_of_ble_eq_true rfl) (fun k hl hR h0 htab => ?_)
  subst hl
  obtain ⟨Qf, hQ⟩ : ∃ Qf, Qf = am_Q k 1 6 (fun v h' => v = some (.int 1) ∧ h' = h) (fun _ _ => False) := ⟨_, rfl⟩
  rw [← hQ]
  refine g_aload_n dL_repair_0 rfl ?_
  refine g_iload_n dL_repair_1 rfl ?_
  refine g_callVX [_] dL_repair_2 mc_L_40 mi_X4_repair se_X4_repair hc (w.k (c := 5) (i := 0) rfl) rfl rfl (Nat.le_of_ble_eq_true rfl) (am_rm hR (by decide)) (fun _ _ z => z.elim) (fun E h' q hxx => ?_)
  obtain ⟨rfl, rfl⟩ := hxx
  have hps : ∀ z ∈ ([] : List ExceptionTableEntry), covers z 2 = false ∨ (z.catchType ≠ 0 ∧ ∃ nm : String, Cond.classLink RL z.catchType nm ∈ am_WS ∧ ∀ U, am_T U → va_Nc "java/lang/IndexOutOfBoundsException" nm U) := fun z hz => by cases hz
  refine ⟨8, ⟨[], ⟨0, 5, 8, 21⟩, [⟨0, 5, 11, 15⟩], htab, hps, by decide, by decide, rfl, kl_L_21, cx_IOB⟩, ?_⟩
  skip
  refine g_astore_n dL_repair_8 (by decide) rfl ?_
  refine g_iconst (v := 1) dL_repair_9 (by decide) ?_
  rw [hQ]
  refine g_iret dL_repair_10 rfl rfl (by decide) (by decide) ?_
  exact ⟨rfl, rfl⟩
set_option maxRecDepth 100000 in
set_option maxHeartbeats 4000000 in
theorem cL_repair_ISE {l : Launch} (hlt : l.stackTraces = false) {N n p : Nat} {ord : List Nat} {L : Nat → Nat → Nat} {Γ : Nat → Nat → Nat → Int32} {o : Int64} {h : am_H} (w : WI N n p ord L Γ o h) {a : Int32} (hc : am_Con l yX4_repair (.code yX4_repair cX4_repair 3 none) 20 1 6 [.ref (L 5 0), .int a] h (fun _ _ => False) (fun E h' => E = "java/lang/IllegalStateException" ∧ h' = h)) : am_Con l yL_repair (.codeWith yL_repair cL_repair 3 (some .int) [(0, 5, 8, 21), (0, 5, 11, 15)]) 21 1 6 [.ref (L 5 0), .int a] h (fun v h' => v = some (.int 2) ∧ h' = h) (fun _ _ => False) := by
  refine am_bodyH hlt (by decide +kernel) (Nat.le_of_ble_eq_true rfl) (fun k hl hR h0 htab => ?_)
  subst hl
  obtain ⟨Qf, hQ⟩ : ∃ Qf, Qf = am_Q k 1 6 (fun v h' => v = some (.int 2) ∧ h' = h) (fun _ _ => False) := ⟨_, rfl⟩
  rw [← hQ]
  refine g_aload_n dL_repair_0 rfl ?_
  refine g_iload_n dL_repair_1 rfl ?_
  refine g_callVX [_] dL_repair_2 mc_L_40 mi_X4_repair se_X4_repair hc (w.k (c := 5) (i := 0) rfl) rfl rfl (Nat.le_of_ble_eq_true rfl) (am_rm hR (by decide)) (fun _ _ z => z.elim) (fun E h' q hxx => ?_)
  obtain ⟨rfl, rfl⟩ := hxx
  have hps : ∀ z ∈ ([⟨0, 5, 8, 21⟩] : List ExceptionTableEntry), covers z 2 = false ∨ (z.catchType ≠ 0 ∧ ∃ nm : String, Cond.classLink RL z.catchType nm ∈ am_WS ∧ ∀ U, am_T U → va_Nc "java/lang/IllegalStateException" nm U) := fun z hz => by
    rcases List.mem_cons.mp hz with rfl | hz
    · exact Or.inr ⟨by decide, _, kl_L_21, fun U hU => hU.2.2.2.2.2.2.2.2.2.2⟩
    cases hz
  refine ⟨11, ⟨[⟨0, 5, 8, 21⟩], ⟨0, 5, 11, 15⟩, [], htab, hps, by decide, by decide, rfl, kl_L_15, cx_ISE⟩, ?_⟩
  skip
  refine g_astore_n dL_repair_11 (by decide) rfl ?_
  refine g_iconst (v := 2) dL_repair_12 (by decide) ?_
  rw [hQ]
  refine g_iret dL_repair_13 rfl rfl (by decide) (by decide) ?_
  exact ⟨rfl, rfl⟩
set_option maxRecDepth 100000 in
set_option maxHeartbeats 4000000 in
theorem cL_repair_0 {l : Launch} (hlt : l.stackTraces = false) {N n p : Nat} {ord : List Nat} {L : Nat → Nat → Nat} {Γ : Nat → Nat → Nat → Int32} {o : Int64} {h : am_H} (w : WI N n p ord L Γ o h) {a : Int32} {mc ms : Nat} {Rr : Int32 → Nat → Nat → List Nat → (Nat → Nat → Nat) → (Nat → Nat → Nat → Int32) → Prop} (hc : am_Con l yX4_repair (.code yX4_repair cX4_repair 3 none) 20 mc ms [.ref (L 5 0), .int a] h (fun v h' => ∃ (i : Int32) (n' p' : Nat) (ord' : List Nat) (L' : Nat → Nat → Nat) (Γ' : Nat → Nat → Nat → Int32), v = none ∧ L' 14 0 = L 14 0 ∧ WI N n' p' ord' L' Γ' o h' ∧ Rr i n' p' ord' L' Γ') (fun _ _ => False)) : am_Con l yL_repair (.codeWith yL_repair cL_repair 3 (some .int) [(0, 5, 8, 21), (0, 5, 11, 15)]) 21 mc ms [.ref (L 5 0), .int a] h (fun v h' => ∃ (i : Int32) (n' p' : Nat) (ord' : List Nat) (L' : Nat → Nat → Nat) (Γ' : Nat → Nat → Nat → Int32), v = some (.int 0) ∧ WI N n' p' ord' L' Γ' o h' ∧ Rr i n' p' ord' L' Γ') (fun _ _ => False) := by
  refine am_bodyH hlt (by decide +kernel) (Nat.le_of_ble_eq_true rfl) (fun k hl hR h0 htab => ?_)
  subst hl
  obtain ⟨Qf, hQ⟩ : ∃ Qf, Qf = am_Q k mc ms (fun v h' => ∃ (i : Int32) (n' p' : Nat) (ord' : List Nat) (L' : Nat → Nat → Nat) (Γ' : Nat → Nat → Nat → Int32), v = some (.int 0) ∧ WI N n' p' ord' L' Γ' o h' ∧ Rr i n' p' ord' L' Γ') (fun _ _ => False) := ⟨_, rfl⟩
  rw [← hQ]
  refine g_aload_n dL_repair_0 rfl ?_
  refine g_iload_n dL_repair_1 rfl ?_
  refine g_callV [_] dL_repair_2 mc_L_40 mi_X4_repair se_X4_repair (hc) ((w.k (c := 5) (i := 0) rfl)) rfl rfl (Nat.le_of_ble_eq_true rfl) (am_rm hR ⟨Nat.le_of_ble_eq_true rfl, Nat.le_of_ble_eq_true rfl, Nat.le_of_eq (Nat.zero_add _), Nat.le_of_eq (Nat.zero_add _)⟩) (fun _ _ z => z) (fun v hx hq hE => ?_)
  obtain ⟨i, n1, p1, ord1, L1, Γ1, rfl, hL, w1, hRr⟩ := hq
  refine g_goto 14 dL_repair_5 (by decide) ?_
  refine g_iconst (v := 0) dL_repair_14 (by decide) ?_
  rw [hQ]
  refine g_iret dL_repair_15 rfl rfl (by omega) (by omega) ?_
  exact ⟨i, n1, p1, ord1, L1, Γ1, rfl, w1, hRr⟩
theorem mcw_end : am_mcW RL 101 yL_end cL_end 3 (some .int) [(0, 8, 11, 15)] 2 := ⟨am_ws (i := 853) (by decide +kernel) rfl, am_ws (i := 855) (by decide +kernel) rfl, am_ws (i := 36) (by decide +kernel) rfl, am_ws (i := 854) (by decide +kernel) rfl, by decide, rfl⟩
set_option maxRecDepth 100000 in
set_option maxHeartbeats 4000000 in
theorem cL_end_ISE {l : Launch} (hlt : l.stackTraces = false) {N n p : Nat} {ord : List Nat} {L : Nat → Nat → Nat} {Γ : Nat → Nat → Nat → Int32} {o : Int64} {h : am_H} (w : WI N n p ord L Γ o h) (hc : am_Con l yX4_end (.code yX4_end cX4_end 4 (some .int)) 20 1 6 [.ref (L 5 0)] h (fun _ _ => False) (fun E h' => E = "java/lang/IllegalStateException" ∧ h' = h)) : am_Con l yL_end (.codeWith yL_end cL_end 3 (some .int) [(0, 8, 11, 15)]) 21 1 6 [.ref (L 5 0), .ref (L 14 0)] h (fun v h' => v = some (.int 1) ∧ h' = h) (fun _ _ => False) := by
  refine am_bodyH hlt (by decide +kernel) (Nat.le_of_ble_eq_true rfl) (fun k hl hR h0 htab => ?_)
  subst hl
  obtain ⟨Qf, hQ⟩ : ∃ Qf, Qf = am_Q k 1 6 (fun v h' => v = some (.int 1) ∧ h' = h) (fun _ _ => False) := ⟨_, rfl⟩
  rw [← hQ]
  refine g_aload_n dL_end_0 rfl ?_
  refine g_iconst (v := 0) dL_end_1 (by decide) ?_
  refine g_aload_n dL_end_2 rfl ?_
  refine g_callVX [] dL_end_3 mc_L_44 mi_X4_end se_X4_end hc (w.k (c := 5) (i := 0) rfl) rfl rfl (Nat.le_of_ble_eq_true rfl) (am_rm hR (by decide)) (fun _ _ z => z.elim) (fun E h' q hxx => ?_)
  obtain ⟨rfl, rfl⟩ := hxx
  have hps : ∀ z ∈ ([] : List ExceptionTableEntry), covers z 3 = false ∨ (z.catchType ≠ 0 ∧ ∃ nm : String, Cond.classLink RL z.catchType nm ∈ am_WS ∧ ∀ U, am_T U → va_Nc "java/lang/IllegalStateException" nm U) := fun z hz => by cases hz
  refine ⟨11, ⟨[], ⟨0, 8, 11, 15⟩, [], htab, hps, by decide, by decide, rfl, kl_L_15, cx_ISE⟩, ?_⟩
  skip
  refine g_astore_n dL_end_11 (by decide) rfl ?_
  refine g_iconst (v := 1) dL_end_12 (by decide) ?_
  rw [hQ]
  refine g_iret dL_end_13 rfl rfl (by decide) (by decide) ?_
  exact ⟨rfl, rfl⟩
set_option maxRecDepth 100000 in
set_option maxHeartbeats 4000000 in
theorem cL_end_0 {l : Launch} (hlt : l.stackTraces = false) {N n p : Nat} {ord : List Nat} {L : Nat → Nat → Nat} {Γ : Nat → Nat → Nat → Int32} {o : Int64} {h : am_H} (w : WI N n p ord L Γ o h) {mc ms : Nat} {Rr : Int32 → Nat → Nat → List Nat → (Nat → Nat → Nat) → (Nat → Nat → Nat → Int32) → Prop} (hc : am_Con l yX4_end (.code yX4_end cX4_end 4 (some .int)) 20 mc ms [.ref (L 5 0)] h (fun v h' => ∃ (i : Int32) (n' p' : Nat) (ord' : List Nat) (L' : Nat → Nat → Nat) (Γ' : Nat → Nat → Nat → Int32), v = some (.int i) ∧ L' 14 0 = L 14 0 ∧ WI N n' p' ord' L' Γ' o h' ∧ Rr i n' p' ord' L' Γ') (fun _ _ => False)) : am_Con l yL_end (.codeWith yL_end cL_end 3 (some .int) [(0, 8, 11, 15)]) 21 mc ms [.ref (L 5 0), .ref (L 14 0)] h (fun v h' => ∃ (i : Int32) (n' p' : Nat) (ord' : List Nat) (L' : Nat → Nat → Nat) (Γ' : Nat → Nat → Nat → Int32), v = some (.int 0) ∧ WI N n' p' ord' L' Γ' i.toInt64 h' ∧ Rr i n' p' ord' L' Γ') (fun _ _ => False) := by
  refine am_bodyH hlt (by decide +kernel) (Nat.le_of_ble_eq_true rfl) (fun k hl hR h0 htab => ?_)
  subst hl
  obtain ⟨Qf, hQ⟩ : ∃ Qf, Qf = am_Q k mc ms (fun v h' => ∃ (i : Int32) (n' p' : Nat) (ord' : List Nat) (L' : Nat → Nat → Nat) (Γ' : Nat → Nat → Nat → Int32), v = some (.int 0) ∧ WI N n' p' ord' L' Γ' i.toInt64 h' ∧ Rr i n' p' ord' L' Γ') (fun _ _ => False) := ⟨_, rfl⟩
  rw [← hQ]
  refine g_aload_n dL_end_0 rfl ?_
  refine g_iconst (v := nI 0) dL_end_1 (by decide) ?_
  refine g_aload_n dL_end_2 rfl ?_
  refine g_callV [] dL_end_3 mc_L_44 mi_X4_end se_X4_end (hc) ((w.k (c := 5) (i := 0) rfl)) rfl rfl (Nat.le_of_ble_eq_true rfl) (am_rm hR ⟨Nat.le_of_ble_eq_true rfl, Nat.le_of_ble_eq_true rfl, Nat.le_of_eq (Nat.zero_add _), Nat.le_of_eq (Nat.zero_add _)⟩) (fun _ _ z => z) (fun v hx hq hE => ?_)
  obtain ⟨i, n1, p1, ord1, L1, Γ1, rfl, hL, w1, hRr⟩ := hq
  rw [← hL]
  refine g_i2l dL_end_6 rfl ?_
  refine w_last w1 dL_end_7 (fun h2 w2 => ?_)
  refine g_goto 14 dL_end_8 (by decide) ?_
  refine g_iconst (v := 0) dL_end_14 (by decide) ?_
  rw [hQ]
  refine g_iret dL_end_15 rfl rfl (by omega) (by omega) ?_
  exact ⟨i, n1, p1, ord1, L1, Γ1, rfl, w2, hRr⟩
theorem mcw_ofDistrict : am_mcW RL 112 yL_ofDistrict cL_ofDistrict 5 (some .int) [(0, 10, 13, 21)] 4 := ⟨am_ws (i := 874) (by decide +kernel) rfl, am_ws (i := 876) (by decide +kernel) rfl, am_ws (i := 36) (by decide +kernel) rfl, am_ws (i := 875) (by decide +kernel) rfl, by decide, rfl⟩
set_option maxRecDepth 100000 in
set_option maxHeartbeats 4000000 in
theorem cL_ofDistrict_IOB {l : Launch} (hlt : l.stackTraces = false) {N n p : Nat} {ord : List Nat} {L : Nat → Nat → Nat} {Γ : Nat → Nat → Nat → Int32} {o : Int64} {h : am_H} (w : WI N n p ord L Γ o h) {a b : Int32} (hc : am_Con l yX4_ofDistrict (.code yX4_ofDistrict cX4_ofDistrict 4 (some .int)) 20 1 6 [.ref (L 5 0), .int a, .int b] h (fun _ _ => False) (fun E h' => E = "java/lang/IndexOutOfBoundsException" ∧ h' = h)) : am_Con l yL_ofDistrict (.codeWith yL_ofDistrict cL_ofDistrict 5 (some .int) [(0, 10, 13, 21)]) 21 1 6 [.ref (L 5 0), .int a, .int b, .ref (L 14 0)] h (fun v h' => v = some (.int 1) ∧ h' = h) (fun _ _ => False) := by
  refine am_bodyH hlt (by decide +kernel) (Nat.le_of_ble_eq_true rfl) (fun k hl hR h0 htab => ?_)
  subst hl
  obtain ⟨Qf, hQ⟩ : ∃ Qf, Qf = am_Q k 1 6 (fun v h' => v = some (.int 1) ∧ h' = h) (fun _ _ => False) := ⟨_, rfl⟩
  rw [← hQ]
  refine g_aload_n dL_ofDistrict_0 rfl ?_
  refine g_iconst (v := 0) dL_ofDistrict_1 (by decide) ?_
  refine g_aload_n dL_ofDistrict_2 rfl ?_
  refine g_iload_n dL_ofDistrict_3 rfl ?_
  refine g_iload_n dL_ofDistrict_4 rfl ?_
  refine g_callVX [_, _] dL_ofDistrict_5 mc_L_48 mi_X4_ofDistrict se_X4_ofDistrict hc (w.k (c := 5) (i := 0) rfl) rfl rfl (Nat.le_of_ble_eq_true rfl) (am_rm hR (by decide)) (fun _ _ z => z.elim) (fun E h' q hxx => ?_)
  obtain ⟨rfl, rfl⟩ := hxx
  have hps : ∀ z ∈ ([] : List ExceptionTableEntry), covers z 5 = false ∨ (z.catchType ≠ 0 ∧ ∃ nm : String, Cond.classLink RL z.catchType nm ∈ am_WS ∧ ∀ U, am_T U → va_Nc "java/lang/IndexOutOfBoundsException" nm U) := fun z hz => by cases hz
  refine ⟨13, ⟨[], ⟨0, 10, 13, 21⟩, [], htab, hps, by decide, by decide, rfl, kl_L_21, cx_IOB⟩, ?_⟩
  skip
  refine g_astore dL_ofDistrict_13 (by decide) rfl ?_
  refine g_iconst (v := 1) dL_ofDistrict_15 (by decide) ?_
  rw [hQ]
  refine g_iret dL_ofDistrict_16 rfl rfl (by decide) (by decide) ?_
  exact ⟨rfl, rfl⟩
set_option maxRecDepth 100000 in
set_option maxHeartbeats 4000000 in
theorem cL_ofDistrict_0 {l : Launch} (hlt : l.stackTraces = false) {N n p : Nat} {ord : List Nat} {L : Nat → Nat → Nat} {Γ : Nat → Nat → Nat → Int32} {o : Int64} {h : am_H} (w : WI N n p ord L Γ o h) {a b : Int32} {mc ms : Nat} {Rr : Int32 → Nat → Nat → List Nat → (Nat → Nat → Nat) → (Nat → Nat → Nat → Int32) → Prop} (hc : am_Con l yX4_ofDistrict (.code yX4_ofDistrict cX4_ofDistrict 4 (some .int)) 20 mc ms [.ref (L 5 0), .int a, .int b] h (fun v h' => ∃ (i : Int32) (n' p' : Nat) (ord' : List Nat) (L' : Nat → Nat → Nat) (Γ' : Nat → Nat → Nat → Int32), v = some (.int i) ∧ L' 14 0 = L 14 0 ∧ WI N n' p' ord' L' Γ' o h' ∧ Rr i n' p' ord' L' Γ') (fun _ _ => False)) : am_Con l yL_ofDistrict (.codeWith yL_ofDistrict cL_ofDistrict 5 (some .int) [(0, 10, 13, 21)]) 21 mc ms [.ref (L 5 0), .int a, .int b, .ref (L 14 0)] h (fun v h' => ∃ (i : Int32) (n' p' : Nat) (ord' : List Nat) (L' : Nat → Nat → Nat) (Γ' : Nat → Nat → Nat → Int32), v = some (.int 0) ∧ WI N n' p' ord' L' Γ' i.toInt64 h' ∧ Rr i n' p' ord' L' Γ') (fun _ _ => False) := by
  refine am_bodyH hlt (by decide +kernel) (Nat.le_of_ble_eq_true rfl) (fun k hl hR h0 htab => ?_)
  subst hl
  obtain ⟨Qf, hQ⟩ : ∃ Qf, Qf = am_Q k mc ms (fun v h' => ∃ (i : Int32) (n' p' : Nat) (ord' : List Nat) (L' : Nat → Nat → Nat) (Γ' : Nat → Nat → Nat → Int32), v = some (.int 0) ∧ WI N n' p' ord' L' Γ' i.toInt64 h' ∧ Rr i n' p' ord' L' Γ') (fun _ _ => False) := ⟨_, rfl⟩
  rw [← hQ]
  refine g_aload_n dL_ofDistrict_0 rfl ?_
  refine g_iconst (v := nI 0) dL_ofDistrict_1 (by decide) ?_
  refine g_aload_n dL_ofDistrict_2 rfl ?_
  refine g_iload_n dL_ofDistrict_3 rfl ?_
  refine g_iload_n dL_ofDistrict_4 rfl ?_
  refine g_callV [_, _] dL_ofDistrict_5 mc_L_48 mi_X4_ofDistrict se_X4_ofDistrict (hc) ((w.k (c := 5) (i := 0) rfl)) rfl rfl (Nat.le_of_ble_eq_true rfl) (am_rm hR ⟨Nat.le_of_ble_eq_true rfl, Nat.le_of_ble_eq_true rfl, Nat.le_of_eq (Nat.zero_add _), Nat.le_of_eq (Nat.zero_add _)⟩) (fun _ _ z => z) (fun v hx hq hE => ?_)
  obtain ⟨i, n1, p1, ord1, L1, Γ1, rfl, hL, w1, hRr⟩ := hq
  rw [← hL]
  refine g_i2l dL_ofDistrict_8 rfl ?_
  refine w_last w1 dL_ofDistrict_9 (fun h2 w2 => ?_)
  refine g_goto 17 dL_ofDistrict_10 (by decide) ?_
  refine g_iconst (v := 0) dL_ofDistrict_17 (by decide) ?_
  rw [hQ]
  refine g_iret dL_ofDistrict_18 rfl rfl (by omega) (by omega) ?_
  exact ⟨i, n1, p1, ord1, L1, Γ1, rfl, w2, hRr⟩
theorem mcw_flowAnew : am_mcW RL 115 yL_flowAnew cL_flowAnew 4 (some .int) [(0, 9, 12, 21)] 3 := ⟨am_ws (i := 882) (by decide +kernel) rfl, am_ws (i := 884) (by decide +kernel) rfl, am_ws (i := 36) (by decide +kernel) rfl, am_ws (i := 883) (by decide +kernel) rfl, by decide, rfl⟩
set_option maxRecDepth 100000 in
set_option maxHeartbeats 4000000 in
theorem cL_flowAnew_IOB {l : Launch} (hlt : l.stackTraces = false) {N n p : Nat} {ord : List Nat} {L : Nat → Nat → Nat} {Γ : Nat → Nat → Nat → Int32} {o : Int64} {h : am_H} (w : WI N n p ord L Γ o h) {a : Int32} (hc : am_Con l yX4_flowAnew (.code yX4_flowAnew cX4_flowAnew 4 (some .int)) 20 1 6 [.ref (L 5 0), .int a] h (fun _ _ => False) (fun E h' => E = "java/lang/IndexOutOfBoundsException" ∧ h' = h)) : am_Con l yL_flowAnew (.codeWith yL_flowAnew cL_flowAnew 4 (some .int) [(0, 9, 12, 21)]) 21 1 6 [.ref (L 5 0), .int a, .ref (L 14 0)] h (fun v h' => v = some (.int 1) ∧ h' = h) (fun _ _ => False) := by
  refine am_bodyH hlt (by decide +kernel) (Nat.le_of_ble_eq_true rfl) (fun k hl hR h0 htab => ?_)
  subst hl
  obtain ⟨Qf, hQ⟩ : ∃ Qf, Qf = am_Q k 1 6 (fun v h' => v = some (.int 1) ∧ h' = h) (fun _ _ => False) := ⟨_, rfl⟩
  rw [← hQ]
  refine g_aload_n dL_flowAnew_0 rfl ?_
  refine g_iconst (v := 0) dL_flowAnew_1 (by decide) ?_
  refine g_aload_n dL_flowAnew_2 rfl ?_
  refine g_iload_n dL_flowAnew_3 rfl ?_
  refine g_callVX [_] dL_flowAnew_4 mc_L_51 mi_X4_flowAnew se_X4_flowAnew hc (w.k (c := 5) (i := 0) rfl) rfl rfl (Nat.le_of_ble_eq_true rfl) (am_rm hR (by decide)) (fun _ _ z => z.elim) (fun E h' q hxx => ?_)
  obtain ⟨rfl, rfl⟩ := hxx
  have hps : ∀ z ∈ ([] : List ExceptionTableEntry), covers z 4 = false ∨ (z.catchType ≠ 0 ∧ ∃ nm : String, Cond.classLink RL z.catchType nm ∈ am_WS ∧ ∀ U, am_T U → va_Nc "java/lang/IndexOutOfBoundsException" nm U) := fun z hz => by cases hz
  refine ⟨12, ⟨[], ⟨0, 9, 12, 21⟩, [], htab, hps, by decide, by decide, rfl, kl_L_21, cx_IOB⟩, ?_⟩
  skip
  refine g_astore_n dL_flowAnew_12 (by decide) rfl ?_
  refine g_iconst (v := 1) dL_flowAnew_13 (by decide) ?_
  rw [hQ]
  refine g_iret dL_flowAnew_14 rfl rfl (by decide) (by decide) ?_
  exact ⟨rfl, rfl⟩
set_option maxRecDepth 100000 in
set_option maxHeartbeats 4000000 in
theorem cL_flowAnew_0 {l : Launch} (hlt : l.stackTraces = false) {N n p : Nat} {ord : List Nat} {L : Nat → Nat → Nat} {Γ : Nat → Nat → Nat → Int32} {o : Int64} {h : am_H} (w : WI N n p ord L Γ o h) {a : Int32} {mc ms : Nat} {Rr : Int32 → Nat → Nat → List Nat → (Nat → Nat → Nat) → (Nat → Nat → Nat → Int32) → Prop} (hc : am_Con l yX4_flowAnew (.code yX4_flowAnew cX4_flowAnew 4 (some .int)) 20 mc ms [.ref (L 5 0), .int a] h (fun v h' => ∃ (i : Int32) (n' p' : Nat) (ord' : List Nat) (L' : Nat → Nat → Nat) (Γ' : Nat → Nat → Nat → Int32), v = some (.int i) ∧ L' 14 0 = L 14 0 ∧ WI N n' p' ord' L' Γ' o h' ∧ Rr i n' p' ord' L' Γ') (fun _ _ => False)) : am_Con l yL_flowAnew (.codeWith yL_flowAnew cL_flowAnew 4 (some .int) [(0, 9, 12, 21)]) 21 mc ms [.ref (L 5 0), .int a, .ref (L 14 0)] h (fun v h' => ∃ (i : Int32) (n' p' : Nat) (ord' : List Nat) (L' : Nat → Nat → Nat) (Γ' : Nat → Nat → Nat → Int32), v = some (.int 0) ∧ WI N n' p' ord' L' Γ' i.toInt64 h' ∧ Rr i n' p' ord' L' Γ') (fun _ _ => False) := by
  refine am_bodyH hlt (by decide +kernel) (Nat.le_of_ble_eq_true rfl) (fun k hl hR h0 htab => ?_)
  subst hl
  obtain ⟨Qf, hQ⟩ : ∃ Qf, Qf = am_Q k mc ms (fun v h' => ∃ (i : Int32) (n' p' : Nat) (ord' : List Nat) (L' : Nat → Nat → Nat) (Γ' : Nat → Nat → Nat → Int32), v = some (.int 0) ∧ WI N n' p' ord' L' Γ' i.toInt64 h' ∧ Rr i n' p' ord' L' Γ') (fun _ _ => False) := ⟨_, rfl⟩
  rw [← hQ]
  refine g_aload_n dL_flowAnew_0 rfl ?_
  refine g_iconst (v := nI 0) dL_flowAnew_1 (by decide) ?_
  refine g_aload_n dL_flowAnew_2 rfl ?_
  refine g_iload_n dL_flowAnew_3 rfl ?_
  refine g_callV [_] dL_flowAnew_4 mc_L_51 mi_X4_flowAnew se_X4_flowAnew (hc) ((w.k (c := 5) (i := 0) rfl)) rfl rfl (Nat.le_of_ble_eq_true rfl) (am_rm hR ⟨Nat.le_of_ble_eq_true rfl, Nat.le_of_ble_eq_true rfl, Nat.le_of_eq (Nat.zero_add _), Nat.le_of_eq (Nat.zero_add _)⟩) (fun _ _ z => z) (fun v hx hq hE => ?_)
  obtain ⟨i, n1, p1, ord1, L1, Γ1, rfl, hL, w1, hRr⟩ := hq
  rw [← hL]
  refine g_i2l dL_flowAnew_7 rfl ?_
  refine w_last w1 dL_flowAnew_8 (fun h2 w2 => ?_)
  refine g_goto 15 dL_flowAnew_9 (by decide) ?_
  refine g_iconst (v := 0) dL_flowAnew_15 (by decide) ?_
  rw [hQ]
  refine g_iret dL_flowAnew_16 rfl rfl (by omega) (by omega) ?_
  exact ⟨i, n1, p1, ord1, L1, Γ1, rfl, w2, hRr⟩
theorem mcw_most : am_mcW RL 118 yL_most cL_most 4 (some .int) [(0, 9, 12, 13)] 3 := ⟨am_ws (i := 893) (by decide +kernel) rfl, am_ws (i := 895) (by decide +kernel) rfl, am_ws (i := 36) (by decide +kernel) rfl, am_ws (i := 894) (by decide +kernel) rfl, by decide, rfl⟩
set_option maxRecDepth 100000 in
set_option maxHeartbeats 4000000 in
theorem cL_most_IAE {l : Launch} (hlt : l.stackTraces = false) {N n p : Nat} {ord : List Nat} {L : Nat → Nat → Nat} {Γ : Nat → Nat → Nat → Int32} {o : Int64} {h : am_H} (w : WI N n p ord L Γ o h) {a : Int32} (hc : am_Con l yX4_most (.code yX4_most cX4_most 4 (some .int)) 20 1 6 [.ref (L 5 0), .int a] h (fun _ _ => False) (fun E h' => E = "java/lang/IllegalArgumentException" ∧ h' = h)) : am_Con l yL_most (.codeWith yL_most cL_most 4 (some .int) [(0, 9, 12, 13)]) 21 1 6 [.ref (L 5 0), .int a, .ref (L 14 0)] h (fun v h' => v = some (.int 1) ∧ h' = h) (fun _ _ => False) := by
  refine am_bodyH hlt (by decide +kernel) (Nat.le_of_ble_eq_true rfl) (fun k hl hR h0 htab => ?_)
  subst hl
  obtain ⟨Qf, hQ⟩ : ∃ Qf, Qf = am_Q k 1 6 (fun v h' => v = some (.int 1) ∧ h' = h) (fun _ _ => False) := ⟨_, rfl⟩
  rw [← hQ]
  refine g_aload_n dL_most_0 rfl ?_
  refine g_iconst (v := 0) dL_most_1 (by decide) ?_
  refine g_aload_n dL_most_2 rfl ?_
  refine g_iload_n dL_most_3 rfl ?_
  refine g_callVX [_] dL_most_4 mc_L_54 mi_X4_most se_X4_most hc (w.k (c := 5) (i := 0) rfl) rfl rfl (Nat.le_of_ble_eq_true rfl) (am_rm hR (by decide)) (fun _ _ z => z.elim) (fun E h' q hxx => ?_)
  obtain ⟨rfl, rfl⟩ := hxx
  have hps : ∀ z ∈ ([] : List ExceptionTableEntry), covers z 4 = false ∨ (z.catchType ≠ 0 ∧ ∃ nm : String, Cond.classLink RL z.catchType nm ∈ am_WS ∧ ∀ U, am_T U → va_Nc "java/lang/IllegalArgumentException" nm U) := fun z hz => by cases hz
  refine ⟨12, ⟨[], ⟨0, 9, 12, 13⟩, [], htab, hps, by decide, by decide, rfl, kl_L_13, cx_IAE⟩, ?_⟩
  skip
  refine g_astore_n dL_most_12 (by decide) rfl ?_
  refine g_iconst (v := 1) dL_most_13 (by decide) ?_
  rw [hQ]
  refine g_iret dL_most_14 rfl rfl (by decide) (by decide) ?_
  exact ⟨rfl, rfl⟩
set_option maxRecDepth 100000 in
set_option maxHeartbeats 4000000 in
theorem cL_most_0 {l : Launch} (hlt : l.stackTraces = false) {N n p : Nat} {ord : List Nat} {L : Nat → Nat → Nat} {Γ : Nat → Nat → Nat → Int32} {o : Int64} {h : am_H} (w : WI N n p ord L Γ o h) {a : Int32} {mc ms : Nat} {Rr : Int32 → Nat → Nat → List Nat → (Nat → Nat → Nat) → (Nat → Nat → Nat → Int32) → Prop} (hc : am_Con l yX4_most (.code yX4_most cX4_most 4 (some .int)) 20 mc ms [.ref (L 5 0), .int a] h (fun v h' => ∃ (i : Int32) (n' p' : Nat) (ord' : List Nat) (L' : Nat → Nat → Nat) (Γ' : Nat → Nat → Nat → Int32), v = some (.int i) ∧ L' 14 0 = L 14 0 ∧ WI N n' p' ord' L' Γ' o h' ∧ Rr i n' p' ord' L' Γ') (fun _ _ => False)) : am_Con l yL_most (.codeWith yL_most cL_most 4 (some .int) [(0, 9, 12, 13)]) 21 mc ms [.ref (L 5 0), .int a, .ref (L 14 0)] h (fun v h' => ∃ (i : Int32) (n' p' : Nat) (ord' : List Nat) (L' : Nat → Nat → Nat) (Γ' : Nat → Nat → Nat → Int32), v = some (.int 0) ∧ WI N n' p' ord' L' Γ' i.toInt64 h' ∧ Rr i n' p' ord' L' Γ') (fun _ _ => False) := by
  refine am_bodyH hlt (by decide +kernel) (Nat.le_of_ble_eq_true rfl) (fun k hl hR h0 htab => ?_)
  subst hl
  obtain ⟨Qf, hQ⟩ : ∃ Qf, Qf = am_Q k mc ms (fun v h' => ∃ (i : Int32) (n' p' : Nat) (ord' : List Nat) (L' : Nat → Nat → Nat) (Γ' : Nat → Nat → Nat → Int32), v = some (.int 0) ∧ WI N n' p' ord' L' Γ' i.toInt64 h' ∧ Rr i n' p' ord' L' Γ') (fun _ _ => False) := ⟨_, rfl⟩
  rw [← hQ]
  refine g_aload_n dL_most_0 rfl ?_
  refine g_iconst (v := nI 0) dL_most_1 (by decide) ?_
  refine g_aload_n dL_most_2 rfl ?_
  refine g_iload_n dL_most_3 rfl ?_
  refine g_callV [_] dL_most_4 mc_L_54 mi_X4_most se_X4_most (hc) ((w.k (c := 5) (i := 0) rfl)) rfl rfl (Nat.le_of_ble_eq_true rfl) (am_rm hR ⟨Nat.le_of_ble_eq_true rfl, Nat.le_of_ble_eq_true rfl, Nat.le_of_eq (Nat.zero_add _), Nat.le_of_eq (Nat.zero_add _)⟩) (fun _ _ z => z) (fun v hx hq hE => ?_)
  obtain ⟨i, n1, p1, ord1, L1, Γ1, rfl, hL, w1, hRr⟩ := hq
  rw [← hL]
  refine g_i2l dL_most_7 rfl ?_
  refine w_last w1 dL_most_8 (fun h2 w2 => ?_)
  refine g_goto 15 dL_most_9 (by decide) ?_
  refine g_iconst (v := 0) dL_most_15 (by decide) ?_
  rw [hQ]
  refine g_iret dL_most_16 rfl rfl (by omega) (by omega) ?_
  exact ⟨i, n1, p1, ord1, L1, Γ1, rfl, w2, hRr⟩
theorem mcw_place : am_mcW RL 121 yL_place cL_place 4 (some .int) [(0, 9, 12, 21)] 3 := ⟨am_ws (i := 901) (by decide +kernel) rfl, am_ws (i := 903) (by decide +kernel) rfl, am_ws (i := 36) (by decide +kernel) rfl, am_ws (i := 902) (by decide +kernel) rfl, by decide, rfl⟩
set_option maxRecDepth 100000 in
set_option maxHeartbeats 4000000 in
theorem cL_place_IOB {l : Launch} (hlt : l.stackTraces = false) {N n p : Nat} {ord : List Nat} {L : Nat → Nat → Nat} {Γ : Nat → Nat → Nat → Int32} {o : Int64} {h : am_H} (w : WI N n p ord L Γ o h) {a : Int32} (hc : am_Con l yX4_place (.code yX4_place cX4_place 3 (some .int)) 20 1 6 [.ref (L 5 0), .int a] h (fun _ _ => False) (fun E h' => E = "java/lang/IndexOutOfBoundsException" ∧ h' = h)) : am_Con l yL_place (.codeWith yL_place cL_place 4 (some .int) [(0, 9, 12, 21)]) 21 1 6 [.ref (L 5 0), .int a, .ref (L 14 0)] h (fun v h' => v = some (.int 1) ∧ h' = h) (fun _ _ => False) := by
  refine am_bodyH hlt (by decide +kernel) (Nat.le_of_ble_eq_true rfl) (fun k hl hR h0 htab => ?_)
  subst hl
  obtain ⟨Qf, hQ⟩ : ∃ Qf, Qf = am_Q k 1 6 (fun v h' => v = some (.int 1) ∧ h' = h) (fun _ _ => False) := ⟨_, rfl⟩
  rw [← hQ]
  refine g_aload_n dL_place_0 rfl ?_
  refine g_iconst (v := 0) dL_place_1 (by decide) ?_
  refine g_aload_n dL_place_2 rfl ?_
  refine g_iload_n dL_place_3 rfl ?_
  refine g_callVX [_] dL_place_4 mc_L_57 mi_X4_place se_X4_place hc (w.k (c := 5) (i := 0) rfl) rfl rfl (Nat.le_of_ble_eq_true rfl) (am_rm hR (by decide)) (fun _ _ z => z.elim) (fun E h' q hxx => ?_)
  obtain ⟨rfl, rfl⟩ := hxx
  have hps : ∀ z ∈ ([] : List ExceptionTableEntry), covers z 4 = false ∨ (z.catchType ≠ 0 ∧ ∃ nm : String, Cond.classLink RL z.catchType nm ∈ am_WS ∧ ∀ U, am_T U → va_Nc "java/lang/IndexOutOfBoundsException" nm U) := fun z hz => by cases hz
  refine ⟨12, ⟨[], ⟨0, 9, 12, 21⟩, [], htab, hps, by decide, by decide, rfl, kl_L_21, cx_IOB⟩, ?_⟩
  skip
  refine g_astore_n dL_place_12 (by decide) rfl ?_
  refine g_iconst (v := 1) dL_place_13 (by decide) ?_
  rw [hQ]
  refine g_iret dL_place_14 rfl rfl (by decide) (by decide) ?_
  exact ⟨rfl, rfl⟩
set_option maxRecDepth 100000 in
set_option maxHeartbeats 4000000 in
theorem cL_place_0 {l : Launch} (hlt : l.stackTraces = false) {N n p : Nat} {ord : List Nat} {L : Nat → Nat → Nat} {Γ : Nat → Nat → Nat → Int32} {o : Int64} {h : am_H} (w : WI N n p ord L Γ o h) {a : Int32} {mc ms : Nat} {Rr : Int32 → Nat → Nat → List Nat → (Nat → Nat → Nat) → (Nat → Nat → Nat → Int32) → Prop} (hc : am_Con l yX4_place (.code yX4_place cX4_place 3 (some .int)) 20 mc ms [.ref (L 5 0), .int a] h (fun v h' => ∃ (i : Int32) (n' p' : Nat) (ord' : List Nat) (L' : Nat → Nat → Nat) (Γ' : Nat → Nat → Nat → Int32), v = some (.int i) ∧ L' 14 0 = L 14 0 ∧ WI N n' p' ord' L' Γ' o h' ∧ Rr i n' p' ord' L' Γ') (fun _ _ => False)) : am_Con l yL_place (.codeWith yL_place cL_place 4 (some .int) [(0, 9, 12, 21)]) 21 mc ms [.ref (L 5 0), .int a, .ref (L 14 0)] h (fun v h' => ∃ (i : Int32) (n' p' : Nat) (ord' : List Nat) (L' : Nat → Nat → Nat) (Γ' : Nat → Nat → Nat → Int32), v = some (.int 0) ∧ WI N n' p' ord' L' Γ' i.toInt64 h' ∧ Rr i n' p' ord' L' Γ') (fun _ _ => False) := by
  refine am_bodyH hlt (by decide +kernel) (Nat.le_of_ble_eq_true rfl) (fun k hl hR h0 htab => ?_)
  subst hl
  obtain ⟨Qf, hQ⟩ : ∃ Qf, Qf = am_Q k mc ms (fun v h' => ∃ (i : Int32) (n' p' : Nat) (ord' : List Nat) (L' : Nat → Nat → Nat) (Γ' : Nat → Nat → Nat → Int32), v = some (.int 0) ∧ WI N n' p' ord' L' Γ' i.toInt64 h' ∧ Rr i n' p' ord' L' Γ') (fun _ _ => False) := ⟨_, rfl⟩
  rw [← hQ]
  refine g_aload_n dL_place_0 rfl ?_
  refine g_iconst (v := nI 0) dL_place_1 (by decide) ?_
  refine g_aload_n dL_place_2 rfl ?_
  refine g_iload_n dL_place_3 rfl ?_
  refine g_callV [_] dL_place_4 mc_L_57 mi_X4_place se_X4_place (hc) ((w.k (c := 5) (i := 0) rfl)) rfl rfl (Nat.le_of_ble_eq_true rfl) (am_rm hR ⟨Nat.le_of_ble_eq_true rfl, Nat.le_of_ble_eq_true rfl, Nat.le_of_eq (Nat.zero_add _), Nat.le_of_eq (Nat.zero_add _)⟩) (fun _ _ z => z) (fun v hx hq hE => ?_)
  obtain ⟨i, n1, p1, ord1, L1, Γ1, rfl, hL, w1, hRr⟩ := hq
  rw [← hL]
  refine g_i2l dL_place_7 rfl ?_
  refine w_last w1 dL_place_8 (fun h2 w2 => ?_)
  refine g_goto 15 dL_place_9 (by decide) ?_
  refine g_iconst (v := 0) dL_place_15 (by decide) ?_
  rw [hQ]
  refine g_iret dL_place_16 rfl rfl (by omega) (by omega) ?_
  exact ⟨i, n1, p1, ord1, L1, Γ1, rfl, w2, hRr⟩
theorem mcw_count : am_mcW RL 124 yL_count cL_count 4 (some .int) [(0, 9, 12, 13)] 3 := ⟨am_ws (i := 908) (by decide +kernel) rfl, am_ws (i := 910) (by decide +kernel) rfl, am_ws (i := 36) (by decide +kernel) rfl, am_ws (i := 909) (by decide +kernel) rfl, by decide, rfl⟩
set_option maxRecDepth 100000 in
set_option maxHeartbeats 4000000 in
theorem cL_count_IAE {l : Launch} (hlt : l.stackTraces = false) {N n p : Nat} {ord : List Nat} {L : Nat → Nat → Nat} {Γ : Nat → Nat → Nat → Int32} {o : Int64} {h : am_H} (w : WI N n p ord L Γ o h) {a : Int32} (hc : am_Con l yX4_count (.code yX4_count cX4_count 2 (some .int)) 20 1 6 [.ref (L 5 0), .int a] h (fun _ _ => False) (fun E h' => E = "java/lang/IllegalArgumentException" ∧ h' = h)) : am_Con l yL_count (.codeWith yL_count cL_count 4 (some .int) [(0, 9, 12, 13)]) 21 1 6 [.ref (L 5 0), .int a, .ref (L 14 0)] h (fun v h' => v = some (.int 1) ∧ h' = h) (fun _ _ => False) := by
  refine am_bodyH hlt (by decide +kernel) (Nat.le_of_ble_eq_true rfl) (fun k hl hR h0 htab => ?_)
  subst hl
  obtain ⟨Qf, hQ⟩ : ∃ Qf, Qf = am_Q k 1 6 (fun v h' => v = some (.int 1) ∧ h' = h) (fun _ _ => False) := ⟨_, rfl⟩
  rw [← hQ]
  refine g_aload_n dL_count_0 rfl ?_
  refine g_iconst (v := 0) dL_count_1 (by decide) ?_
  refine g_aload_n dL_count_2 rfl ?_
  refine g_iload_n dL_count_3 rfl ?_
  refine g_callVX [_] dL_count_4 mc_L_60 mi_X4_count se_X4_count hc (w.k (c := 5) (i := 0) rfl) rfl rfl (Nat.le_of_ble_eq_true rfl) (am_rm hR (by decide)) (fun _ _ z => z.elim) (fun E h' q hxx => ?_)
  obtain ⟨rfl, rfl⟩ := hxx
  have hps : ∀ z ∈ ([] : List ExceptionTableEntry), covers z 4 = false ∨ (z.catchType ≠ 0 ∧ ∃ nm : String, Cond.classLink RL z.catchType nm ∈ am_WS ∧ ∀ U, am_T U → va_Nc "java/lang/IllegalArgumentException" nm U) := fun z hz => by cases hz
  refine ⟨12, ⟨[], ⟨0, 9, 12, 13⟩, [], htab, hps, by decide, by decide, rfl, kl_L_13, cx_IAE⟩, ?_⟩
  skip
  refine g_astore_n dL_count_12 (by decide) rfl ?_
  refine g_iconst (v := 1) dL_count_13 (by decide) ?_
  rw [hQ]
  refine g_iret dL_count_14 rfl rfl (by decide) (by decide) ?_
  exact ⟨rfl, rfl⟩
set_option maxRecDepth 100000 in
set_option maxHeartbeats 4000000 in
theorem cL_count_0 {l : Launch} (hlt : l.stackTraces = false) {N n p : Nat} {ord : List Nat} {L : Nat → Nat → Nat} {Γ : Nat → Nat → Nat → Int32} {o : Int64} {h : am_H} (w : WI N n p ord L Γ o h) {a : Int32} {mc ms : Nat} {Rr : Int32 → Nat → Nat → List Nat → (Nat → Nat → Nat) → (Nat → Nat → Nat → Int32) → Prop} (hc : am_Con l yX4_count (.code yX4_count cX4_count 2 (some .int)) 20 mc ms [.ref (L 5 0), .int a] h (fun v h' => ∃ (i : Int32) (n' p' : Nat) (ord' : List Nat) (L' : Nat → Nat → Nat) (Γ' : Nat → Nat → Nat → Int32), v = some (.int i) ∧ L' 14 0 = L 14 0 ∧ WI N n' p' ord' L' Γ' o h' ∧ Rr i n' p' ord' L' Γ') (fun _ _ => False)) : am_Con l yL_count (.codeWith yL_count cL_count 4 (some .int) [(0, 9, 12, 13)]) 21 mc ms [.ref (L 5 0), .int a, .ref (L 14 0)] h (fun v h' => ∃ (i : Int32) (n' p' : Nat) (ord' : List Nat) (L' : Nat → Nat → Nat) (Γ' : Nat → Nat → Nat → Int32), v = some (.int 0) ∧ WI N n' p' ord' L' Γ' i.toInt64 h' ∧ Rr i n' p' ord' L' Γ') (fun _ _ => False) := by
  refine am_bodyH hlt (by decide +kernel) (Nat.le_of_ble_eq_true rfl) (fun k hl hR h0 htab => ?_)
  subst hl
  obtain ⟨Qf, hQ⟩ : ∃ Qf, Qf = am_Q k mc ms (fun v h' => ∃ (i : Int32) (n' p' : Nat) (ord' : List Nat) (L' : Nat → Nat → Nat) (Γ' : Nat → Nat → Nat → Int32), v = some (.int 0) ∧ WI N n' p' ord' L' Γ' i.toInt64 h' ∧ Rr i n' p' ord' L' Γ') (fun _ _ => False) := ⟨_, rfl⟩
  rw [← hQ]
  refine g_aload_n dL_count_0 rfl ?_
  refine g_iconst (v := nI 0) dL_count_1 (by decide) ?_
  refine g_aload_n dL_count_2 rfl ?_
  refine g_iload_n dL_count_3 rfl ?_
  refine g_callV [_] dL_count_4 mc_L_60 mi_X4_count se_X4_count (hc) ((w.k (c := 5) (i := 0) rfl)) rfl rfl (Nat.le_of_ble_eq_true rfl) (am_rm hR ⟨Nat.le_of_ble_eq_true rfl, Nat.le_of_ble_eq_true rfl, Nat.le_of_eq (Nat.zero_add _), Nat.le_of_eq (Nat.zero_add _)⟩) (fun _ _ z => z) (fun v hx hq hE => ?_)
  obtain ⟨i, n1, p1, ord1, L1, Γ1, rfl, hL, w1, hRr⟩ := hq
  rw [← hL]
  refine g_i2l dL_count_7 rfl ?_
  refine w_last w1 dL_count_8 (fun h2 w2 => ?_)
  refine g_goto 15 dL_count_9 (by decide) ?_
  refine g_iconst (v := 0) dL_count_15 (by decide) ?_
  rw [hQ]
  refine g_iret dL_count_16 rfl rfl (by omega) (by omega) ?_
  exact ⟨i, n1, p1, ord1, L1, Γ1, rfl, w2, hRr⟩
