theorem cx_IAE : Cond.castable "java/lang/IllegalArgumentException" "java/lang/IllegalArgumentException" ∈ am_WF := am_wf (i := 162) (by decide +kernel) rfl
theorem cx_ISE : Cond.castable "java/lang/IllegalStateException" "java/lang/IllegalStateException" ∈ am_WF := am_wf (i := 230) (by decide +kernel) rfl
theorem cx_IOB : Cond.castable "java/lang/IndexOutOfBoundsException" "java/lang/IndexOutOfBoundsException" ∈ am_WF := am_wf (i := 409) (by decide +kernel) rfl
theorem mcw_asks : am_mcW RL 69 yL_asks cL_asks 6 (some .int) [(0, 124, 125, 51), (0, 124, 130, 54), (0, 124, 135, 57)] 5 := ⟨am_ws (i := 472) (by decide +kernel) rfl, am_ws (i := 474) (by decide +kernel) rfl, am_ws (i := 19) (by decide +kernel) rfl, am_ws (i := 473) (by decide +kernel) rfl, by decide, rfl⟩
abbrev cdA : Cond := Cond.codeWith yL_asks cL_asks 6 (some .int) [(0, 124, 125, 51), (0, 124, 130, 54), (0, 124, 135, 57)]
set_option maxRecDepth 100000 in
set_option maxHeartbeats 4000000 in
theorem c_mends_ISE {l : Launch} (hlt : l.stackTraces = false) {h : am_H} {t0 : Nat} (hk : am_K h t0 = 4 + 1) {a : Int32} (hc : am_Con l yX4_repair (.code yX4_repair cX4_repair 3 none) 20 1 6 [.ref t0, .int a] h (fun _ _ => False) (fun E h' => E = "java/lang/IllegalStateException" ∧ h' = h)) : am_Con l yL_mends (.code yL_mends cL_mends 2 (some .int)) 21 1 6 [.ref t0, .int a] h (fun v h' => False) (fun E h' => E = "java/lang/IllegalStateException" ∧ h' = h) := by
  refine am_body hlt (by decide +kernel) (Nat.le_of_ble_eq_true rfl) (fun k hl hR h0 hno => ?_)
  subst hl
  obtain ⟨Qf, hQ⟩ : ∃ Qf, Qf = am_Q k 1 6 (fun v h' => False) (fun E h' => E = "java/lang/IllegalStateException" ∧ h' = h) := ⟨_, rfl⟩
  rw [← hQ]
  refine g_aload_n dL_mends_0 rfl ?_
  refine g_iload_n dL_mends_1 rfl ?_
  rw [hQ]
  refine g_callVP [_] dL_mends_2 mc_L_10 mi_X4_repair se_X4_repair hc hk rfl rfl (Nat.le_of_ble_eq_true rfl) (am_rm hR (by decide)) (fun _ _ z => z.elim) hno rfl (by decide) (by decide) (fun E h' z => z)
  
set_option maxRecDepth 100000 in
set_option maxHeartbeats 4000000 in
theorem c_mends_0 {l : Launch} (hlt : l.stackTraces = false) {h : am_H} {t0 : Nat} (hk : am_K h t0 = 4 + 1) {a : Int32} {mc ms : Nat} {Rr : am_H → Prop} (hc : am_Con l yX4_repair (.code yX4_repair cX4_repair 3 none) 20 mc ms [.ref t0, .int a] h (fun v h' => v = none ∧ Rr h') (fun _ _ => False)) : am_Con l yL_mends (.code yL_mends cL_mends 2 (some .int)) 21 mc ms [.ref t0, .int a] h (fun v h' => v = some (.int 0) ∧ Rr h') (fun _ _ => False) := by
  refine am_body hlt (by decide +kernel) (Nat.le_of_ble_eq_true rfl) (fun k hl hR h0 hno => ?_)
  subst hl
  obtain ⟨Qf, hQ⟩ : ∃ Qf, Qf = am_Q k mc ms (fun v h' => v = some (.int 0) ∧ Rr h') (fun _ _ => False) := ⟨_, rfl⟩
  rw [← hQ]
  refine g_aload_n dL_mends_0 rfl ?_
  refine g_iload_n dL_mends_1 rfl ?_
  refine g_callV [_] dL_mends_2 mc_L_10 mi_X4_repair se_X4_repair (hc) (hk) rfl rfl (Nat.le_of_ble_eq_true rfl) (am_rm hR ⟨Nat.le_of_ble_eq_true rfl, Nat.le_of_ble_eq_true rfl, Nat.le_of_eq (Nat.zero_add _), Nat.le_of_eq (Nat.zero_add _)⟩) (fun _ _ z => z) (fun v hx hq hE => ?_)
  obtain ⟨rfl, hr⟩ := hq
  refine g_iconst (v := 0) dL_mends_5 (by decide) ?_
  rw [hQ]
  refine g_iret dL_mends_6 rfl rfl (by omega) (by omega) ?_
  exact ⟨rfl, hr⟩
set_option maxRecDepth 100000 in
set_option maxHeartbeats 4000000 in
theorem ca_district_IAE {l : Launch} (hlt : l.stackTraces = false) {h : am_H} {t0 : Nat} (hk : am_K h t0 = 4 + 1) {a b c : Int32} (hc : am_Con l yX4_district (.code yX4_district cX4_district 4 (some .int)) 20 1 6 [.ref t0, .int a, .int b] h (fun _ _ => False) (fun E h' => E = "java/lang/IllegalArgumentException" ∧ h' = h)) : am_Con l yL_asks cdA 21 1 6 [.ref t0, .int 0, .int a, .int b, .int c] h (fun v h' => v = some (.int (-70009)) ∧ h' = h) (fun _ _ => False) := by
  refine am_bodyH hlt (by decide +kernel) (Nat.le_of_ble_eq_true rfl) (fun k hl hR h0 htab => ?_)
  subst hl
  obtain ⟨Qf, hQ⟩ : ∃ Qf, Qf = am_Q k 1 6 (fun v h' => v = some (.int (-70009)) ∧ h' = h) (fun _ _ => False) := ⟨_, rfl⟩
  rw [← hQ]
  refine g_iload_n dL_asks_0 rfl ?_
  refine g_if_ne 13 dL_asks_1 (by decide) (fun z => absurd z (by decide)) (fun _ => ?_)
  refine g_aload_n dL_asks_4 rfl ?_
  refine g_iload_n dL_asks_5 rfl ?_
  refine g_iload_n dL_asks_6 rfl ?_
  refine g_callVX [_, _] dL_asks_7 mc_L_16 mi_X4_district se_X4_district hc hk rfl rfl (Nat.le_of_ble_eq_true rfl) (am_rm hR (by decide)) (fun _ _ z => z.elim) (fun E h' q hxx => ?_)
  obtain ⟨rfl, rfl⟩ := hxx
  have hps : ∀ z ∈ ([⟨0, 124, 125, 51⟩] : List ExceptionTableEntry), covers z 7 = false ∨ (z.catchType ≠ 0 ∧ ∃ nm : String, Cond.classLink RL z.catchType nm ∈ am_WS ∧ ∀ U, am_T U → va_Nc "java/lang/IllegalArgumentException" nm U) := fun z hz => by
    rcases List.mem_cons.mp hz with rfl | hz
    · exact Or.inr ⟨by decide, _, kl_L_51, fun U hU => hU.2.2.2.2.2.2.2.2.2.1⟩
    cases hz
  refine ⟨130, ⟨[⟨0, 124, 125, 51⟩], ⟨0, 124, 130, 54⟩, [⟨0, 124, 135, 57⟩], htab, hps, by decide, by decide, rfl, kl_L_54, cx_IAE⟩, ?_⟩
  skip
  refine g_astore dL_asks_130 (by decide) rfl ?_
  refine g_ldc dL_asks_132 cn_L_56 ?_
  rw [hQ]
  refine g_iret dL_asks_134 rfl rfl (by decide) (by decide) ?_
  exact ⟨rfl, rfl⟩
set_option maxRecDepth 100000 in
set_option maxHeartbeats 4000000 in
theorem ca_district_ISE {l : Launch} (hlt : l.stackTraces = false) {h : am_H} {t0 : Nat} (hk : am_K h t0 = 4 + 1) {a b c : Int32} (hc : am_Con l yX4_district (.code yX4_district cX4_district 4 (some .int)) 20 1 6 [.ref t0, .int a, .int b] h (fun _ _ => False) (fun E h' => E = "java/lang/IllegalStateException" ∧ h' = h)) : am_Con l yL_asks cdA 21 1 6 [.ref t0, .int 0, .int a, .int b, .int c] h (fun v h' => v = some (.int (-70008)) ∧ h' = h) (fun _ _ => False) := by
  refine am_bodyH hlt (by decide +kernel) (Nat.le_of_ble_eq_true rfl) (fun k hl hR h0 htab => ?_)
  subst hl
  obtain ⟨Qf, hQ⟩ : ∃ Qf, Qf = am_Q k 1 6 (fun v h' => v = some (.int (-70008)) ∧ h' = h) (fun _ _ => False) := ⟨_, rfl⟩
  rw [← hQ]
  refine g_iload_n dL_asks_0 rfl ?_
  refine g_if_ne 13 dL_asks_1 (by decide) (fun z => absurd z (by decide)) (fun _ => ?_)
  refine g_aload_n dL_asks_4 rfl ?_
  refine g_iload_n dL_asks_5 rfl ?_
  refine g_iload_n dL_asks_6 rfl ?_
  refine g_callVX [_, _] dL_asks_7 mc_L_16 mi_X4_district se_X4_district hc hk rfl rfl (Nat.le_of_ble_eq_true rfl) (am_rm hR (by decide)) (fun _ _ z => z.elim) (fun E h' q hxx => ?_)
  obtain ⟨rfl, rfl⟩ := hxx
  have hps : ∀ z ∈ ([⟨0, 124, 125, 51⟩, ⟨0, 124, 130, 54⟩] : List ExceptionTableEntry), covers z 7 = false ∨ (z.catchType ≠ 0 ∧ ∃ nm : String, Cond.classLink RL z.catchType nm ∈ am_WS ∧ ∀ U, am_T U → va_Nc "java/lang/IllegalStateException" nm U) := fun z hz => by
    rcases List.mem_cons.mp hz with rfl | hz
    · exact Or.inr ⟨by decide, _, kl_L_51, fun U hU => hU.2.2.2.2.2.2.2.2.2.2⟩
    rcases List.mem_cons.mp hz with rfl | hz
    · exact Or.inr ⟨by decide, _, kl_L_54, fun U hU => hU.2.2.2.2.2.2.2.2.1⟩
    cases hz
  refine ⟨135, ⟨[⟨0, 124, 125, 51⟩, ⟨0, 124, 130, 54⟩], ⟨0, 124, 135, 57⟩, [], htab, hps, by decide, by decide, rfl, kl_L_57, cx_ISE⟩, ?_⟩
  skip
  refine g_astore dL_asks_135 (by decide) rfl ?_
  refine g_ldc dL_asks_137 cn_L_59 ?_
  rw [hQ]
  refine g_iret dL_asks_139 rfl rfl (by decide) (by decide) ?_
  exact ⟨rfl, rfl⟩
set_option maxRecDepth 100000 in
set_option maxHeartbeats 4000000 in
theorem ca_district_0 {l : Launch} (hlt : l.stackTraces = false) {h : am_H} {t0 : Nat} (hk : am_K h t0 = 4 + 1) {a b c : Int32} {mc ms : Nat} {Rr : Int32 → am_H → Prop} (hc : am_Con l yX4_district (.code yX4_district cX4_district 4 (some .int)) 20 mc ms [.ref t0, .int a, .int b] h (fun v h' => ∃ i : Int32, v = some (.int i) ∧ Rr i h') (fun _ _ => False)) : am_Con l yL_asks cdA 21 mc ms [.ref t0, .int 0, .int a, .int b, .int c] h (fun v h' => ∃ i : Int32, v = some (.int i) ∧ Rr i h') (fun _ _ => False) := by
  refine am_bodyH hlt (by decide +kernel) (Nat.le_of_ble_eq_true rfl) (fun k hl hR h0 htab => ?_)
  subst hl
  obtain ⟨Qf, hQ⟩ : ∃ Qf, Qf = am_Q k mc ms (fun v h' => ∃ i : Int32, v = some (.int i) ∧ Rr i h') (fun _ _ => False) := ⟨_, rfl⟩
  rw [← hQ]
  refine g_iload_n dL_asks_0 rfl ?_
  refine g_if_ne 13 dL_asks_1 (by decide) (fun z => absurd z (by decide)) (fun _ => ?_)
  refine g_aload_n dL_asks_4 rfl ?_
  refine g_iload_n dL_asks_5 rfl ?_
  refine g_iload_n dL_asks_6 rfl ?_
  refine g_callV [_, _] dL_asks_7 mc_L_16 mi_X4_district se_X4_district (hc) (hk) rfl rfl (Nat.le_of_ble_eq_true rfl) (am_rm hR ⟨Nat.le_of_ble_eq_true rfl, Nat.le_of_ble_eq_true rfl, Nat.le_of_eq (Nat.zero_add _), Nat.le_of_eq (Nat.zero_add _)⟩) (fun _ _ z => z) (fun v hx hq hE => ?_)
  obtain ⟨i, rfl, hRr⟩ := hq
  refine g_goto 124 dL_asks_10 (by decide) ?_
  rw [hQ]
  refine g_iret dL_asks_124 rfl rfl (by omega) (by omega) ?_
  exact ⟨i, rfl, hRr⟩
set_option maxRecDepth 100000 in
set_option maxHeartbeats 4000000 in
theorem ca_pipe_IOB {l : Launch} (hlt : l.stackTraces = false) {h : am_H} {t0 : Nat} (hk : am_K h t0 = 4 + 1) {a b c : Int32} (hc : am_Con l yX4_pipe (.code yX4_pipe cX4_pipe 5 (some .int)) 20 1 6 [.ref t0, .int a, .int b, .int c] h (fun _ _ => False) (fun E h' => E = "java/lang/IndexOutOfBoundsException" ∧ h' = h)) : am_Con l yL_asks cdA 21 1 6 [.ref t0, .int 1, .int a, .int b, .int c] h (fun v h' => v = some (.int (-70007)) ∧ h' = h) (fun _ _ => False) := by
  refine am_bodyH hlt (by decide +kernel) (Nat.le_of_ble_eq_true rfl) (fun k hl hR h0 htab => ?_)
  subst hl
  obtain ⟨Qf, hQ⟩ : ∃ Qf, Qf = am_Q k 1 6 (fun v h' => v = some (.int (-70007)) ∧ h' = h) (fun _ _ => False) := ⟨_, rfl⟩
  rw [← hQ]
  refine g_iload_n dL_asks_0 rfl ?_
  refine g_if_ne 13 dL_asks_1 (by decide) (fun _ => ?_) (fun z => absurd z (by decide))
  refine g_iload_n dL_asks_13 rfl ?_
  refine g_iconst (v := 1) dL_asks_14 (by decide) ?_
  refine g_icmp_ne 29 dL_asks_15 (by decide) (fun z => absurd z (by decide)) (fun _ => ?_)
  refine g_aload_n dL_asks_18 rfl ?_
  refine g_iload_n dL_asks_19 rfl ?_
  refine g_iload_n dL_asks_20 rfl ?_
  refine g_iload dL_asks_21 rfl ?_
  refine g_callVX [_, _, _] dL_asks_23 mc_L_20 mi_X4_pipe se_X4_pipe hc hk rfl rfl (Nat.le_of_ble_eq_true rfl) (am_rm hR (by decide)) (fun _ _ z => z.elim) (fun E h' q hxx => ?_)
  obtain ⟨rfl, rfl⟩ := hxx
  have hps : ∀ z ∈ ([] : List ExceptionTableEntry), covers z 23 = false ∨ (z.catchType ≠ 0 ∧ ∃ nm : String, Cond.classLink RL z.catchType nm ∈ am_WS ∧ ∀ U, am_T U → va_Nc "java/lang/IndexOutOfBoundsException" nm U) := fun z hz => by cases hz
  refine ⟨125, ⟨[], ⟨0, 124, 125, 51⟩, [⟨0, 124, 130, 54⟩, ⟨0, 124, 135, 57⟩], htab, hps, by decide, by decide, rfl, kl_L_51, cx_IOB⟩, ?_⟩
  skip
  refine g_astore dL_asks_125 (by decide) rfl ?_
  refine g_ldc dL_asks_127 cn_L_53 ?_
  rw [hQ]
  refine g_iret dL_asks_129 rfl rfl (by decide) (by decide) ?_
  exact ⟨rfl, rfl⟩
set_option maxRecDepth 100000 in
set_option maxHeartbeats 4000000 in
theorem ca_pipe_IAE {l : Launch} (hlt : l.stackTraces = false) {h : am_H} {t0 : Nat} (hk : am_K h t0 = 4 + 1) {a b c : Int32} (hc : am_Con l yX4_pipe (.code yX4_pipe cX4_pipe 5 (some .int)) 20 1 6 [.ref t0, .int a, .int b, .int c] h (fun _ _ => False) (fun E h' => E = "java/lang/IllegalArgumentException" ∧ h' = h)) : am_Con l yL_asks cdA 21 1 6 [.ref t0, .int 1, .int a, .int b, .int c] h (fun v h' => v = some (.int (-70009)) ∧ h' = h) (fun _ _ => False) := by
  refine am_bodyH hlt (by decide +kernel) (Nat.le_of_ble_eq_true rfl) (fun k hl hR h0 htab => ?_)
  subst hl
  obtain ⟨Qf, hQ⟩ : ∃ Qf, Qf = am_Q k 1 6 (fun v h' => v = some (.int (-70009)) ∧ h' = h) (fun _ _ => False) := ⟨_, rfl⟩
  rw [← hQ]
  refine g_iload_n dL_asks_0 rfl ?_
  refine g_if_ne 13 dL_asks_1 (by decide) (fun _ => ?_) (fun z => absurd z (by decide))
  refine g_iload_n dL_asks_13 rfl ?_
  refine g_iconst (v := 1) dL_asks_14 (by decide) ?_
  refine g_icmp_ne 29 dL_asks_15 (by decide) (fun z => absurd z (by decide)) (fun _ => ?_)
  refine g_aload_n dL_asks_18 rfl ?_
  refine g_iload_n dL_asks_19 rfl ?_
  refine g_iload_n dL_asks_20 rfl ?_
  refine g_iload dL_asks_21 rfl ?_
  refine g_callVX [_, _, _] dL_asks_23 mc_L_20 mi_X4_pipe se_X4_pipe hc hk rfl rfl (Nat.le_of_ble_eq_true rfl) (am_rm hR (by decide)) (fun _ _ z => z.elim) (fun E h' q hxx => ?_)
  obtain ⟨rfl, rfl⟩ := hxx
  have hps : ∀ z ∈ ([⟨0, 124, 125, 51⟩] : List ExceptionTableEntry), covers z 23 = false ∨ (z.catchType ≠ 0 ∧ ∃ nm : String, Cond.classLink RL z.catchType nm ∈ am_WS ∧ ∀ U, am_T U → va_Nc "java/lang/IllegalArgumentException" nm U) := fun z hz => by
    rcases List.mem_cons.mp hz with rfl | hz
    · exact Or.inr ⟨by decide, _, kl_L_51, fun U hU => hU.2.2.2.2.2.2.2.2.2.1⟩
    cases hz
  refine ⟨130, ⟨[⟨0, 124, 125, 51⟩], ⟨0, 124, 130, 54⟩, [⟨0, 124, 135, 57⟩], htab, hps, by decide, by decide, rfl, kl_L_54, cx_IAE⟩, ?_⟩
  skip
  refine g_astore dL_asks_130 (by decide) rfl ?_
  refine g_ldc dL_asks_132 cn_L_56 ?_
  rw [hQ]
  refine g_iret dL_asks_134 rfl rfl (by decide) (by decide) ?_
  exact ⟨rfl, rfl⟩
set_option maxRecDepth 100000 in
set_option maxHeartbeats 4000000 in
theorem ca_pipe_ISE {l : Launch} (hlt : l.stackTraces = false) {h : am_H} {t0 : Nat} (hk : am_K h t0 = 4 + 1) {a b c : Int32} (hc : am_Con l yX4_pipe (.code yX4_pipe cX4_pipe 5 (some .int)) 20 1 6 [.ref t0, .int a, .int b, .int c] h (fun _ _ => False) (fun E h' => E = "java/lang/IllegalStateException" ∧ h' = h)) : am_Con l yL_asks cdA 21 1 6 [.ref t0, .int 1, .int a, .int b, .int c] h (fun v h' => v = some (.int (-70008)) ∧ h' = h) (fun _ _ => False) := by
  refine am_bodyH hlt (by decide +kernel) (Nat.le_of_ble_eq_true rfl) (fun k hl hR h0 htab => ?_)
  subst hl
  obtain ⟨Qf, hQ⟩ : ∃ Qf, Qf = am_Q k 1 6 (fun v h' => v = some (.int (-70008)) ∧ h' = h) (fun _ _ => False) := ⟨_, rfl⟩
  rw [← hQ]
  refine g_iload_n dL_asks_0 rfl ?_
  refine g_if_ne 13 dL_asks_1 (by decide) (fun _ => ?_) (fun z => absurd z (by decide))
  refine g_iload_n dL_asks_13 rfl ?_
  refine g_iconst (v := 1) dL_asks_14 (by decide) ?_
  refine g_icmp_ne 29 dL_asks_15 (by decide) (fun z => absurd z (by decide)) (fun _ => ?_)
  refine g_aload_n dL_asks_18 rfl ?_
  refine g_iload_n dL_asks_19 rfl ?_
  refine g_iload_n dL_asks_20 rfl ?_
  refine g_iload dL_asks_21 rfl ?_
  refine g_callVX [_, _, _] dL_asks_23 mc_L_20 mi_X4_pipe se_X4_pipe hc hk rfl rfl (Nat.le_of_ble_eq_true rfl) (am_rm hR (by decide)) (fun _ _ z => z.elim) (fun E h' q hxx => ?_)
  obtain ⟨rfl, rfl⟩ := hxx
  have hps : ∀ z ∈ ([⟨0, 124, 125, 51⟩, ⟨0, 124, 130, 54⟩] : List ExceptionTableEntry), covers z 23 = false ∨ (z.catchType ≠ 0 ∧ ∃ nm : String, Cond.classLink RL z.catchType nm ∈ am_WS ∧ ∀ U, am_T U → va_Nc "java/lang/IllegalStateException" nm U) := fun z hz => by
    rcases List.mem_cons.mp hz with rfl | hz
    · exact Or.inr ⟨by decide, _, kl_L_51, fun U hU => hU.2.2.2.2.2.2.2.2.2.2⟩
    rcases List.mem_cons.mp hz with rfl | hz
    · exact Or.inr ⟨by decide, _, kl_L_54, fun U hU => hU.2.2.2.2.2.2.2.2.1⟩
    cases hz
  refine ⟨135, ⟨[⟨0, 124, 125, 51⟩, ⟨0, 124, 130, 54⟩], ⟨0, 124, 135, 57⟩, [], htab, hps, by decide, by decide, rfl, kl_L_57, cx_ISE⟩, ?_⟩
  skip
  refine g_astore dL_asks_135 (by decide) rfl ?_
  refine g_ldc dL_asks_137 cn_L_59 ?_
  rw [hQ]
  refine g_iret dL_asks_139 rfl rfl (by decide) (by decide) ?_
  exact ⟨rfl, rfl⟩
set_option maxRecDepth 100000 in
set_option maxHeartbeats 4000000 in
theorem ca_pipe_0 {l : Launch} (hlt : l.stackTraces = false) {h : am_H} {t0 : Nat} (hk : am_K h t0 = 4 + 1) {a b c : Int32} {mc ms : Nat} {Rr : Int32 → am_H → Prop} (hc : am_Con l yX4_pipe (.code yX4_pipe cX4_pipe 5 (some .int)) 20 mc ms [.ref t0, .int a, .int b, .int c] h (fun v h' => ∃ i : Int32, v = some (.int i) ∧ Rr i h') (fun _ _ => False)) : am_Con l yL_asks cdA 21 mc ms [.ref t0, .int 1, .int a, .int b, .int c] h (fun v h' => ∃ i : Int32, v = some (.int i) ∧ Rr i h') (fun _ _ => False) := by
  refine am_bodyH hlt (by decide +kernel) (Nat.le_of_ble_eq_true rfl) (fun k hl hR h0 htab => ?_)
  subst hl
  obtain ⟨Qf, hQ⟩ : ∃ Qf, Qf = am_Q k mc ms (fun v h' => ∃ i : Int32, v = some (.int i) ∧ Rr i h') (fun _ _ => False) := ⟨_, rfl⟩
  rw [← hQ]
  refine g_iload_n dL_asks_0 rfl ?_
  refine g_if_ne 13 dL_asks_1 (by decide) (fun _ => ?_) (fun z => absurd z (by decide))
  refine g_iload_n dL_asks_13 rfl ?_
  refine g_iconst (v := 1) dL_asks_14 (by decide) ?_
  refine g_icmp_ne 29 dL_asks_15 (by decide) (fun z => absurd z (by decide)) (fun _ => ?_)
  refine g_aload_n dL_asks_18 rfl ?_
  refine g_iload_n dL_asks_19 rfl ?_
  refine g_iload_n dL_asks_20 rfl ?_
  refine g_iload dL_asks_21 rfl ?_
  refine g_callV [_, _, _] dL_asks_23 mc_L_20 mi_X4_pipe se_X4_pipe (hc) (hk) rfl rfl (Nat.le_of_ble_eq_true rfl) (am_rm hR ⟨Nat.le_of_ble_eq_true rfl, Nat.le_of_ble_eq_true rfl, Nat.le_of_eq (Nat.zero_add _), Nat.le_of_eq (Nat.zero_add _)⟩) (fun _ _ z => z) (fun v hx hq hE => ?_)
  obtain ⟨i, rfl, hRr⟩ := hq
  refine g_goto 124 dL_asks_26 (by decide) ?_
  rw [hQ]
  refine g_iret dL_asks_124 rfl rfl (by omega) (by omega) ?_
  exact ⟨i, rfl, hRr⟩
set_option maxRecDepth 100000 in
set_option maxHeartbeats 4000000 in
theorem ca_source_ISE {l : Launch} (hlt : l.stackTraces = false) {h : am_H} {t0 : Nat} (hk : am_K h t0 = 4 + 1) {a b c : Int32} (hc : am_Con l yX4_source (.code yX4_source cX4_source 3 (some .int)) 20 1 6 [.ref t0, .int a] h (fun _ _ => False) (fun E h' => E = "java/lang/IllegalStateException" ∧ h' = h)) : am_Con l yL_asks cdA 21 1 6 [.ref t0, .int 2, .int a, .int b, .int c] h (fun v h' => v = some (.int (-70008)) ∧ h' = h) (fun _ _ => False) := by
  refine am_bodyH hlt (by decide +kernel) (Nat.le_of_ble_eq_true rfl) (fun k hl hR h0 htab => ?_)
  subst hl
  obtain ⟨Qf, hQ⟩ : ∃ Qf, Qf = am_Q k 1 6 (fun v h' => v = some (.int (-70008)) ∧ h' = h) (fun _ _ => False) := ⟨_, rfl⟩
  rw [← hQ]
  refine g_iload_n dL_asks_0 rfl ?_
  refine g_if_ne 13 dL_asks_1 (by decide) (fun _ => ?_) (fun z => absurd z (by decide))
  refine g_iload_n dL_asks_13 rfl ?_
  refine g_iconst (v := 1) dL_asks_14 (by decide) ?_
  refine g_icmp_ne 29 dL_asks_15 (by decide) (fun _ => ?_) (fun z => absurd z (by decide))
  refine g_iload_n dL_asks_29 rfl ?_
  refine g_iconst (v := 2) dL_asks_30 (by decide) ?_
  refine g_icmp_ne 42 dL_asks_31 (by decide) (fun z => absurd z (by decide)) (fun _ => ?_)
  refine g_aload_n dL_asks_34 rfl ?_
  refine g_iload_n dL_asks_35 rfl ?_
  refine g_callVX [_] dL_asks_36 mc_L_24 mi_X4_source se_X4_source hc hk rfl rfl (Nat.le_of_ble_eq_true rfl) (am_rm hR (by decide)) (fun _ _ z => z.elim) (fun E h' q hxx => ?_)
  obtain ⟨rfl, rfl⟩ := hxx
  have hps : ∀ z ∈ ([⟨0, 124, 125, 51⟩, ⟨0, 124, 130, 54⟩] : List ExceptionTableEntry), covers z 36 = false ∨ (z.catchType ≠ 0 ∧ ∃ nm : String, Cond.classLink RL z.catchType nm ∈ am_WS ∧ ∀ U, am_T U → va_Nc "java/lang/IllegalStateException" nm U) := fun z hz => by
    rcases List.mem_cons.mp hz with rfl | hz
    · exact Or.inr ⟨by decide, _, kl_L_51, fun U hU => hU.2.2.2.2.2.2.2.2.2.2⟩
    rcases List.mem_cons.mp hz with rfl | hz
    · exact Or.inr ⟨by decide, _, kl_L_54, fun U hU => hU.2.2.2.2.2.2.2.2.1⟩
    cases hz
  refine ⟨135, ⟨[⟨0, 124, 125, 51⟩, ⟨0, 124, 130, 54⟩], ⟨0, 124, 135, 57⟩, [], htab, hps, by decide, by decide, rfl, kl_L_57, cx_ISE⟩, ?_⟩
  skip
  refine g_astore dL_asks_135 (by decide) rfl ?_
  refine g_ldc dL_asks_137 cn_L_59 ?_
  rw [hQ]
  refine g_iret dL_asks_139 rfl rfl (by decide) (by decide) ?_
  exact ⟨rfl, rfl⟩
set_option maxRecDepth 100000 in
set_option maxHeartbeats 4000000 in
theorem ca_source_0 {l : Launch} (hlt : l.stackTraces = false) {h : am_H} {t0 : Nat} (hk : am_K h t0 = 4 + 1) {a b c : Int32} {mc ms : Nat} {Rr : Int32 → am_H → Prop} (hc : am_Con l yX4_source (.code yX4_source cX4_source 3 (some .int)) 20 mc ms [.ref t0, .int a] h (fun v h' => ∃ i : Int32, v = some (.int i) ∧ Rr i h') (fun _ _ => False)) : am_Con l yL_asks cdA 21 mc ms [.ref t0, .int 2, .int a, .int b, .int c] h (fun v h' => ∃ i : Int32, v = some (.int i) ∧ Rr i h') (fun _ _ => False) := by
  refine am_bodyH hlt (by decide +kernel) (Nat.le_of_ble_eq_true rfl) (fun k hl hR h0 htab => ?_)
  subst hl
  obtain ⟨Qf, hQ⟩ : ∃ Qf, Qf = am_Q k mc ms (fun v h' => ∃ i : Int32, v = some (.int i) ∧ Rr i h') (fun _ _ => False) := ⟨_, rfl⟩
  rw [← hQ]
  refine g_iload_n dL_asks_0 rfl ?_
  refine g_if_ne 13 dL_asks_1 (by decide) (fun _ => ?_) (fun z => absurd z (by decide))
  refine g_iload_n dL_asks_13 rfl ?_
  refine g_iconst (v := 1) dL_asks_14 (by decide) ?_
  refine g_icmp_ne 29 dL_asks_15 (by decide) (fun _ => ?_) (fun z => absurd z (by decide))
  refine g_iload_n dL_asks_29 rfl ?_
  refine g_iconst (v := 2) dL_asks_30 (by decide) ?_
  refine g_icmp_ne 42 dL_asks_31 (by decide) (fun z => absurd z (by decide)) (fun _ => ?_)
  refine g_aload_n dL_asks_34 rfl ?_
  refine g_iload_n dL_asks_35 rfl ?_
  refine g_callV [_] dL_asks_36 mc_L_24 mi_X4_source se_X4_source (hc) (hk) rfl rfl (Nat.le_of_ble_eq_true rfl) (am_rm hR ⟨Nat.le_of_ble_eq_true rfl, Nat.le_of_ble_eq_true rfl, Nat.le_of_eq (Nat.zero_add _), Nat.le_of_eq (Nat.zero_add _)⟩) (fun _ _ z => z) (fun v hx hq hE => ?_)
  obtain ⟨i, rfl, hRr⟩ := hq
  refine g_goto 124 dL_asks_39 (by decide) ?_
  rw [hQ]
  refine g_iret dL_asks_124 rfl rfl (by omega) (by omega) ?_
  exact ⟨i, rfl, hRr⟩
set_option maxRecDepth 100000 in
set_option maxHeartbeats 4000000 in
theorem ca_bid_ISE {l : Launch} (hlt : l.stackTraces = false) {h : am_H} {t0 : Nat} (hk : am_K h t0 = 4 + 1) {a b c : Int32} (hc : am_Con l yX4_bid (.code yX4_bid cX4_bid 5 (some .int)) 20 1 6 [.ref t0, .int a, .int b, .int c] h (fun _ _ => False) (fun E h' => E = "java/lang/IllegalStateException" ∧ h' = h)) : am_Con l yL_asks cdA 21 1 6 [.ref t0, .int 3, .int a, .int b, .int c] h (fun v h' => v = some (.int (-70008)) ∧ h' = h) (fun _ _ => False) := by
  refine am_bodyH hlt (by decide +kernel) (Nat.le_of_ble_eq_true rfl) (fun k hl hR h0 htab => ?_)
  subst hl
  obtain ⟨Qf, hQ⟩ : ∃ Qf, Qf = am_Q k 1 6 (fun v h' => v = some (.int (-70008)) ∧ h' = h) (fun _ _ => False) := ⟨_, rfl⟩
  rw [← hQ]
  refine g_iload_n dL_asks_0 rfl ?_
  refine g_if_ne 13 dL_asks_1 (by decide) (fun _ => ?_) (fun z => absurd z (by decide))
  refine g_iload_n dL_asks_13 rfl ?_
  refine g_iconst (v := 1) dL_asks_14 (by decide) ?_
  refine g_icmp_ne 29 dL_asks_15 (by decide) (fun _ => ?_) (fun z => absurd z (by decide))
  refine g_iload_n dL_asks_29 rfl ?_
  refine g_iconst (v := 2) dL_asks_30 (by decide) ?_
  refine g_icmp_ne 42 dL_asks_31 (by decide) (fun _ => ?_) (fun z => absurd z (by decide))
  refine g_iload_n dL_asks_42 rfl ?_
  refine g_iconst (v := 3) dL_asks_43 (by decide) ?_
  refine g_icmp_ne 58 dL_asks_44 (by decide) (fun z => absurd z (by decide)) (fun _ => ?_)
  refine g_aload_n dL_asks_47 rfl ?_
  refine g_iload_n dL_asks_48 rfl ?_
  refine g_iload_n dL_asks_49 rfl ?_
  refine g_iload dL_asks_50 rfl ?_
  refine g_callVX [_, _, _] dL_asks_52 mc_L_28 mi_X4_bid se_X4_bid hc hk rfl rfl (Nat.le_of_ble_eq_true rfl) (am_rm hR (by decide)) (fun _ _ z => z.elim) (fun E h' q hxx => ?_)
  obtain ⟨rfl, rfl⟩ := hxx
  have hps : ∀ z ∈ ([⟨0, 124, 125, 51⟩, ⟨0, 124, 130, 54⟩] : List ExceptionTableEntry), covers z 52 = false ∨ (z.catchType ≠ 0 ∧ ∃ nm : String, Cond.classLink RL z.catchType nm ∈ am_WS ∧ ∀ U, am_T U → va_Nc "java/lang/IllegalStateException" nm U) := fun z hz => by
    rcases List.mem_cons.mp hz with rfl | hz
    · exact Or.inr ⟨by decide, _, kl_L_51, fun U hU => hU.2.2.2.2.2.2.2.2.2.2⟩
    rcases List.mem_cons.mp hz with rfl | hz
    · exact Or.inr ⟨by decide, _, kl_L_54, fun U hU => hU.2.2.2.2.2.2.2.2.1⟩
    cases hz
  refine ⟨135, ⟨[⟨0, 124, 125, 51⟩, ⟨0, 124, 130, 54⟩], ⟨0, 124, 135, 57⟩, [], htab, hps, by decide, by decide, rfl, kl_L_57, cx_ISE⟩, ?_⟩
  skip
  refine g_astore dL_asks_135 (by decide) rfl ?_
  refine g_ldc dL_asks_137 cn_L_59 ?_
  rw [hQ]
  refine g_iret dL_asks_139 rfl rfl (by decide) (by decide) ?_
  exact ⟨rfl, rfl⟩
set_option maxRecDepth 100000 in
set_option maxHeartbeats 4000000 in
theorem ca_bid_0 {l : Launch} (hlt : l.stackTraces = false) {h : am_H} {t0 : Nat} (hk : am_K h t0 = 4 + 1) {a b c : Int32} {mc ms : Nat} {Rr : Int32 → am_H → Prop} (hc : am_Con l yX4_bid (.code yX4_bid cX4_bid 5 (some .int)) 20 mc ms [.ref t0, .int a, .int b, .int c] h (fun v h' => ∃ i : Int32, v = some (.int i) ∧ Rr i h') (fun _ _ => False)) : am_Con l yL_asks cdA 21 mc ms [.ref t0, .int 3, .int a, .int b, .int c] h (fun v h' => ∃ i : Int32, v = some (.int i) ∧ Rr i h') (fun _ _ => False) := by
  refine am_bodyH hlt (by decide +kernel) (Nat.le_of_ble_eq_true rfl) (fun k hl hR h0 htab => ?_)
  subst hl
  obtain ⟨Qf, hQ⟩ : ∃ Qf, Qf = am_Q k mc ms (fun v h' => ∃ i : Int32, v = some (.int i) ∧ Rr i h') (fun _ _ => False) := ⟨_, rfl⟩
  rw [← hQ]
  refine g_iload_n dL_asks_0 rfl ?_
  refine g_if_ne 13 dL_asks_1 (by decide) (fun _ => ?_) (fun z => absurd z (by decide))
  refine g_iload_n dL_asks_13 rfl ?_
  refine g_iconst (v := 1) dL_asks_14 (by decide) ?_
  refine g_icmp_ne 29 dL_asks_15 (by decide) (fun _ => ?_) (fun z => absurd z (by decide))
  refine g_iload_n dL_asks_29 rfl ?_
  refine g_iconst (v := 2) dL_asks_30 (by decide) ?_
  refine g_icmp_ne 42 dL_asks_31 (by decide) (fun _ => ?_) (fun z => absurd z (by decide))
  refine g_iload_n dL_asks_42 rfl ?_
  refine g_iconst (v := 3) dL_asks_43 (by decide) ?_
  refine g_icmp_ne 58 dL_asks_44 (by decide) (fun z => absurd z (by decide)) (fun _ => ?_)
  refine g_aload_n dL_asks_47 rfl ?_
  refine g_iload_n dL_asks_48 rfl ?_
  refine g_iload_n dL_asks_49 rfl ?_
  refine g_iload dL_asks_50 rfl ?_
  refine g_callV [_, _, _] dL_asks_52 mc_L_28 mi_X4_bid se_X4_bid (hc) (hk) rfl rfl (Nat.le_of_ble_eq_true rfl) (am_rm hR ⟨Nat.le_of_ble_eq_true rfl, Nat.le_of_ble_eq_true rfl, Nat.le_of_eq (Nat.zero_add _), Nat.le_of_eq (Nat.zero_add _)⟩) (fun _ _ z => z) (fun v hx hq hE => ?_)
  obtain ⟨i, rfl, hRr⟩ := hq
  refine g_goto 124 dL_asks_55 (by decide) ?_
  rw [hQ]
  refine g_iret dL_asks_124 rfl rfl (by omega) (by omega) ?_
  exact ⟨i, rfl, hRr⟩
set_option maxRecDepth 100000 in
set_option maxHeartbeats 4000000 in
theorem ca_close_ISE {l : Launch} (hlt : l.stackTraces = false) {h : am_H} {t0 : Nat} (hk : am_K h t0 = 4 + 1) {a b c : Int32} (hc : am_Con l yX4_close (.code yX4_close cX4_close 3 (some .boolean)) 20 1 6 [.ref t0] h (fun _ _ => False) (fun E h' => E = "java/lang/IllegalStateException" ∧ h' = h)) : am_Con l yL_asks cdA 21 1 6 [.ref t0, .int 4, .int a, .int b, .int c] h (fun v h' => v = some (.int (-70008)) ∧ h' = h) (fun _ _ => False) := by
  refine am_bodyH hlt (by decide +kernel) (Nat.le_of_ble_eq_true rfl) (fun k hl hR h0 htab => ?_)
  subst hl
  obtain ⟨Qf, hQ⟩ : ∃ Qf, Qf = am_Q k 1 6 (fun v h' => v = some (.int (-70008)) ∧ h' = h) (fun _ _ => False) := ⟨_, rfl⟩
  rw [← hQ]
  refine g_iload_n dL_asks_0 rfl ?_
  refine g_if_ne 13 dL_asks_1 (by decide) (fun _ => ?_) (fun z => absurd z (by decide))
  refine g_iload_n dL_asks_13 rfl ?_
  refine g_iconst (v := 1) dL_asks_14 (by decide) ?_
  refine g_icmp_ne 29 dL_asks_15 (by decide) (fun _ => ?_) (fun z => absurd z (by decide))
  refine g_iload_n dL_asks_29 rfl ?_
  refine g_iconst (v := 2) dL_asks_30 (by decide) ?_
  refine g_icmp_ne 42 dL_asks_31 (by decide) (fun _ => ?_) (fun z => absurd z (by decide))
  refine g_iload_n dL_asks_42 rfl ?_
  refine g_iconst (v := 3) dL_asks_43 (by decide) ?_
  refine g_icmp_ne 58 dL_asks_44 (by decide) (fun _ => ?_) (fun z => absurd z (by decide))
  refine g_iload_n dL_asks_58 rfl ?_
  refine g_iconst (v := 4) dL_asks_59 (by decide) ?_
  refine g_icmp_ne 78 dL_asks_60 (by decide) (fun z => absurd z (by decide)) (fun _ => ?_)
  refine g_aload_n dL_asks_63 rfl ?_
  refine g_callVX [] dL_asks_64 mc_L_31 mi_X4_close se_X4_close hc hk rfl rfl (Nat.le_of_ble_eq_true rfl) (am_rm hR (by decide)) (fun _ _ z => z.elim) (fun E h' q hxx => ?_)
  obtain ⟨rfl, rfl⟩ := hxx
  have hps : ∀ z ∈ ([⟨0, 124, 125, 51⟩, ⟨0, 124, 130, 54⟩] : List ExceptionTableEntry), covers z 64 = false ∨ (z.catchType ≠ 0 ∧ ∃ nm : String, Cond.classLink RL z.catchType nm ∈ am_WS ∧ ∀ U, am_T U → va_Nc "java/lang/IllegalStateException" nm U) := fun z hz => by
    rcases List.mem_cons.mp hz with rfl | hz
    · exact Or.inr ⟨by decide, _, kl_L_51, fun U hU => hU.2.2.2.2.2.2.2.2.2.2⟩
    rcases List.mem_cons.mp hz with rfl | hz
    · exact Or.inr ⟨by decide, _, kl_L_54, fun U hU => hU.2.2.2.2.2.2.2.2.1⟩
    cases hz
  refine ⟨135, ⟨[⟨0, 124, 125, 51⟩, ⟨0, 124, 130, 54⟩], ⟨0, 124, 135, 57⟩, [], htab, hps, by decide, by decide, rfl, kl_L_57, cx_ISE⟩, ?_⟩
  skip
  refine g_astore dL_asks_135 (by decide) rfl ?_
  refine g_ldc dL_asks_137 cn_L_59 ?_
  rw [hQ]
  refine g_iret dL_asks_139 rfl rfl (by decide) (by decide) ?_
  exact ⟨rfl, rfl⟩
set_option maxRecDepth 100000 in
set_option maxHeartbeats 4000000 in
theorem ca_close_0 {l : Launch} (hlt : l.stackTraces = false) {h : am_H} {t0 : Nat} (hk : am_K h t0 = 4 + 1) {a b c : Int32} {mc ms : Nat} {Rr : Int32 → am_H → Prop} (hc : am_Con l yX4_close (.code yX4_close cX4_close 3 (some .boolean)) 20 mc ms [.ref t0] h (fun v h' => ∃ i : Int32, v = some (.int i) ∧ (i = 0 ∨ i = 1) ∧ Rr i h') (fun _ _ => False)) : am_Con l yL_asks cdA 21 mc ms [.ref t0, .int 4, .int a, .int b, .int c] h (fun v h' => ∃ i : Int32, v = some (.int i) ∧ (i = 0 ∨ i = 1) ∧ Rr i h') (fun _ _ => False) := by
  refine am_bodyH hlt (by decide +kernel) (Nat.le_of_ble_eq_true rfl) (fun k hl hR h0 htab => ?_)
  subst hl
  obtain ⟨Qf, hQ⟩ : ∃ Qf, Qf = am_Q k mc ms (fun v h' => ∃ i : Int32, v = some (.int i) ∧ (i = 0 ∨ i = 1) ∧ Rr i h') (fun _ _ => False) := ⟨_, rfl⟩
  rw [← hQ]
  refine g_iload_n dL_asks_0 rfl ?_
  refine g_if_ne 13 dL_asks_1 (by decide) (fun _ => ?_) (fun z => absurd z (by decide))
  refine g_iload_n dL_asks_13 rfl ?_
  refine g_iconst (v := 1) dL_asks_14 (by decide) ?_
  refine g_icmp_ne 29 dL_asks_15 (by decide) (fun _ => ?_) (fun z => absurd z (by decide))
  refine g_iload_n dL_asks_29 rfl ?_
  refine g_iconst (v := 2) dL_asks_30 (by decide) ?_
  refine g_icmp_ne 42 dL_asks_31 (by decide) (fun _ => ?_) (fun z => absurd z (by decide))
  refine g_iload_n dL_asks_42 rfl ?_
  refine g_iconst (v := 3) dL_asks_43 (by decide) ?_
  refine g_icmp_ne 58 dL_asks_44 (by decide) (fun _ => ?_) (fun z => absurd z (by decide))
  refine g_iload_n dL_asks_58 rfl ?_
  refine g_iconst (v := 4) dL_asks_59 (by decide) ?_
  refine g_icmp_ne 78 dL_asks_60 (by decide) (fun z => absurd z (by decide)) (fun _ => ?_)
  refine g_aload_n dL_asks_63 rfl ?_
  refine g_callV [] dL_asks_64 mc_L_31 mi_X4_close se_X4_close (hc) (hk) rfl rfl (Nat.le_of_ble_eq_true rfl) (am_rm hR ⟨Nat.le_of_ble_eq_true rfl, Nat.le_of_ble_eq_true rfl, Nat.le_of_eq (Nat.zero_add _), Nat.le_of_eq (Nat.zero_add _)⟩) (fun _ _ z => z) (fun v hx hq hE => ?_)
  obtain ⟨i, rfl, h01, hRr⟩ := hq
  refine g_if_eq 74 dL_asks_67 (by decide) (fun c_67 => ?_) (fun c_67 => ?_)
  · skip
    refine g_iconst (v := 0) dL_asks_74 (by decide) ?_
    refine g_goto 124 dL_asks_75 (by decide) ?_
    rw [hQ]
    refine g_iret dL_asks_124 rfl rfl (by omega) (by omega) ?_
    exact ⟨_, rfl, Or.inl rfl, by rw [← c_67]; exact hRr⟩
  · skip
    refine g_iconst (v := 1) dL_asks_70 (by decide) ?_
    refine g_goto 124 dL_asks_71 (by decide) ?_
    rw [hQ]
    refine g_iret dL_asks_124 rfl rfl (by omega) (by omega) ?_
    exact ⟨_, rfl, Or.inr rfl, by rw [← h01.resolve_left c_67]; exact hRr⟩
set_option maxRecDepth 100000 in
set_option maxHeartbeats 4000000 in
theorem ca_burst_ISE {l : Launch} (hlt : l.stackTraces = false) {h : am_H} {t0 : Nat} (hk : am_K h t0 = 4 + 1) {a b c : Int32} (hc : am_Con l yX4_burst (.code yX4_burst cX4_burst 3 (some .int)) 20 1 6 [.ref t0, .int a] h (fun _ _ => False) (fun E h' => E = "java/lang/IllegalStateException" ∧ h' = h)) : am_Con l yL_asks cdA 21 1 6 [.ref t0, .int 5, .int a, .int b, .int c] h (fun v h' => v = some (.int (-70008)) ∧ h' = h) (fun _ _ => False) := by
  refine am_bodyH hlt (by decide +kernel) (Nat.le_of_ble_eq_true rfl) (fun k hl hR h0 htab => ?_)
  subst hl
  obtain ⟨Qf, hQ⟩ : ∃ Qf, Qf = am_Q k 1 6 (fun v h' => v = some (.int (-70008)) ∧ h' = h) (fun _ _ => False) := ⟨_, rfl⟩
  rw [← hQ]
  refine g_iload_n dL_asks_0 rfl ?_
  refine g_if_ne 13 dL_asks_1 (by decide) (fun _ => ?_) (fun z => absurd z (by decide))
  refine g_iload_n dL_asks_13 rfl ?_
  refine g_iconst (v := 1) dL_asks_14 (by decide) ?_
  refine g_icmp_ne 29 dL_asks_15 (by decide) (fun _ => ?_) (fun z => absurd z (by decide))
  refine g_iload_n dL_asks_29 rfl ?_
  refine g_iconst (v := 2) dL_asks_30 (by decide) ?_
  refine g_icmp_ne 42 dL_asks_31 (by decide) (fun _ => ?_) (fun z => absurd z (by decide))
  refine g_iload_n dL_asks_42 rfl ?_
  refine g_iconst (v := 3) dL_asks_43 (by decide) ?_
  refine g_icmp_ne 58 dL_asks_44 (by decide) (fun _ => ?_) (fun z => absurd z (by decide))
  refine g_iload_n dL_asks_58 rfl ?_
  refine g_iconst (v := 4) dL_asks_59 (by decide) ?_
  refine g_icmp_ne 78 dL_asks_60 (by decide) (fun _ => ?_) (fun z => absurd z (by decide))
  refine g_iload_n dL_asks_78 rfl ?_
  refine g_iconst (v := 5) dL_asks_79 (by decide) ?_
  refine g_icmp_ne 91 dL_asks_80 (by decide) (fun z => absurd z (by decide)) (fun _ => ?_)
  refine g_aload_n dL_asks_83 rfl ?_
  refine g_iload_n dL_asks_84 rfl ?_
  refine g_callVX [_] dL_asks_85 mc_L_35 mi_X4_burst se_X4_burst hc hk rfl rfl (Nat.le_of_ble_eq_true rfl) (am_rm hR (by decide)) (fun _ _ z => z.elim) (fun E h' q hxx => ?_)
  obtain ⟨rfl, rfl⟩ := hxx
  have hps : ∀ z ∈ ([⟨0, 124, 125, 51⟩, ⟨0, 124, 130, 54⟩] : List ExceptionTableEntry), covers z 85 = false ∨ (z.catchType ≠ 0 ∧ ∃ nm : String, Cond.classLink RL z.catchType nm ∈ am_WS ∧ ∀ U, am_T U → va_Nc "java/lang/IllegalStateException" nm U) := fun z hz => by
    rcases List.mem_cons.mp hz with rfl | hz
    · exact Or.inr ⟨by decide, _, kl_L_51, fun U hU => hU.2.2.2.2.2.2.2.2.2.2⟩
    rcases List.mem_cons.mp hz with rfl | hz
    · exact Or.inr ⟨by decide, _, kl_L_54, fun U hU => hU.2.2.2.2.2.2.2.2.1⟩
    cases hz
  refine ⟨135, ⟨[⟨0, 124, 125, 51⟩, ⟨0, 124, 130, 54⟩], ⟨0, 124, 135, 57⟩, [], htab, hps, by decide, by decide, rfl, kl_L_57, cx_ISE⟩, ?_⟩
  skip
  refine g_astore dL_asks_135 (by decide) rfl ?_
  refine g_ldc dL_asks_137 cn_L_59 ?_
  rw [hQ]
  refine g_iret dL_asks_139 rfl rfl (by decide) (by decide) ?_
  exact ⟨rfl, rfl⟩
set_option maxRecDepth 100000 in
set_option maxHeartbeats 4000000 in
theorem ca_burst_0 {l : Launch} (hlt : l.stackTraces = false) {h : am_H} {t0 : Nat} (hk : am_K h t0 = 4 + 1) {a b c : Int32} {mc ms : Nat} {Rr : Int32 → am_H → Prop} (hc : am_Con l yX4_burst (.code yX4_burst cX4_burst 3 (some .int)) 20 mc ms [.ref t0, .int a] h (fun v h' => ∃ i : Int32, v = some (.int i) ∧ Rr i h') (fun _ _ => False)) : am_Con l yL_asks cdA 21 mc ms [.ref t0, .int 5, .int a, .int b, .int c] h (fun v h' => ∃ i : Int32, v = some (.int i) ∧ Rr i h') (fun _ _ => False) := by
  refine am_bodyH hlt (by decide +kernel) (Nat.le_of_ble_eq_true rfl) (fun k hl hR h0 htab => ?_)
  subst hl
  obtain ⟨Qf, hQ⟩ : ∃ Qf, Qf = am_Q k mc ms (fun v h' => ∃ i : Int32, v = some (.int i) ∧ Rr i h') (fun _ _ => False) := ⟨_, rfl⟩
  rw [← hQ]
  refine g_iload_n dL_asks_0 rfl ?_
  refine g_if_ne 13 dL_asks_1 (by decide) (fun _ => ?_) (fun z => absurd z (by decide))
  refine g_iload_n dL_asks_13 rfl ?_
  refine g_iconst (v := 1) dL_asks_14 (by decide) ?_
  refine g_icmp_ne 29 dL_asks_15 (by decide) (fun _ => ?_) (fun z => absurd z (by decide))
  refine g_iload_n dL_asks_29 rfl ?_
  refine g_iconst (v := 2) dL_asks_30 (by decide) ?_
  refine g_icmp_ne 42 dL_asks_31 (by decide) (fun _ => ?_) (fun z => absurd z (by decide))
  refine g_iload_n dL_asks_42 rfl ?_
  refine g_iconst (v := 3) dL_asks_43 (by decide) ?_
  refine g_icmp_ne 58 dL_asks_44 (by decide) (fun _ => ?_) (fun z => absurd z (by decide))
  refine g_iload_n dL_asks_58 rfl ?_
  refine g_iconst (v := 4) dL_asks_59 (by decide) ?_
  refine g_icmp_ne 78 dL_asks_60 (by decide) (fun _ => ?_) (fun z => absurd z (by decide))
  refine g_iload_n dL_asks_78 rfl ?_
  refine g_iconst (v := 5) dL_asks_79 (by decide) ?_
  refine g_icmp_ne 91 dL_asks_80 (by decide) (fun z => absurd z (by decide)) (fun _ => ?_)
  refine g_aload_n dL_asks_83 rfl ?_
  refine g_iload_n dL_asks_84 rfl ?_
  refine g_callV [_] dL_asks_85 mc_L_35 mi_X4_burst se_X4_burst (hc) (hk) rfl rfl (Nat.le_of_ble_eq_true rfl) (am_rm hR ⟨Nat.le_of_ble_eq_true rfl, Nat.le_of_ble_eq_true rfl, Nat.le_of_eq (Nat.zero_add _), Nat.le_of_eq (Nat.zero_add _)⟩) (fun _ _ z => z) (fun v hx hq hE => ?_)
  obtain ⟨i, rfl, hRr⟩ := hq
  refine g_goto 124 dL_asks_88 (by decide) ?_
  rw [hQ]
  refine g_iret dL_asks_124 rfl rfl (by omega) (by omega) ?_
  exact ⟨i, rfl, hRr⟩
set_option maxRecDepth 100000 in
set_option maxHeartbeats 4000000 in
theorem ca_mends_ISE {l : Launch} (hlt : l.stackTraces = false) {h : am_H} {t0 : Nat} (hk : am_K h t0 = 4 + 1) {a b c : Int32} (hc : am_Con l yL_mends (.code yL_mends cL_mends 2 (some .int)) 21 1 6 [.ref t0, .int a] h (fun _ _ => False) (fun E h' => E = "java/lang/IllegalStateException" ∧ h' = h)) : am_Con l yL_asks cdA 22 1 6 [.ref t0, .int 6, .int a, .int b, .int c] h (fun v h' => v = some (.int (-70008)) ∧ h' = h) (fun _ _ => False) := by
  refine am_bodyH hlt (by decide +kernel) (Nat.le_of_ble_eq_true rfl) (fun k hl hR h0 htab => ?_)
  subst hl
  obtain ⟨Qf, hQ⟩ : ∃ Qf, Qf = am_Q k 1 6 (fun v h' => v = some (.int (-70008)) ∧ h' = h) (fun _ _ => False) := ⟨_, rfl⟩
  rw [← hQ]
  refine g_iload_n dL_asks_0 rfl ?_
  refine g_if_ne 13 dL_asks_1 (by decide) (fun _ => ?_) (fun z => absurd z (by decide))
  refine g_iload_n dL_asks_13 rfl ?_
  refine g_iconst (v := 1) dL_asks_14 (by decide) ?_
  refine g_icmp_ne 29 dL_asks_15 (by decide) (fun _ => ?_) (fun z => absurd z (by decide))
  refine g_iload_n dL_asks_29 rfl ?_
  refine g_iconst (v := 2) dL_asks_30 (by decide) ?_
  refine g_icmp_ne 42 dL_asks_31 (by decide) (fun _ => ?_) (fun z => absurd z (by decide))
  refine g_iload_n dL_asks_42 rfl ?_
  refine g_iconst (v := 3) dL_asks_43 (by decide) ?_
  refine g_icmp_ne 58 dL_asks_44 (by decide) (fun _ => ?_) (fun z => absurd z (by decide))
  refine g_iload_n dL_asks_58 rfl ?_
  refine g_iconst (v := 4) dL_asks_59 (by decide) ?_
  refine g_icmp_ne 78 dL_asks_60 (by decide) (fun _ => ?_) (fun z => absurd z (by decide))
  refine g_iload_n dL_asks_78 rfl ?_
  refine g_iconst (v := 5) dL_asks_79 (by decide) ?_
  refine g_icmp_ne 91 dL_asks_80 (by decide) (fun _ => ?_) (fun z => absurd z (by decide))
  refine g_iload_n dL_asks_91 rfl ?_
  refine g_bipush (v := 6) dL_asks_92 (by decide) ?_
  refine g_icmp_ne 105 dL_asks_94 (by decide) (fun z => absurd z (by decide)) (fun _ => ?_)
  refine g_aload_n dL_asks_97 rfl ?_
  refine g_iload_n dL_asks_98 rfl ?_
  refine g_callSC [_, _] dL_asks_99 mc_L_38 ms_L_mends hc rfl (Nat.le_of_ble_eq_true rfl) (am_rm hR (by decide)) (fun _ _ z => z.elim) (fun E h' q hxx => ?_)
  obtain ⟨rfl, rfl⟩ := hxx
  have hps : ∀ z ∈ ([⟨0, 124, 125, 51⟩, ⟨0, 124, 130, 54⟩] : List ExceptionTableEntry), covers z 99 = false ∨ (z.catchType ≠ 0 ∧ ∃ nm : String, Cond.classLink RL z.catchType nm ∈ am_WS ∧ ∀ U, am_T U → va_Nc "java/lang/IllegalStateException" nm U) := fun z hz => by
    rcases List.mem_cons.mp hz with rfl | hz
    · exact Or.inr ⟨by decide, _, kl_L_51, fun U hU => hU.2.2.2.2.2.2.2.2.2.2⟩
    rcases List.mem_cons.mp hz with rfl | hz
    · exact Or.inr ⟨by decide, _, kl_L_54, fun U hU => hU.2.2.2.2.2.2.2.2.1⟩
    cases hz
  refine ⟨135, ⟨[⟨0, 124, 125, 51⟩, ⟨0, 124, 130, 54⟩], ⟨0, 124, 135, 57⟩, [], htab, hps, by decide, by decide, rfl, kl_L_57, cx_ISE⟩, ?_⟩
  skip
  refine g_astore dL_asks_135 (by decide) rfl ?_
  refine g_ldc dL_asks_137 cn_L_59 ?_
  rw [hQ]
  refine g_iret dL_asks_139 rfl rfl (by decide) (by decide) ?_
  exact ⟨rfl, rfl⟩
set_option maxRecDepth 100000 in
set_option maxHeartbeats 4000000 in
theorem ca_mends_0 {l : Launch} (hlt : l.stackTraces = false) {h : am_H} {t0 : Nat} (hk : am_K h t0 = 4 + 1) {a b c : Int32} {mc ms : Nat} {Rr : Int32 → am_H → Prop} (hc : am_Con l yL_mends (.code yL_mends cL_mends 2 (some .int)) 21 mc ms [.ref t0, .int a] h (fun v h' => ∃ i : Int32, v = some (.int i) ∧ Rr i h') (fun _ _ => False)) : am_Con l yL_asks cdA 22 mc ms [.ref t0, .int 6, .int a, .int b, .int c] h (fun v h' => ∃ i : Int32, v = some (.int i) ∧ Rr i h') (fun _ _ => False) := by
  refine am_bodyH hlt (by decide +kernel) (Nat.le_of_ble_eq_true rfl) (fun k hl hR h0 htab => ?_)
  subst hl
  obtain ⟨Qf, hQ⟩ : ∃ Qf, Qf = am_Q k mc ms (fun v h' => ∃ i : Int32, v = some (.int i) ∧ Rr i h') (fun _ _ => False) := ⟨_, rfl⟩
  rw [← hQ]
  refine g_iload_n dL_asks_0 rfl ?_
  refine g_if_ne 13 dL_asks_1 (by decide) (fun _ => ?_) (fun z => absurd z (by decide))
  refine g_iload_n dL_asks_13 rfl ?_
  refine g_iconst (v := 1) dL_asks_14 (by decide) ?_
  refine g_icmp_ne 29 dL_asks_15 (by decide) (fun _ => ?_) (fun z => absurd z (by decide))
  refine g_iload_n dL_asks_29 rfl ?_
  refine g_iconst (v := 2) dL_asks_30 (by decide) ?_
  refine g_icmp_ne 42 dL_asks_31 (by decide) (fun _ => ?_) (fun z => absurd z (by decide))
  refine g_iload_n dL_asks_42 rfl ?_
  refine g_iconst (v := 3) dL_asks_43 (by decide) ?_
  refine g_icmp_ne 58 dL_asks_44 (by decide) (fun _ => ?_) (fun z => absurd z (by decide))
  refine g_iload_n dL_asks_58 rfl ?_
  refine g_iconst (v := 4) dL_asks_59 (by decide) ?_
  refine g_icmp_ne 78 dL_asks_60 (by decide) (fun _ => ?_) (fun z => absurd z (by decide))
  refine g_iload_n dL_asks_78 rfl ?_
  refine g_iconst (v := 5) dL_asks_79 (by decide) ?_
  refine g_icmp_ne 91 dL_asks_80 (by decide) (fun _ => ?_) (fun z => absurd z (by decide))
  refine g_iload_n dL_asks_91 rfl ?_
  refine g_bipush (v := 6) dL_asks_92 (by decide) ?_
  refine g_icmp_ne 105 dL_asks_94 (by decide) (fun z => absurd z (by decide)) (fun _ => ?_)
  refine g_aload_n dL_asks_97 rfl ?_
  refine g_iload_n dL_asks_98 rfl ?_
  refine g_callS [_, _] dL_asks_99 mc_L_38 ms_L_mends (hc) rfl (Nat.le_of_ble_eq_true rfl) (am_rm hR ⟨Nat.le_of_ble_eq_true rfl, Nat.le_of_ble_eq_true rfl, Nat.le_of_eq (Nat.zero_add _), Nat.le_of_eq (Nat.zero_add _)⟩) (fun _ _ z => z) (fun v hx hq hE => ?_)
  obtain ⟨i, rfl, hRr⟩ := hq
  refine g_goto 124 dL_asks_102 (by decide) ?_
  rw [hQ]
  refine g_iret dL_asks_124 rfl rfl (by omega) (by omega) ?_
  exact ⟨i, rfl, hRr⟩
set_option maxRecDepth 100000 in
set_option maxHeartbeats 4000000 in
theorem ca_end_ISE {l : Launch} (hlt : l.stackTraces = false) {h : am_H} {t0 : Nat} (hk : am_K h t0 = 4 + 1) {a b c : Int32} (hc : am_Con l yX4_end (.code yX4_end cX4_end 4 (some .int)) 20 1 6 [.ref t0] h (fun _ _ => False) (fun E h' => E = "java/lang/IllegalStateException" ∧ h' = h)) : am_Con l yL_asks cdA 21 1 6 [.ref t0, .int 7, .int a, .int b, .int c] h (fun v h' => v = some (.int (-70008)) ∧ h' = h) (fun _ _ => False) := by
  refine am_bodyH hlt (by decide +kernel) (Nat.le_of_ble_eq_true rfl) (fun k hl hR h0 htab => ?_)
  subst hl
  obtain ⟨Qf, hQ⟩ : ∃ Qf, Qf = am_Q k 1 6 (fun v h' => v = some (.int (-70008)) ∧ h' = h) (fun _ _ => False) := ⟨_, rfl⟩
  rw [← hQ]
  refine g_iload_n dL_asks_0 rfl ?_
  refine g_if_ne 13 dL_asks_1 (by decide) (fun _ => ?_) (fun z => absurd z (by decide))
  refine g_iload_n dL_asks_13 rfl ?_
  refine g_iconst (v := 1) dL_asks_14 (by decide) ?_
  refine g_icmp_ne 29 dL_asks_15 (by decide) (fun _ => ?_) (fun z => absurd z (by decide))
  refine g_iload_n dL_asks_29 rfl ?_
  refine g_iconst (v := 2) dL_asks_30 (by decide) ?_
  refine g_icmp_ne 42 dL_asks_31 (by decide) (fun _ => ?_) (fun z => absurd z (by decide))
  refine g_iload_n dL_asks_42 rfl ?_
  refine g_iconst (v := 3) dL_asks_43 (by decide) ?_
  refine g_icmp_ne 58 dL_asks_44 (by decide) (fun _ => ?_) (fun z => absurd z (by decide))
  refine g_iload_n dL_asks_58 rfl ?_
  refine g_iconst (v := 4) dL_asks_59 (by decide) ?_
  refine g_icmp_ne 78 dL_asks_60 (by decide) (fun _ => ?_) (fun z => absurd z (by decide))
  refine g_iload_n dL_asks_78 rfl ?_
  refine g_iconst (v := 5) dL_asks_79 (by decide) ?_
  refine g_icmp_ne 91 dL_asks_80 (by decide) (fun _ => ?_) (fun z => absurd z (by decide))
  refine g_iload_n dL_asks_91 rfl ?_
  refine g_bipush (v := 6) dL_asks_92 (by decide) ?_
  refine g_icmp_ne 105 dL_asks_94 (by decide) (fun _ => ?_) (fun z => absurd z (by decide))
  refine g_iload_n dL_asks_105 rfl ?_
  refine g_bipush (v := 7) dL_asks_106 (by decide) ?_
  refine g_icmp_ne 118 dL_asks_108 (by decide) (fun z => absurd z (by decide)) (fun _ => ?_)
  refine g_aload_n dL_asks_111 rfl ?_
  refine g_callVX [] dL_asks_112 mc_L_44 mi_X4_end se_X4_end hc hk rfl rfl (Nat.le_of_ble_eq_true rfl) (am_rm hR (by decide)) (fun _ _ z => z.elim) (fun E h' q hxx => ?_)
  obtain ⟨rfl, rfl⟩ := hxx
  have hps : ∀ z ∈ ([⟨0, 124, 125, 51⟩, ⟨0, 124, 130, 54⟩] : List ExceptionTableEntry), covers z 112 = false ∨ (z.catchType ≠ 0 ∧ ∃ nm : String, Cond.classLink RL z.catchType nm ∈ am_WS ∧ ∀ U, am_T U → va_Nc "java/lang/IllegalStateException" nm U) := fun z hz => by
    rcases List.mem_cons.mp hz with rfl | hz
    · exact Or.inr ⟨by decide, _, kl_L_51, fun U hU => hU.2.2.2.2.2.2.2.2.2.2⟩
    rcases List.mem_cons.mp hz with rfl | hz
    · exact Or.inr ⟨by decide, _, kl_L_54, fun U hU => hU.2.2.2.2.2.2.2.2.1⟩
    cases hz
  refine ⟨135, ⟨[⟨0, 124, 125, 51⟩, ⟨0, 124, 130, 54⟩], ⟨0, 124, 135, 57⟩, [], htab, hps, by decide, by decide, rfl, kl_L_57, cx_ISE⟩, ?_⟩
  skip
  refine g_astore dL_asks_135 (by decide) rfl ?_
  refine g_ldc dL_asks_137 cn_L_59 ?_
  rw [hQ]
  refine g_iret dL_asks_139 rfl rfl (by decide) (by decide) ?_
  exact ⟨rfl, rfl⟩
set_option maxRecDepth 100000 in
set_option maxHeartbeats 4000000 in
theorem ca_end_0 {l : Launch} (hlt : l.stackTraces = false) {h : am_H} {t0 : Nat} (hk : am_K h t0 = 4 + 1) {a b c : Int32} {mc ms : Nat} {Rr : Int32 → am_H → Prop} (hc : am_Con l yX4_end (.code yX4_end cX4_end 4 (some .int)) 20 mc ms [.ref t0] h (fun v h' => ∃ i : Int32, v = some (.int i) ∧ Rr i h') (fun _ _ => False)) : am_Con l yL_asks cdA 21 mc ms [.ref t0, .int 7, .int a, .int b, .int c] h (fun v h' => ∃ i : Int32, v = some (.int i) ∧ Rr i h') (fun _ _ => False) := by
  refine am_bodyH hlt (by decide +kernel) (Nat.le_of_ble_eq_true rfl) (fun k hl hR h0 htab => ?_)
  subst hl
  obtain ⟨Qf, hQ⟩ : ∃ Qf, Qf = am_Q k mc ms (fun v h' => ∃ i : Int32, v = some (.int i) ∧ Rr i h') (fun _ _ => False) := ⟨_, rfl⟩
  rw [← hQ]
  refine g_iload_n dL_asks_0 rfl ?_
  refine g_if_ne 13 dL_asks_1 (by decide) (fun _ => ?_) (fun z => absurd z (by decide))
  refine g_iload_n dL_asks_13 rfl ?_
  refine g_iconst (v := 1) dL_asks_14 (by decide) ?_
  refine g_icmp_ne 29 dL_asks_15 (by decide) (fun _ => ?_) (fun z => absurd z (by decide))
  refine g_iload_n dL_asks_29 rfl ?_
  refine g_iconst (v := 2) dL_asks_30 (by decide) ?_
  refine g_icmp_ne 42 dL_asks_31 (by decide) (fun _ => ?_) (fun z => absurd z (by decide))
  refine g_iload_n dL_asks_42 rfl ?_
  refine g_iconst (v := 3) dL_asks_43 (by decide) ?_
  refine g_icmp_ne 58 dL_asks_44 (by decide) (fun _ => ?_) (fun z => absurd z (by decide))
  refine g_iload_n dL_asks_58 rfl ?_
  refine g_iconst (v := 4) dL_asks_59 (by decide) ?_
  refine g_icmp_ne 78 dL_asks_60 (by decide) (fun _ => ?_) (fun z => absurd z (by decide))
  refine g_iload_n dL_asks_78 rfl ?_
  refine g_iconst (v := 5) dL_asks_79 (by decide) ?_
  refine g_icmp_ne 91 dL_asks_80 (by decide) (fun _ => ?_) (fun z => absurd z (by decide))
  refine g_iload_n dL_asks_91 rfl ?_
  refine g_bipush (v := 6) dL_asks_92 (by decide) ?_
  refine g_icmp_ne 105 dL_asks_94 (by decide) (fun _ => ?_) (fun z => absurd z (by decide))
  refine g_iload_n dL_asks_105 rfl ?_
  refine g_bipush (v := 7) dL_asks_106 (by decide) ?_
  refine g_icmp_ne 118 dL_asks_108 (by decide) (fun z => absurd z (by decide)) (fun _ => ?_)
  refine g_aload_n dL_asks_111 rfl ?_
  refine g_callV [] dL_asks_112 mc_L_44 mi_X4_end se_X4_end (hc) (hk) rfl rfl (Nat.le_of_ble_eq_true rfl) (am_rm hR ⟨Nat.le_of_ble_eq_true rfl, Nat.le_of_ble_eq_true rfl, Nat.le_of_eq (Nat.zero_add _), Nat.le_of_eq (Nat.zero_add _)⟩) (fun _ _ z => z) (fun v hx hq hE => ?_)
  obtain ⟨i, rfl, hRr⟩ := hq
  refine g_goto 124 dL_asks_115 (by decide) ?_
  rw [hQ]
  refine g_iret dL_asks_124 rfl rfl (by omega) (by omega) ?_
  exact ⟨i, rfl, hRr⟩
set_option maxRecDepth 100000 in
set_option maxHeartbeats 4000000 in
theorem ca_ofDistrict_IOB {l : Launch} (hlt : l.stackTraces = false) {h : am_H} {t0 : Nat} (hk : am_K h t0 = 4 + 1) {a b c : Int32} (hc : am_Con l yX4_ofDistrict (.code yX4_ofDistrict cX4_ofDistrict 4 (some .int)) 20 1 6 [.ref t0, .int a, .int b] h (fun _ _ => False) (fun E h' => E = "java/lang/IndexOutOfBoundsException" ∧ h' = h)) : am_Con l yL_asks cdA 21 1 6 [.ref t0, .int 8, .int a, .int b, .int c] h (fun v h' => v = some (.int (-70007)) ∧ h' = h) (fun _ _ => False) := by
  refine am_bodyH hlt (by decide +kernel) (Nat.le_of_ble_eq_true rfl) (fun k hl hR h0 htab => ?_)
  subst hl
  obtain ⟨Qf, hQ⟩ : ∃ Qf, Qf = am_Q k 1 6 (fun v h' => v = some (.int (-70007)) ∧ h' = h) (fun _ _ => False) := ⟨_, rfl⟩
  rw [← hQ]
  refine g_iload_n dL_asks_0 rfl ?_
  refine g_if_ne 13 dL_asks_1 (by decide) (fun _ => ?_) (fun z => absurd z (by decide))
  refine g_iload_n dL_asks_13 rfl ?_
  refine g_iconst (v := 1) dL_asks_14 (by decide) ?_
  refine g_icmp_ne 29 dL_asks_15 (by decide) (fun _ => ?_) (fun z => absurd z (by decide))
  refine g_iload_n dL_asks_29 rfl ?_
  refine g_iconst (v := 2) dL_asks_30 (by decide) ?_
  refine g_icmp_ne 42 dL_asks_31 (by decide) (fun _ => ?_) (fun z => absurd z (by decide))
  refine g_iload_n dL_asks_42 rfl ?_
  refine g_iconst (v := 3) dL_asks_43 (by decide) ?_
  refine g_icmp_ne 58 dL_asks_44 (by decide) (fun _ => ?_) (fun z => absurd z (by decide))
  refine g_iload_n dL_asks_58 rfl ?_
  refine g_iconst (v := 4) dL_asks_59 (by decide) ?_
  refine g_icmp_ne 78 dL_asks_60 (by decide) (fun _ => ?_) (fun z => absurd z (by decide))
  refine g_iload_n dL_asks_78 rfl ?_
  refine g_iconst (v := 5) dL_asks_79 (by decide) ?_
  refine g_icmp_ne 91 dL_asks_80 (by decide) (fun _ => ?_) (fun z => absurd z (by decide))
  refine g_iload_n dL_asks_91 rfl ?_
  refine g_bipush (v := 6) dL_asks_92 (by decide) ?_
  refine g_icmp_ne 105 dL_asks_94 (by decide) (fun _ => ?_) (fun z => absurd z (by decide))
  refine g_iload_n dL_asks_105 rfl ?_
  refine g_bipush (v := 7) dL_asks_106 (by decide) ?_
  refine g_icmp_ne 118 dL_asks_108 (by decide) (fun _ => ?_) (fun z => absurd z (by decide))
  refine g_aload_n dL_asks_118 rfl ?_
  refine g_iload_n dL_asks_119 rfl ?_
  refine g_iload_n dL_asks_120 rfl ?_
  refine g_callVX [_, _] dL_asks_121 mc_L_48 mi_X4_ofDistrict se_X4_ofDistrict hc hk rfl rfl (Nat.le_of_ble_eq_true rfl) (am_rm hR (by decide)) (fun _ _ z => z.elim) (fun E h' q hxx => ?_)
  obtain ⟨rfl, rfl⟩ := hxx
  have hps : ∀ z ∈ ([] : List ExceptionTableEntry), covers z 121 = false ∨ (z.catchType ≠ 0 ∧ ∃ nm : String, Cond.classLink RL z.catchType nm ∈ am_WS ∧ ∀ U, am_T U → va_Nc "java/lang/IndexOutOfBoundsException" nm U) := fun z hz => by cases hz
  refine ⟨125, ⟨[], ⟨0, 124, 125, 51⟩, [⟨0, 124, 130, 54⟩, ⟨0, 124, 135, 57⟩], htab, hps, by decide, by decide, rfl, kl_L_51, cx_IOB⟩, ?_⟩
  skip
  refine g_astore dL_asks_125 (by decide) rfl ?_
  refine g_ldc dL_asks_127 cn_L_53 ?_
  rw [hQ]
  refine g_iret dL_asks_129 rfl rfl (by decide) (by decide) ?_
  exact ⟨rfl, rfl⟩
set_option maxRecDepth 100000 in
set_option maxHeartbeats 4000000 in
theorem ca_ofDistrict_0 {l : Launch} (hlt : l.stackTraces = false) {h : am_H} {t0 : Nat} (hk : am_K h t0 = 4 + 1) {a b c : Int32} {mc ms : Nat} {Rr : Int32 → am_H → Prop} (hc : am_Con l yX4_ofDistrict (.code yX4_ofDistrict cX4_ofDistrict 4 (some .int)) 20 mc ms [.ref t0, .int a, .int b] h (fun v h' => ∃ i : Int32, v = some (.int i) ∧ Rr i h') (fun _ _ => False)) : am_Con l yL_asks cdA 21 mc ms [.ref t0, .int 8, .int a, .int b, .int c] h (fun v h' => ∃ i : Int32, v = some (.int i) ∧ Rr i h') (fun _ _ => False) := by
  refine am_bodyH hlt (by decide +kernel) (Nat.le_of_ble_eq_true rfl) (fun k hl hR h0 htab => ?_)
  subst hl
  obtain ⟨Qf, hQ⟩ : ∃ Qf, Qf = am_Q k mc ms (fun v h' => ∃ i : Int32, v = some (.int i) ∧ Rr i h') (fun _ _ => False) := ⟨_, rfl⟩
  rw [← hQ]
  refine g_iload_n dL_asks_0 rfl ?_
  refine g_if_ne 13 dL_asks_1 (by decide) (fun _ => ?_) (fun z => absurd z (by decide))
  refine g_iload_n dL_asks_13 rfl ?_
  refine g_iconst (v := 1) dL_asks_14 (by decide) ?_
  refine g_icmp_ne 29 dL_asks_15 (by decide) (fun _ => ?_) (fun z => absurd z (by decide))
  refine g_iload_n dL_asks_29 rfl ?_
  refine g_iconst (v := 2) dL_asks_30 (by decide) ?_
  refine g_icmp_ne 42 dL_asks_31 (by decide) (fun _ => ?_) (fun z => absurd z (by decide))
  refine g_iload_n dL_asks_42 rfl ?_
  refine g_iconst (v := 3) dL_asks_43 (by decide) ?_
  refine g_icmp_ne 58 dL_asks_44 (by decide) (fun _ => ?_) (fun z => absurd z (by decide))
  refine g_iload_n dL_asks_58 rfl ?_
  refine g_iconst (v := 4) dL_asks_59 (by decide) ?_
  refine g_icmp_ne 78 dL_asks_60 (by decide) (fun _ => ?_) (fun z => absurd z (by decide))
  refine g_iload_n dL_asks_78 rfl ?_
  refine g_iconst (v := 5) dL_asks_79 (by decide) ?_
  refine g_icmp_ne 91 dL_asks_80 (by decide) (fun _ => ?_) (fun z => absurd z (by decide))
  refine g_iload_n dL_asks_91 rfl ?_
  refine g_bipush (v := 6) dL_asks_92 (by decide) ?_
  refine g_icmp_ne 105 dL_asks_94 (by decide) (fun _ => ?_) (fun z => absurd z (by decide))
  refine g_iload_n dL_asks_105 rfl ?_
  refine g_bipush (v := 7) dL_asks_106 (by decide) ?_
  refine g_icmp_ne 118 dL_asks_108 (by decide) (fun _ => ?_) (fun z => absurd z (by decide))
  refine g_aload_n dL_asks_118 rfl ?_
  refine g_iload_n dL_asks_119 rfl ?_
  refine g_iload_n dL_asks_120 rfl ?_
  refine g_callV [_, _] dL_asks_121 mc_L_48 mi_X4_ofDistrict se_X4_ofDistrict (hc) (hk) rfl rfl (Nat.le_of_ble_eq_true rfl) (am_rm hR ⟨Nat.le_of_ble_eq_true rfl, Nat.le_of_ble_eq_true rfl, Nat.le_of_eq (Nat.zero_add _), Nat.le_of_eq (Nat.zero_add _)⟩) (fun _ _ z => z) (fun v hx hq hE => ?_)
  obtain ⟨i, rfl, hRr⟩ := hq
  rw [hQ]
  refine g_iret dL_asks_124 rfl rfl (by omega) (by omega) ?_
  exact ⟨i, rfl, hRr⟩
