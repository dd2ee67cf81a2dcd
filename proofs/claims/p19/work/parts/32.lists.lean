theorem WI.len {N n p : Nat} {ord : List Nat} {L : Nat → Nat → Nat} {Γ : Nat → Nat → Nat → Int32} {o : Nat} {h : am_H} (w : WI N n p ord L Γ o h) {t : Nat} (ht : t < 3) : (wls n p ord t).length ≤ 24 := by
  obtain ⟨w0, -⟩ := w
  match t, ht with
  | 0, _ => show (List.range n).length ≤ 24; rw [List.length_range]; omega
  | 1, _ => show ord.length ≤ 24; omega
  | 2, _ => show (List.range p).length ≤ 24; rw [List.length_range]; omega
set_option maxRecDepth 100000 in
set_option maxHeartbeats 4000000 in
theorem c_size {l : Launch} (hlt : l.stackTraces = false) {N n p : Nat} {ord : List Nat} {L : Nat → Nat → Nat} {Γ : Nat → Nat → Nat → Int32} {o : Nat} {h : am_H} (w : WI N n p ord L Γ o h) {t : Nat} (ht : t < 3) : am_Con l yJx4a65c_size_8abf5 (.code yJx4a65c_size_8abf5 cJx4a65c_size_8abf5 1 (some .int)) 1 0 0 [.ref (L 6 t)] h (fun v h' => v = some (.int (nI (wls n p ord t).length)) ∧ h' = h) (fun _ _ => False) := by
  refine am_body hlt (by decide +kernel) (Nat.le_of_ble_eq_true rfl) (fun k hl hR h0 hno => ?_)
  subst hl
  obtain ⟨Qf, hQ⟩ : ∃ Qf, Qf = am_Q k 0 0 (fun v h' => v = some (.int (nI (wls n p ord t).length)) ∧ h' = h) (fun _ _ => False) := ⟨_, rfl⟩
  rw [← hQ]
  have hk : wdm n p o 6 t = true := decide_eq_true ht
  refine g_aload_n dJx4a65c_size_8abf5_0 rfl ?_
  refine g_getI dJx4a65c_size_8abf5_1 fl_AL_48 rfl (w.k hk) ?_
  rw [(w.2.2.2.2.2.2.1 t ht).1]
  rw [hQ]
  refine g_iret dJx4a65c_size_8abf5_4 rfl rfl (by decide) (by decide) ?_
  exact ⟨rfl, rfl⟩
set_option maxRecDepth 100000 in
set_option maxHeartbeats 4000000 in
theorem c_checkIndex3 {l : Launch} (hlt : l.stackTraces = false) {h : am_H} {i m : Nat} (hi : i < m) (hm : m < 2 ^ 31) : am_Con l yJ3_checkIndex_8e157 (.code yJ3_checkIndex_8e157 cJ3_checkIndex_8e157 3 (some .int)) 1 0 0 [.int (nI i), .int (nI m), .null] h (fun v h' => v = some (.int (nI i)) ∧ h' = h) (fun _ _ => False) := by
  refine am_body hlt (by decide +kernel) (Nat.le_of_ble_eq_true rfl) (fun k hl hR h0 hno => ?_)
  subst hl
  obtain ⟨Qf, hQ⟩ : ∃ Qf, Qf = am_Q k 0 0 (fun v h' => v = some (.int (nI i)) ∧ h' = h) (fun _ _ => False) := ⟨_, rfl⟩
  rw [← hQ]
  refine g_iload_n dJ3_checkIndex_8e157_0 rfl ?_
  refine g_if_lt 9 dJ3_checkIndex_8e157_1 (by decide) (fun z => absurd z (nI_pos (by omega))) (fun c_1 => ?_)
  refine g_iload_n dJ3_checkIndex_8e157_4 rfl ?_
  refine g_iload_n dJ3_checkIndex_8e157_5 rfl ?_
  refine gN_lt 16 dJ3_checkIndex_8e157_6 (by decide) (by omega) (by omega) (fun c_6 => ?_) (fun z => absurd hi (by omega))
  refine g_iload_n dJ3_checkIndex_8e157_16 rfl ?_
  rw [hQ]
  refine g_iret dJ3_checkIndex_8e157_17 rfl rfl (by decide) (by decide) ?_
  exact ⟨rfl, rfl⟩
set_option maxRecDepth 100000 in
set_option maxHeartbeats 4000000 in
theorem c_checkIndex {l : Launch} (hlt : l.stackTraces = false) {h : am_H} {i m : Nat} (hi : i < m) (hm : m < 2 ^ 31) : am_Con l yJ15_checkIndex_7cf53 (.code yJ15_checkIndex_7cf53 cJ15_checkIndex_7cf53 2 (some .int)) 2 0 0 [.int (nI i), .int (nI m)] h (fun v h' => v = some (.int (nI i)) ∧ h' = h) (fun _ _ => False) := by
  refine am_body hlt (by decide +kernel) (Nat.le_of_ble_eq_true rfl) (fun k hl hR h0 hno => ?_)
  subst hl
  obtain ⟨Qf, hQ⟩ : ∃ Qf, Qf = am_Q k 0 0 (fun v h' => v = some (.int (nI i)) ∧ h' = h) (fun _ _ => False) := ⟨_, rfl⟩
  rw [← hQ]
  refine g_iload_n dJ15_checkIndex_7cf53_0 rfl ?_
  refine g_iload_n dJ15_checkIndex_7cf53_1 rfl ?_
  refine g_null dJ15_checkIndex_7cf53_2 ?_
  refine g_callS [_, _, _] dJ15_checkIndex_7cf53_3 mc_JO_105 ms_J3_checkIndex_8e157 (c_checkIndex3 hlt hi hm) rfl (Nat.le_of_ble_eq_true rfl) (am_rm hR (by decide)) (fun _ _ z => z) (fun v hx hq hE => ?_)
  obtain ⟨rfl, rfl⟩ := hq
  rw [hQ]
  refine g_iret dJ15_checkIndex_7cf53_6 rfl rfl (by decide) (by decide) ?_
  exact ⟨rfl, rfl⟩
set_option maxRecDepth 100000 in
set_option maxHeartbeats 4000000 in
theorem c_elementData {l : Launch} (hlt : l.stackTraces = false) {N n p : Nat} {ord : List Nat} {L : Nat → Nat → Nat} {Γ : Nat → Nat → Nat → Int32} {o : Nat} {h : am_H} (w : WI N n p ord L Γ o h) {t : Nat} (ht : t < 3) {j : Nat} (hj : j < (wls n p ord t).length) : am_Con l yJx4a65c_elementData_915e3 (.code yJx4a65c_elementData_915e3 cJx4a65c_elementData_915e3 2 (some (.object "java/lang/Object"))) 1 0 0 [.ref (L 6 t), .int (nI j)] h (fun v h' => v = some (.ref (L (wec t) ((wls n p ord t)[j]))) ∧ h' = h) (fun _ _ => False) := by
  refine am_body hlt (by decide +kernel) (Nat.le_of_ble_eq_true rfl) (fun k hl hR h0 hno => ?_)
  subst hl
  obtain ⟨Qf, hQ⟩ : ∃ Qf, Qf = am_Q k 0 0 (fun v h' => v = some (.ref (L (wec t) ((wls n p ord t)[j]))) ∧ h' = h) (fun _ _ => False) := ⟨_, rfl⟩
  rw [← hQ]
  have hk : wdm n p o 6 t = true := decide_eq_true ht
  have hlen := w.len ht
  obtain ⟨l1, l2, l3, l4, -⟩ := w.2.2.2.2.2.2.1 t ht
  have l3' : am_K h (L 7 t) = 13 ∧ (wls n p ord t).length ≤ am_N h (L 7 t) ∧ am_N h (L 7 t) ≤ 100 := by
    rcases l3 with z | ⟨-, z, -⟩
    · exact z
    · rw [z] at hj
      exact absurd hj (Nat.not_lt_zero _)
  refine g_aload_n dJx4a65c_elementData_915e3_0 rfl ?_
  refine g_getR dJx4a65c_elementData_915e3_1 fl_AL_9 rfl (w.k hk) l2 ?_
  refine g_iload_n dJx4a65c_elementData_915e3_4 rfl ?_
  refine g_oald dJx4a65c_elementData_915e3_5 l3'.1 (vp_in_nI (by omega) (by omega)) ?_
  rw [nI_clamp (by omega), l4 j hj]
  rw [hQ]
  exact g_aret (r := some _) dJx4a65c_elementData_915e3_6 rfl (Or.inl ⟨_, rfl⟩) (by decide) (by decide) ⟨rfl, rfl⟩
set_option maxRecDepth 100000 in
set_option maxHeartbeats 4000000 in
theorem c_get {l : Launch} (hlt : l.stackTraces = false) {N n p : Nat} {ord : List Nat} {L : Nat → Nat → Nat} {Γ : Nat → Nat → Nat → Int32} {o : Nat} {h : am_H} (w : WI N n p ord L Γ o h) {t : Nat} (ht : t < 3) {j : Nat} (hj : j < (wls n p ord t).length) : am_Con l yJx4a65c_get_915e3 (.code yJx4a65c_get_915e3 cJx4a65c_get_915e3 2 (some (.object "java/lang/Object"))) 3 0 0 [.ref (L 6 t), .int (nI j)] h (fun v h' => v = some (.ref (L (wec t) ((wls n p ord t)[j]))) ∧ h' = h) (fun _ _ => False) := by
  refine am_body hlt (by decide +kernel) (Nat.le_of_ble_eq_true rfl) (fun k hl hR h0 hno => ?_)
  subst hl
  obtain ⟨Qf, hQ⟩ : ∃ Qf, Qf = am_Q k 0 0 (fun v h' => v = some (.ref (L (wec t) ((wls n p ord t)[j]))) ∧ h' = h) (fun _ _ => False) := ⟨_, rfl⟩
  rw [← hQ]
  have hk : wdm n p o 6 t = true := decide_eq_true ht
  have hlen := w.len ht
  refine g_iload_n dJx4a65c_get_915e3_0 rfl ?_
  refine g_aload_n dJx4a65c_get_915e3_1 rfl ?_
  refine g_getI dJx4a65c_get_915e3_2 fl_AL_48 rfl (w.k hk) ?_
  rw [(w.2.2.2.2.2.2.1 t ht).1]
  refine g_callS [_, _] dJx4a65c_get_915e3_5 mc_AL_118 ms_J15_checkIndex_7cf53 (c_checkIndex hlt hj (by omega)) rfl (Nat.le_of_ble_eq_true rfl) (am_rm hR (by decide)) (fun _ _ z => z) (fun v hx hq hE => ?_)
  obtain ⟨rfl, rfl⟩ := hq
  refine g_pop dJx4a65c_get_915e3_8 rfl ?_
  refine g_aload_n dJx4a65c_get_915e3_9 rfl ?_
  refine g_iload_n dJx4a65c_get_915e3_10 rfl ?_
  refine g_callV [_] dJx4a65c_get_915e3_11 mc_AL_123 mi_Jx4a65c_elementData_915e3 se_Jx4a65c_elementData_915e3 (c_elementData hlt w ht hj) (w.k (by first | rfl | assumption)) rfl rfl (Nat.le_of_ble_eq_true rfl) (am_rm hR (by decide)) (fun _ _ z => z) (fun v hx hq hE => ?_)
  obtain ⟨rfl, rfl⟩ := hq
  rw [hQ]
  exact g_aret (r := some _) dJx4a65c_get_915e3_14 rfl (Or.inl ⟨_, rfl⟩) (by decide) (by decide) ⟨rfl, rfl⟩
theorem c_get0 {l : Launch} (hlt : l.stackTraces = false) {N n p : Nat} {ord : List Nat} {L : Nat → Nat → Nat} {Γ : Nat → Nat → Nat → Int32} {o : Nat} {h : am_H} (w : WI N n p ord L Γ o h) {j : Nat} (hj : j < n) : am_Con l yJx4a65c_get_915e3 (.code yJx4a65c_get_915e3 cJx4a65c_get_915e3 2 (some (.object "java/lang/Object"))) 3 0 0 [.ref (L 6 0), .int (nI j)] h (fun v h' => v = some (.ref (L 2 j)) ∧ h' = h) (fun _ _ => False) := by
  have := c_get hlt w (t := 0) (by decide) (j := j) (by show j < (List.range n).length; rw [List.length_range]; exact hj)
  simpa [wls, wec] using this
theorem c_get2 {l : Launch} (hlt : l.stackTraces = false) {N n p : Nat} {ord : List Nat} {L : Nat → Nat → Nat} {Γ : Nat → Nat → Nat → Int32} {o : Nat} {h : am_H} (w : WI N n p ord L Γ o h) {j : Nat} (hj : j < p) : am_Con l yJx4a65c_get_915e3 (.code yJx4a65c_get_915e3 cJx4a65c_get_915e3 2 (some (.object "java/lang/Object"))) 3 0 0 [.ref (L 6 2), .int (nI j)] h (fun v h' => v = some (.ref (L 4 j)) ∧ h' = h) (fun _ _ => False) := by
  have := c_get hlt w (t := 2) (by decide) (j := j) (by show j < (List.range p).length; rw [List.length_range]; exact hj)
  simpa [wls, wec] using this
theorem c_get1 {l : Launch} (hlt : l.stackTraces = false) {N n p : Nat} {ord : List Nat} {L : Nat → Nat → Nat} {Γ : Nat → Nat → Nat → Int32} {o : Nat} {h : am_H} (w : WI N n p ord L Γ o h) {j : Nat} (hj : j < ord.length) : am_Con l yJx4a65c_get_915e3 (.code yJx4a65c_get_915e3 cJx4a65c_get_915e3 2 (some (.object "java/lang/Object"))) 3 0 0 [.ref (L 6 1), .int (nI j)] h (fun v h' => v = some (.ref (L 2 (ord.getD j 0))) ∧ h' = h) (fun _ _ => False) := by
  have := c_get hlt w (t := 1) (by decide) (j := j) hj
  rw [show ord.getD j 0 = ord[j] from by rw [List.getD_eq_getElem?_getD, List.getElem?_eq_getElem hj]; rfl]
  exact this
theorem c_size0 {l : Launch} (hlt : l.stackTraces = false) {N n p : Nat} {ord : List Nat} {L : Nat → Nat → Nat} {Γ : Nat → Nat → Nat → Int32} {o : Nat} {h : am_H} (w : WI N n p ord L Γ o h) : am_Con l yJx4a65c_size_8abf5 (.code yJx4a65c_size_8abf5 cJx4a65c_size_8abf5 1 (some .int)) 1 0 0 [.ref (L 6 0)] h (fun v h' => v = some (.int (nI n)) ∧ h' = h) (fun _ _ => False) := by
  have := c_size hlt w (t := 0) (by decide)
  simpa [wls] using this
theorem c_size1 {l : Launch} (hlt : l.stackTraces = false) {N n p : Nat} {ord : List Nat} {L : Nat → Nat → Nat} {Γ : Nat → Nat → Nat → Int32} {o : Nat} {h : am_H} (w : WI N n p ord L Γ o h) : am_Con l yJx4a65c_size_8abf5 (.code yJx4a65c_size_8abf5 cJx4a65c_size_8abf5 1 (some .int)) 1 0 0 [.ref (L 6 1)] h (fun v h' => v = some (.int (nI ord.length)) ∧ h' = h) (fun _ _ => False) := c_size hlt w (t := 1) (by decide)
theorem c_size2 {l : Launch} (hlt : l.stackTraces = false) {N n p : Nat} {ord : List Nat} {L : Nat → Nat → Nat} {Γ : Nat → Nat → Nat → Int32} {o : Nat} {h : am_H} (w : WI N n p ord L Γ o h) : am_Con l yJx4a65c_size_8abf5 (.code yJx4a65c_size_8abf5 cJx4a65c_size_8abf5 1 (some .int)) 1 0 0 [.ref (L 6 2)] h (fun v h' => v = some (.int (nI p)) ∧ h' = h) (fun _ _ => False) := by
  have := c_size hlt w (t := 2) (by decide)
  simpa [wls] using this
