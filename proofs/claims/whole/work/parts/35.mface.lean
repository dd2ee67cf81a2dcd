theorem sp_in1 {a lo hi : Int32} (h1 : ¬ a < lo) (h2 : a ≤ hi) : sp_in a lo hi = 1 := by
  unfold sp_in
  rw [if_neg h1, if_neg (Int32.not_lt.mpr h2)]
theorem sp_in0 {a lo hi : Int32} (h : a < lo ∨ ¬ a ≤ hi) : sp_in a lo hi = 0 := by
  unfold sp_in
  rcases h with h | h
  · rw [if_pos h]
  · rw [if_pos (Int32.not_le.mp h)]
    split <;> rfl
theorem sp_inD1 {i b : Nat} (hi : i < b) (hb : b ≤ 1000) : sp_in (nI i) 0 (nI b - 1) = 1 := by
  obtain ⟨c, rfl⟩ : ∃ c, b = c + 1 := ⟨b - 1, by omega⟩
  rw [nI_pred]
  exact sp_in1 (nI_pos (by omega)) (nI_le (by omega) (by omega))
theorem sp_inD0 {a : Int32} {b : Nat} (hb : b ≤ 1000) (h : a < 0 ∨ nI b ≤ a) : sp_in a 0 (nI b - 1) = 0 := by
  apply sp_in0
  rcases h with h | h
  · exact Or.inl h
  · right
    intro z
    match b, hb with
    | 0, _ =>
      have z1 : a.toInt ≤ -1 := Int32.le_iff_toInt_le.mp z
      have z2 : (0 : Int) ≤ a.toInt := Int32.le_iff_toInt_le.mp h
      omega
    | c + 1, hc =>
      rw [nI_pred, Int32.le_iff_toInt_le, nI_toInt (by omega)] at z
      rw [Int32.le_iff_toInt_le, nI_toInt (by omega)] at h
      omega
theorem c_X5_can_0 {l : Launch} (hlt : l.stackTraces = false) {N n p : Nat} {ord : List Nat} {L : Nat → Nat → Nat} {Γ : Nat → Nat → Nat → Int32} {o : Int64} {h : am_H} (w : WI N n p ord L Γ o h) : am_Con l yX5_can (.code yX5_can cX5_can 2 (some .boolean)) 1 0 0 [.ref (L 11 0), .int 0] h (fun v h' => v = some (.int 1) ∧ WI N n p ord L (u3 Γ 11 0 34 0) o h') (fun _ _ => False) := c_X5_can hlt w 0
theorem c_X5_can_1 {l : Launch} (hlt : l.stackTraces = false) {N n p : Nat} {ord : List Nat} {L : Nat → Nat → Nat} {Γ : Nat → Nat → Nat → Int32} {o : Int64} {h : am_H} (w : WI N n p ord L Γ o h) {a : Int32} (ha : ¬ a = 0) : am_Con l yX5_can (.code yX5_can cX5_can 2 (some .boolean)) 1 0 0 [.ref (L 11 0), .int a] h (fun v h' => v = some (.int 0) ∧ WI N n p ord L (u3 Γ 11 0 34 a) o h') (fun _ _ => False) := by
  have := c_X5_can hlt w a
  rw [if_neg ha] at this
  exact this
theorem c_X5_isIn_1 {l : Launch} (hlt : l.stackTraces = false) {h : am_H} {a lo hi : Int32} (h1 : ¬ a < lo) (h2 : a ≤ hi) : am_Con l yX5_isIn (.code yX5_isIn cX5_isIn 3 (some .boolean)) 1 0 0 [.int a, .int lo, .int hi] h (fun v h' => v = some (.int 1) ∧ h' = h) (fun _ _ => False) := by
  have := c_X5_isIn hlt (h := h) a lo hi
  rw [sp_in1 h1 h2] at this
  exact this
theorem c_X5_isIn_0 {l : Launch} (hlt : l.stackTraces = false) {h : am_H} {a lo hi : Int32} (hb : a < lo ∨ ¬ a ≤ hi) : am_Con l yX5_isIn (.code yX5_isIn cX5_isIn 3 (some .boolean)) 1 0 0 [.int a, .int lo, .int hi] h (fun v h' => v = some (.int 0) ∧ h' = h) (fun _ _ => False) := by
  have := c_X5_isIn hlt (h := h) a lo hi
  rw [sp_in0 hb] at this
  exact this
theorem c_X5_isD_1 {l : Launch} (hlt : l.stackTraces = false) {N n p : Nat} {ord : List Nat} {L : Nat → Nat → Nat} {Γ : Nat → Nat → Nat → Int32} {o : Int64} {h : am_H} (w : WI N n p ord L Γ o h) {b : Nat} (hb : b ≤ 8) (en : Γ 11 0 3 = nI b) {i : Nat} (hi : i < b) : am_Con l yX5_isDistrict (.code yX5_isDistrict cX5_isDistrict 2 (some .boolean)) 2 0 0 [.ref (L 11 0), .int (nI i)] h (fun v h' => v = some (.int 1) ∧ h' = h) (fun _ _ => False) := by
  have := c_X5_isDistrict hlt w (nI i)
  rw [en, sp_inD1 hi (by omega)] at this
  exact this
theorem c_X5_isD_0 {l : Launch} (hlt : l.stackTraces = false) {N n p : Nat} {ord : List Nat} {L : Nat → Nat → Nat} {Γ : Nat → Nat → Nat → Int32} {o : Int64} {h : am_H} (w : WI N n p ord L Γ o h) {b : Nat} (hb : b ≤ 8) (en : Γ 11 0 3 = nI b) {a : Int32} (ha : a < 0 ∨ nI b ≤ a) : am_Con l yX5_isDistrict (.code yX5_isDistrict cX5_isDistrict 2 (some .boolean)) 2 0 0 [.ref (L 11 0), .int a] h (fun v h' => v = some (.int 0) ∧ h' = h) (fun _ _ => False) := by
  have := c_X5_isDistrict hlt w a
  rw [en, sp_inD0 (by omega) ha] at this
  exact this
theorem c_X5_isP_1 {l : Launch} (hlt : l.stackTraces = false) {N n p : Nat} {ord : List Nat} {L : Nat → Nat → Nat} {Γ : Nat → Nat → Nat → Int32} {o : Int64} {h : am_H} (w : WI N n p ord L Γ o h) {q : Nat} (hq0 : q ≤ 24) (ep : Γ 11 0 24 = nI q) {i : Nat} (hi : i < q) : am_Con l yX5_isPipe (.code yX5_isPipe cX5_isPipe 2 (some .boolean)) 2 0 0 [.ref (L 11 0), .int (nI i)] h (fun v h' => v = some (.int 1) ∧ h' = h) (fun _ _ => False) := by
  have := c_X5_isPipe hlt w (nI i)
  rw [ep, sp_inD1 hi (by omega)] at this
  exact this
theorem c_X5_isP_0 {l : Launch} (hlt : l.stackTraces = false) {N n p : Nat} {ord : List Nat} {L : Nat → Nat → Nat} {Γ : Nat → Nat → Nat → Int32} {o : Int64} {h : am_H} (w : WI N n p ord L Γ o h) {q : Nat} (hq0 : q ≤ 24) (ep : Γ 11 0 24 = nI q) {a : Int32} (ha : a < 0 ∨ nI q ≤ a) : am_Con l yX5_isPipe (.code yX5_isPipe cX5_isPipe 2 (some .boolean)) 2 0 0 [.ref (L 11 0), .int a] h (fun v h' => v = some (.int 0) ∧ h' = h) (fun _ _ => False) := by
  have := c_X5_isPipe hlt w a
  rw [ep, sp_inD0 (by omega) ha] at this
  exact this
set_option maxRecDepth 100000 in
set_option maxHeartbeats 4000000 in
theorem c_X5_need_1 {l : Launch} (hlt : l.stackTraces = false) {N n p : Nat} {ord : List Nat} {L : Nat → Nat → Nat} {Γ : Nat → Nat → Nat → Int32} {o : Int64} {h : am_H} (w : WI N n p ord L Γ o h) {b : Nat} (hb : b ≤ 8) (en : Γ 11 0 3 = nI b) {x a : Int32} (hx9 : x < 0 ∨ nI b ≤ x) : am_Con l yX5_need (.code yX5_need cX5_need 4 (some .int)) 20 0 0 [.ref (L 11 0), .int x, .int a] h (fun v h' => v = some (.int 0) ∧ WI N n p ord L (u3 Γ 11 0 34 1) o h') (fun _ _ => False) := by
  refine am_body hlt (by decide +kernel) (Nat.le_of_ble_eq_true rfl) (fun k hl hR h0 hno => ?_)
  subst hl
  obtain ⟨Qf, hQ⟩ : ∃ Qf, Qf = am_Q k 0 0 (fun v h' => v = some (.int 0) ∧ WI N n p ord L (u3 Γ 11 0 34 1) o h') (fun _ _ => False) := ⟨_, rfl⟩
  rw [← hQ]
  have hm : wdm n p 11 0 = true := rfl
  refine g_aload_n dX5_need_0 rfl ?_
  refine g_aload_n dX5_need_1 rfl ?_
  refine g_iload_n dX5_need_2 rfl ?_
  refine g_callV [_] dX5_need_3 mc_X5_107 mi_X5_isDistrict se_X5_isDistrict (c_X5_isD_0 hlt w hb en (by assumption)) (w.k (by first | rfl | assumption)) rfl rfl (Nat.le_of_ble_eq_true rfl) (am_rm hR (by decide)) (fun _ _ z => z) (fun v hx hq hE => ?_)
  obtain ⟨rfl, rfl⟩ := hq
  refine g_if_ne 13 dX5_need_6 (by decide) (fun z => absurd z (by decide)) (fun _ => ?_)
  refine g_iconst (v := 1) dX5_need_9 (by decide) ?_
  refine g_goto 29 dX5_need_10 (by decide) ?_
  refine g_callV [_] dX5_need_29 mc_X5_103 mi_X5_can se_X5_can (c_X5_can_1 hlt w (a := 1) (by decide)) (w.k (by first | rfl | assumption)) rfl rfl (Nat.le_of_ble_eq_true rfl) (am_rm hR (by decide)) (fun _ _ z => z) (fun v hx hq hE => ?_)
  obtain ⟨rfl, w1⟩ := hq
  obtain ⟨Γ1, hG⟩ : ∃ G, G = u3 Γ 11 0 34 1 := ⟨_, rfl⟩
  rw [← hG] at w1
  have en1 : Γ1 11 0 3 = Γ 11 0 3 := by rw [hG]; rfl
  have ep1 : Γ1 11 0 24 = Γ 11 0 24 := by rw [hG]; rfl
  refine g_if_ne 37 dX5_need_32 (by decide) (fun z => absurd z (by decide)) (fun _ => ?_)
  refine g_iconst (v := 0) dX5_need_35 (by decide) ?_
  rw [hQ]
  refine g_iret dX5_need_36 rfl rfl (by decide) (by decide) ?_
  subst hG
  exact ⟨by first | rfl | simp [u3_ap], by first | exact w1 | simpa [u3_ap] using w1⟩
set_option maxRecDepth 100000 in
set_option maxHeartbeats 4000000 in
theorem c_X5_need_2 {l : Launch} (hlt : l.stackTraces = false) {N n p : Nat} {ord : List Nat} {L : Nat → Nat → Nat} {Γ : Nat → Nat → Nat → Int32} {o : Int64} {h : am_H} (w : WI N n p ord L Γ o h) {b : Nat} (hb : b ≤ 8) (en : Γ 11 0 3 = nI b) {i : Nat} (hi : i < b) {a : Int32} (ab : a < 0 ∨ ¬ a ≤ 999) : am_Con l yX5_need (.code yX5_need cX5_need 4 (some .int)) 20 0 0 [.ref (L 11 0), .int (nI i), .int a] h (fun v h' => v = some (.int 0) ∧ WI N n p ord L (u3 Γ 11 0 34 2) o h') (fun _ _ => False) := by
  refine am_body hlt (by decide +kernel) (Nat.le_of_ble_eq_true rfl) (fun k hl hR h0 hno => ?_)
  subst hl
  obtain ⟨Qf, hQ⟩ : ∃ Qf, Qf = am_Q k 0 0 (fun v h' => v = some (.int 0) ∧ WI N n p ord L (u3 Γ 11 0 34 2) o h') (fun _ _ => False) := ⟨_, rfl⟩
  rw [← hQ]
  have hm : wdm n p 11 0 = true := rfl
  refine g_aload_n dX5_need_0 rfl ?_
  refine g_aload_n dX5_need_1 rfl ?_
  refine g_iload_n dX5_need_2 rfl ?_
  refine g_callV [_] dX5_need_3 mc_X5_107 mi_X5_isDistrict se_X5_isDistrict (c_X5_isD_1 hlt w hb en (by assumption)) (w.k (by first | rfl | assumption)) rfl rfl (Nat.le_of_ble_eq_true rfl) (am_rm hR (by decide)) (fun _ _ z => z) (fun v hx hq hE => ?_)
  obtain ⟨rfl, rfl⟩ := hq
  refine g_if_ne 13 dX5_need_6 (by decide) (fun _ => ?_) (fun z => absurd z (by decide))
  refine g_iload_n dX5_need_13 rfl ?_
  refine g_iconst (v := 0) dX5_need_14 (by decide) ?_
  refine g_sipush (v := 999) dX5_need_15 (by decide) ?_
  refine g_callS [_, _, _] dX5_need_18 mc_X5_96 ms_X5_isIn (c_X5_isIn_0 hlt ab) rfl (Nat.le_of_ble_eq_true rfl) (am_rm hR (by decide)) (fun _ _ z => z) (fun v hx hq hE => ?_)
  obtain ⟨rfl, rfl⟩ := hq
  refine g_if_eq 28 dX5_need_21 (by decide) (fun _ => ?_) (fun z => absurd z (by decide))
  refine g_iconst (v := 2) dX5_need_28 (by decide) ?_
  refine g_callV [_] dX5_need_29 mc_X5_103 mi_X5_can se_X5_can (c_X5_can_1 hlt w (a := 2) (by decide)) (w.k (by first | rfl | assumption)) rfl rfl (Nat.le_of_ble_eq_true rfl) (am_rm hR (by decide)) (fun _ _ z => z) (fun v hx hq hE => ?_)
  obtain ⟨rfl, w1⟩ := hq
  obtain ⟨Γ1, hG⟩ : ∃ G, G = u3 Γ 11 0 34 2 := ⟨_, rfl⟩
  rw [← hG] at w1
  have en1 : Γ1 11 0 3 = Γ 11 0 3 := by rw [hG]; rfl
  have ep1 : Γ1 11 0 24 = Γ 11 0 24 := by rw [hG]; rfl
  refine g_if_ne 37 dX5_need_32 (by decide) (fun z => absurd z (by decide)) (fun _ => ?_)
  refine g_iconst (v := 0) dX5_need_35 (by decide) ?_
  rw [hQ]
  refine g_iret dX5_need_36 rfl rfl (by decide) (by decide) ?_
  subst hG
  exact ⟨by first | rfl | simp [u3_ap], by first | exact w1 | simpa [u3_ap] using w1⟩
set_option maxRecDepth 100000 in
set_option maxHeartbeats 4000000 in
theorem c_X5_need_0 {l : Launch} (hlt : l.stackTraces = false) {N n p : Nat} {ord : List Nat} {L : Nat → Nat → Nat} {Γ : Nat → Nat → Nat → Int32} {o : Int64} {h : am_H} (w : WI N n p ord L Γ o h) {b : Nat} (hb : b ≤ 8) (en : Γ 11 0 3 = nI b) {i : Nat} (hi : i < b) {a : Int32} (a1 : ¬ a < 0) (a2 : a ≤ 999) : am_Con l yX5_need (.code yX5_need cX5_need 4 (some .int)) 20 0 0 [.ref (L 11 0), .int (nI i), .int a] h (fun v h' => v = some (.int (Γ 12 5 i)) ∧ WI N n p ord L (u3 (u3 Γ 11 0 34 0) 12 5 i a) o h') (fun _ _ => False) := by
  refine am_body hlt (by decide +kernel) (Nat.le_of_ble_eq_true rfl) (fun k hl hR h0 hno => ?_)
  subst hl
  obtain ⟨Qf, hQ⟩ : ∃ Qf, Qf = am_Q k 0 0 (fun v h' => v = some (.int (Γ 12 5 i)) ∧ WI N n p ord L (u3 (u3 Γ 11 0 34 0) 12 5 i a) o h') (fun _ _ => False) := ⟨_, rfl⟩
  rw [← hQ]
  have hm : wdm n p 11 0 = true := rfl
  refine g_aload_n dX5_need_0 rfl ?_
  refine g_aload_n dX5_need_1 rfl ?_
  refine g_iload_n dX5_need_2 rfl ?_
  refine g_callV [_] dX5_need_3 mc_X5_107 mi_X5_isDistrict se_X5_isDistrict (c_X5_isD_1 hlt w hb en (by assumption)) (w.k (by first | rfl | assumption)) rfl rfl (Nat.le_of_ble_eq_true rfl) (am_rm hR (by decide)) (fun _ _ z => z) (fun v hx hq hE => ?_)
  obtain ⟨rfl, rfl⟩ := hq
  refine g_if_ne 13 dX5_need_6 (by decide) (fun _ => ?_) (fun z => absurd z (by decide))
  refine g_iload_n dX5_need_13 rfl ?_
  refine g_iconst (v := 0) dX5_need_14 (by decide) ?_
  refine g_sipush (v := 999) dX5_need_15 (by decide) ?_
  refine g_callS [_, _, _] dX5_need_18 mc_X5_96 ms_X5_isIn (c_X5_isIn_1 hlt a1 a2) rfl (Nat.le_of_ble_eq_true rfl) (am_rm hR (by decide)) (fun _ _ z => z) (fun v hx hq hE => ?_)
  obtain ⟨rfl, rfl⟩ := hq
  refine g_if_eq 28 dX5_need_21 (by decide) (fun z => absurd z (by decide)) (fun _ => ?_)
  refine g_iconst (v := 0) dX5_need_24 (by decide) ?_
  refine g_goto 29 dX5_need_25 (by decide) ?_
  refine g_callV [_] dX5_need_29 mc_X5_103 mi_X5_can se_X5_can (c_X5_can_0 hlt w) (w.k (by first | rfl | assumption)) rfl rfl (Nat.le_of_ble_eq_true rfl) (am_rm hR (by decide)) (fun _ _ z => z) (fun v hx hq hE => ?_)
  obtain ⟨rfl, w1⟩ := hq
  obtain ⟨Γ1, hG⟩ : ∃ G, G = u3 Γ 11 0 34 0 := ⟨_, rfl⟩
  rw [← hG] at w1
  have en1 : Γ1 11 0 3 = Γ 11 0 3 := by rw [hG]; rfl
  have ep1 : Γ1 11 0 24 = Γ 11 0 24 := by rw [hG]; rfl
  refine g_if_ne 37 dX5_need_32 (by decide) (fun _ => ?_) (fun z => absurd z (by decide))
  refine g_aload_n dX5_need_37 rfl ?_
  refine w_getR w1 dX5_need_38 fl_X5_13 rfl rfl (by first | rfl | assumption) rfl ?_
  refine g_iload_n dX5_need_41 rfl ?_
  refine w_ald w1 dX5_need_42 (by decide) (by first | rfl | assumption) (by first | assumption | omega | (show _ < 8; omega) | (show _ < 24; omega) | (show _ < 9; omega)) ?_
  refine g_istore_n dX5_need_43 (by decide) rfl ?_
  refine g_aload_n dX5_need_44 rfl ?_
  refine w_getR w1 dX5_need_45 fl_X5_13 rfl rfl (by first | rfl | assumption) rfl ?_
  refine g_iload_n dX5_need_48 rfl ?_
  refine g_iload_n dX5_need_49 rfl ?_
  refine w_ast w1 dX5_need_50 (by decide) (by first | rfl | assumption) (by first | assumption | omega | (show _ < 8; omega) | (show _ < 24; omega) | (show _ < 9; omega)) (fun h2 w2 => ?_)
  refine g_iload_n dX5_need_51 rfl ?_
  rw [hQ]
  refine g_iret dX5_need_52 rfl rfl (by decide) (by decide) ?_
  subst hG
  exact ⟨by first | rfl | simp [u3_ap], by first | exact w2 | simpa [u3_ap] using w2⟩
set_option maxRecDepth 100000 in
set_option maxHeartbeats 4000000 in
theorem c_X5_source_1 {l : Launch} (hlt : l.stackTraces = false) {N n p : Nat} {ord : List Nat} {L : Nat → Nat → Nat} {Γ : Nat → Nat → Nat → Int32} {o : Int64} {h : am_H} (w : WI N n p ord L Γ o h)  {a : Int32} (ab : a < 0 ∨ ¬ a ≤ 9999) : am_Con l yX5_source (.code yX5_source cX5_source 3 (some .int)) 20 0 0 [.ref (L 11 0), .int a] h (fun v h' => v = some (.int 0) ∧ WI N n p ord L (u3 Γ 11 0 34 1) o h') (fun _ _ => False) := by
  refine am_body hlt (by decide +kernel) (Nat.le_of_ble_eq_true rfl) (fun k hl hR h0 hno => ?_)
  subst hl
  obtain ⟨Qf, hQ⟩ : ∃ Qf, Qf = am_Q k 0 0 (fun v h' => v = some (.int 0) ∧ WI N n p ord L (u3 Γ 11 0 34 1) o h') (fun _ _ => False) := ⟨_, rfl⟩
  rw [← hQ]
  have hm : wdm n p 11 0 = true := rfl
  refine g_aload_n dX5_source_0 rfl ?_
  refine g_iload_n dX5_source_1 rfl ?_
  refine g_iconst (v := 0) dX5_source_2 (by decide) ?_
  refine g_sipush (v := 9999) dX5_source_3 (by decide) ?_
  refine g_callS [_, _, _] dX5_source_6 mc_X5_96 ms_X5_isIn (c_X5_isIn_0 hlt ab) rfl (Nat.le_of_ble_eq_true rfl) (am_rm hR (by decide)) (fun _ _ z => z) (fun v hx hq hE => ?_)
  obtain ⟨rfl, rfl⟩ := hq
  refine g_if_ne 16 dX5_source_9 (by decide) (fun z => absurd z (by decide)) (fun _ => ?_)
  refine g_iconst (v := 1) dX5_source_12 (by decide) ?_
  refine g_goto 29 dX5_source_13 (by decide) ?_
  refine g_callV [_] dX5_source_29 mc_X5_103 mi_X5_can se_X5_can (c_X5_can_1 hlt w (a := 1) (by decide)) (w.k (by first | rfl | assumption)) rfl rfl (Nat.le_of_ble_eq_true rfl) (am_rm hR (by decide)) (fun _ _ z => z) (fun v hx hq hE => ?_)
  obtain ⟨rfl, w1⟩ := hq
  obtain ⟨Γ1, hG⟩ : ∃ G, G = u3 Γ 11 0 34 1 := ⟨_, rfl⟩
  rw [← hG] at w1
  have en1 : Γ1 11 0 3 = Γ 11 0 3 := by rw [hG]; rfl
  have ep1 : Γ1 11 0 24 = Γ 11 0 24 := by rw [hG]; rfl
  refine g_if_ne 37 dX5_source_32 (by decide) (fun z => absurd z (by decide)) (fun _ => ?_)
  refine g_iconst (v := 0) dX5_source_35 (by decide) ?_
  rw [hQ]
  refine g_iret dX5_source_36 rfl rfl (by decide) (by decide) ?_
  subst hG
  exact ⟨by first | rfl | simp [u3_ap], by first | exact w1 | simpa [u3_ap] using w1⟩
set_option maxRecDepth 100000 in
set_option maxHeartbeats 4000000 in
theorem c_X5_source_2 {l : Launch} (hlt : l.stackTraces = false) {N n p : Nat} {ord : List Nat} {L : Nat → Nat → Nat} {Γ : Nat → Nat → Nat → Int32} {o : Int64} {h : am_H} (w : WI N n p ord L Γ o h)  {a : Int32} (a1 : ¬ a < 0) (a2 : a ≤ 9999) (hf : Γ 11 0 1 = -1) : am_Con l yX5_source (.code yX5_source cX5_source 3 (some .int)) 20 0 0 [.ref (L 11 0), .int a] h (fun v h' => v = some (.int 0) ∧ WI N n p ord L (u3 Γ 11 0 34 2) o h') (fun _ _ => False) := by
  refine am_body hlt (by decide +kernel) (Nat.le_of_ble_eq_true rfl) (fun k hl hR h0 hno => ?_)
  subst hl
  obtain ⟨Qf, hQ⟩ : ∃ Qf, Qf = am_Q k 0 0 (fun v h' => v = some (.int 0) ∧ WI N n p ord L (u3 Γ 11 0 34 2) o h') (fun _ _ => False) := ⟨_, rfl⟩
  rw [← hQ]
  have hm : wdm n p 11 0 = true := rfl
  refine g_aload_n dX5_source_0 rfl ?_
  refine g_iload_n dX5_source_1 rfl ?_
  refine g_iconst (v := 0) dX5_source_2 (by decide) ?_
  refine g_sipush (v := 9999) dX5_source_3 (by decide) ?_
  refine g_callS [_, _, _] dX5_source_6 mc_X5_96 ms_X5_isIn (c_X5_isIn_1 hlt a1 a2) rfl (Nat.le_of_ble_eq_true rfl) (am_rm hR (by decide)) (fun _ _ z => z) (fun v hx hq hE => ?_)
  obtain ⟨rfl, rfl⟩ := hq
  refine g_if_ne 16 dX5_source_9 (by decide) (fun _ => ?_) (fun z => absurd z (by decide))
  refine g_aload_n dX5_source_16 rfl ?_
  refine w_getI w dX5_source_17 fl_X5_110 rfl rfl (by first | rfl | assumption) ?_
  refine g_iconst (v := (-1)) dX5_source_20 (by decide) ?_
  refine g_icmp_ne 28 dX5_source_21 (by decide) (fun z => absurd hf z) (fun c_21 => ?_)
  refine g_iconst (v := 2) dX5_source_24 (by decide) ?_
  refine g_goto 29 dX5_source_25 (by decide) ?_
  refine g_callV [_] dX5_source_29 mc_X5_103 mi_X5_can se_X5_can (c_X5_can_1 hlt w (a := 2) (by decide)) (w.k (by first | rfl | assumption)) rfl rfl (Nat.le_of_ble_eq_true rfl) (am_rm hR (by decide)) (fun _ _ z => z) (fun v hx hq hE => ?_)
  obtain ⟨rfl, w1⟩ := hq
  obtain ⟨Γ1, hG⟩ : ∃ G, G = u3 Γ 11 0 34 2 := ⟨_, rfl⟩
  rw [← hG] at w1
  have en1 : Γ1 11 0 3 = Γ 11 0 3 := by rw [hG]; rfl
  have ep1 : Γ1 11 0 24 = Γ 11 0 24 := by rw [hG]; rfl
  refine g_if_ne 37 dX5_source_32 (by decide) (fun z => absurd z (by decide)) (fun _ => ?_)
  refine g_iconst (v := 0) dX5_source_35 (by decide) ?_
  rw [hQ]
  refine g_iret dX5_source_36 rfl rfl (by decide) (by decide) ?_
  subst hG
  exact ⟨by first | rfl | simp [u3_ap], by first | exact w1 | simpa [u3_ap] using w1⟩
set_option maxRecDepth 100000 in
set_option maxHeartbeats 4000000 in
theorem c_X5_source_0 {l : Launch} (hlt : l.stackTraces = false) {N n p : Nat} {ord : List Nat} {L : Nat → Nat → Nat} {Γ : Nat → Nat → Nat → Int32} {o : Int64} {h : am_H} (w : WI N n p ord L Γ o h)  {a : Int32} (a1 : ¬ a < 0) (a2 : a ≤ 9999) (hf : ¬ Γ 11 0 1 = -1) : am_Con l yX5_source (.code yX5_source cX5_source 3 (some .int)) 20 0 0 [.ref (L 11 0), .int a] h (fun v h' => v = some (.int (Γ 11 0 2)) ∧ WI N n p ord L (u3 (u3 Γ 11 0 34 0) 11 0 2 a) o h') (fun _ _ => False) := by
  refine am_body hlt (by decide +kernel) (Nat.le_of_ble_eq_true rfl) (fun k hl hR h0 hno => ?_)
  subst hl
  obtain ⟨Qf, hQ⟩ : ∃ Qf, Qf = am_Q k 0 0 (fun v h' => v = some (.int (Γ 11 0 2)) ∧ WI N n p ord L (u3 (u3 Γ 11 0 34 0) 11 0 2 a) o h') (fun _ _ => False) := ⟨_, rfl⟩
  rw [← hQ]
  have hm : wdm n p 11 0 = true := rfl
  refine g_aload_n dX5_source_0 rfl ?_
  refine g_iload_n dX5_source_1 rfl ?_
  refine g_iconst (v := 0) dX5_source_2 (by decide) ?_
  refine g_sipush (v := 9999) dX5_source_3 (by decide) ?_
  refine g_callS [_, _, _] dX5_source_6 mc_X5_96 ms_X5_isIn (c_X5_isIn_1 hlt a1 a2) rfl (Nat.le_of_ble_eq_true rfl) (am_rm hR (by decide)) (fun _ _ z => z) (fun v hx hq hE => ?_)
  obtain ⟨rfl, rfl⟩ := hq
  refine g_if_ne 16 dX5_source_9 (by decide) (fun _ => ?_) (fun z => absurd z (by decide))
  refine g_aload_n dX5_source_16 rfl ?_
  refine w_getI w dX5_source_17 fl_X5_110 rfl rfl (by first | rfl | assumption) ?_
  refine g_iconst (v := (-1)) dX5_source_20 (by decide) ?_
  refine g_icmp_ne 28 dX5_source_21 (by decide) (fun c_21 => ?_) (fun z => absurd z hf)
  refine g_iconst (v := 0) dX5_source_28 (by decide) ?_
  refine g_callV [_] dX5_source_29 mc_X5_103 mi_X5_can se_X5_can (c_X5_can_0 hlt w) (w.k (by first | rfl | assumption)) rfl rfl (Nat.le_of_ble_eq_true rfl) (am_rm hR (by decide)) (fun _ _ z => z) (fun v hx hq hE => ?_)
  obtain ⟨rfl, w1⟩ := hq
  obtain ⟨Γ1, hG⟩ : ∃ G, G = u3 Γ 11 0 34 0 := ⟨_, rfl⟩
  rw [← hG] at w1
  have en1 : Γ1 11 0 3 = Γ 11 0 3 := by rw [hG]; rfl
  have ep1 : Γ1 11 0 24 = Γ 11 0 24 := by rw [hG]; rfl
  refine g_if_ne 37 dX5_source_32 (by decide) (fun _ => ?_) (fun z => absurd z (by decide))
  refine g_aload_n dX5_source_37 rfl ?_
  refine w_getI w1 dX5_source_38 fl_X5_113 rfl rfl (by first | rfl | assumption) ?_
  refine g_istore_n dX5_source_41 (by decide) rfl ?_
  refine g_aload_n dX5_source_42 rfl ?_
  refine g_iload_n dX5_source_43 rfl ?_
  refine w_putI w1 dX5_source_44 fl_X5_113 rfl rfl (by decide) (fun q hq => by cases hq; rfl) (by first | rfl | assumption) rfl rfl (fun h2 w2 => ?_)
  refine g_iload_n dX5_source_47 rfl ?_
  rw [hQ]
  refine g_iret dX5_source_48 rfl rfl (by decide) (by decide) ?_
  subst hG
  exact ⟨by first | rfl | simp [u3_ap], by first | exact w2 | simpa [u3_ap] using w2⟩
set_option maxRecDepth 100000 in
set_option maxHeartbeats 4000000 in
theorem c_X5_bid_1a {l : Launch} (hlt : l.stackTraces = false) {N n p : Nat} {ord : List Nat} {L : Nat → Nat → Nat} {Γ : Nat → Nat → Nat → Int32} {o : Int64} {h : am_H} (w : WI N n p ord L Γ o h) {b : Nat} (hb : b ≤ 8) (en : Γ 11 0 3 = nI b) {x a c : Int32} (hx9 : x < 0 ∨ nI b ≤ x) (ab : a < 0 ∨ ¬ a ≤ 99) : am_Con l yX5_bid (.code yX5_bid cX5_bid 7 (some .int)) 20 0 0 [.ref (L 11 0), .int x, .int a, .int c] h (fun v h' => v = some (.int 0) ∧ WI N n p ord L (u3 Γ 11 0 34 1) o h') (fun _ _ => False) := by
  refine am_body hlt (by decide +kernel) (Nat.le_of_ble_eq_true rfl) (fun k hl hR h0 hno => ?_)
  subst hl
  obtain ⟨Qf, hQ⟩ : ∃ Qf, Qf = am_Q k 0 0 (fun v h' => v = some (.int 0) ∧ WI N n p ord L (u3 Γ 11 0 34 1) o h') (fun _ _ => False) := ⟨_, rfl⟩
  rw [← hQ]
  have hm : wdm n p 11 0 = true := rfl
  refine g_aload_n dX5_bid_0 rfl ?_
  refine g_iload_n dX5_bid_1 rfl ?_
  refine g_callV [_] dX5_bid_2 mc_X5_107 mi_X5_isDistrict se_X5_isDistrict (c_X5_isD_0 hlt w hb en (by assumption)) (w.k (by first | rfl | assumption)) rfl rfl (Nat.le_of_ble_eq_true rfl) (am_rm hR (by decide)) (fun _ _ z => z) (fun v hx hq hE => ?_)
  obtain ⟨rfl, rfl⟩ := hq
  refine g_istore dX5_bid_5 (by decide) rfl ?_
  refine g_iload_n dX5_bid_7 rfl ?_
  refine g_iconst (v := 0) dX5_bid_8 (by decide) ?_
  refine g_bipush (v := 99) dX5_bid_9 (by decide) ?_
  refine g_callS [_, _, _] dX5_bid_11 mc_X5_96 ms_X5_isIn (c_X5_isIn_0 hlt ab) rfl (Nat.le_of_ble_eq_true rfl) (am_rm hR (by decide)) (fun _ _ z => z) (fun v hx hq hE => ?_)
  obtain ⟨rfl, rfl⟩ := hq
  refine g_if_eq 32 dX5_bid_14 (by decide) (fun _ => ?_) (fun z => absurd z (by decide))
  refine g_iconst (v := 0) dX5_bid_32 (by decide) ?_
  refine g_istore dX5_bid_33 (by decide) rfl ?_
  refine g_iload dX5_bid_35 rfl ?_
  refine g_if_eq 71 dX5_bid_37 (by decide) (fun _ => ?_) (fun z => absurd z (by decide))
  refine g_iconst (v := 0) dX5_bid_71 (by decide) ?_
  refine g_istore dX5_bid_72 (by decide) rfl ?_
  refine g_aload_n dX5_bid_74 rfl ?_
  refine g_iload dX5_bid_75 rfl ?_
  refine g_if_ne 84 dX5_bid_77 (by decide) (fun z => absurd z (by decide)) (fun _ => ?_)
  refine g_iconst (v := 1) dX5_bid_80 (by decide) ?_
  refine g_goto 103 dX5_bid_81 (by decide) ?_
  refine g_callV [_] dX5_bid_103 mc_X5_103 mi_X5_can se_X5_can (c_X5_can_1 hlt w (a := 1) (by decide)) (w.k (by first | rfl | assumption)) rfl rfl (Nat.le_of_ble_eq_true rfl) (am_rm hR (by decide)) (fun _ _ z => z) (fun v hx hq hE => ?_)
  obtain ⟨rfl, w1⟩ := hq
  obtain ⟨Γ1, hG⟩ : ∃ G, G = u3 Γ 11 0 34 1 := ⟨_, rfl⟩
  rw [← hG] at w1
  have en1 : Γ1 11 0 3 = Γ 11 0 3 := by rw [hG]; rfl
  have ep1 : Γ1 11 0 24 = Γ 11 0 24 := by rw [hG]; rfl
  refine g_if_ne 111 dX5_bid_106 (by decide) (fun z => absurd z (by decide)) (fun _ => ?_)
  refine g_iconst (v := 0) dX5_bid_109 (by decide) ?_
  rw [hQ]
  refine g_iret dX5_bid_110 rfl rfl (by decide) (by decide) ?_
  subst hG
  exact ⟨by first | rfl | simp [u3_ap], by first | exact w1 | simpa [u3_ap] using w1⟩
set_option maxRecDepth 100000 in
set_option maxHeartbeats 4000000 in
theorem c_X5_bid_1b {l : Launch} (hlt : l.stackTraces = false) {N n p : Nat} {ord : List Nat} {L : Nat → Nat → Nat} {Γ : Nat → Nat → Nat → Int32} {o : Int64} {h : am_H} (w : WI N n p ord L Γ o h) {b : Nat} (hb : b ≤ 8) (en : Γ 11 0 3 = nI b) {x a c : Int32} (hx9 : x < 0 ∨ nI b ≤ x) (a1 : ¬ a < 0) (a2 : a ≤ 99) (cb : c < 0 ∨ ¬ c ≤ 999) : am_Con l yX5_bid (.code yX5_bid cX5_bid 7 (some .int)) 20 0 0 [.ref (L 11 0), .int x, .int a, .int c] h (fun v h' => v = some (.int 0) ∧ WI N n p ord L (u3 Γ 11 0 34 1) o h') (fun _ _ => False) := by
  refine am_body hlt (by decide +kernel) (Nat.le_of_ble_eq_true rfl) (fun k hl hR h0 hno => ?_)
  subst hl
  obtain ⟨Qf, hQ⟩ : ∃ Qf, Qf = am_Q k 0 0 (fun v h' => v = some (.int 0) ∧ WI N n p ord L (u3 Γ 11 0 34 1) o h') (fun _ _ => False) := ⟨_, rfl⟩
  rw [← hQ]
  have hm : wdm n p 11 0 = true := rfl
  refine g_aload_n dX5_bid_0 rfl ?_
  refine g_iload_n dX5_bid_1 rfl ?_
  refine g_callV [_] dX5_bid_2 mc_X5_107 mi_X5_isDistrict se_X5_isDistrict (c_X5_isD_0 hlt w hb en (by assumption)) (w.k (by first | rfl | assumption)) rfl rfl (Nat.le_of_ble_eq_true rfl) (am_rm hR (by decide)) (fun _ _ z => z) (fun v hx hq hE => ?_)
  obtain ⟨rfl, rfl⟩ := hq
  refine g_istore dX5_bid_5 (by decide) rfl ?_
  refine g_iload_n dX5_bid_7 rfl ?_
  refine g_iconst (v := 0) dX5_bid_8 (by decide) ?_
  refine g_bipush (v := 99) dX5_bid_9 (by decide) ?_
  refine g_callS [_, _, _] dX5_bid_11 mc_X5_96 ms_X5_isIn (c_X5_isIn_1 hlt a1 a2) rfl (Nat.le_of_ble_eq_true rfl) (am_rm hR (by decide)) (fun _ _ z => z) (fun v hx hq hE => ?_)
  obtain ⟨rfl, rfl⟩ := hq
  refine g_if_eq 32 dX5_bid_14 (by decide) (fun z => absurd z (by decide)) (fun _ => ?_)
  refine g_iload_n dX5_bid_17 rfl ?_
  refine g_iconst (v := 0) dX5_bid_18 (by decide) ?_
  refine g_sipush (v := 999) dX5_bid_19 (by decide) ?_
  refine g_callS [_, _, _] dX5_bid_22 mc_X5_96 ms_X5_isIn (c_X5_isIn_0 hlt cb) rfl (Nat.le_of_ble_eq_true rfl) (am_rm hR (by decide)) (fun _ _ z => z) (fun v hx hq hE => ?_)
  obtain ⟨rfl, rfl⟩ := hq
  refine g_if_eq 32 dX5_bid_25 (by decide) (fun _ => ?_) (fun z => absurd z (by decide))
  refine g_iconst (v := 0) dX5_bid_32 (by decide) ?_
  refine g_istore dX5_bid_33 (by decide) rfl ?_
  refine g_iload dX5_bid_35 rfl ?_
  refine g_if_eq 71 dX5_bid_37 (by decide) (fun _ => ?_) (fun z => absurd z (by decide))
  refine g_iconst (v := 0) dX5_bid_71 (by decide) ?_
  refine g_istore dX5_bid_72 (by decide) rfl ?_
  refine g_aload_n dX5_bid_74 rfl ?_
  refine g_iload dX5_bid_75 rfl ?_
  refine g_if_ne 84 dX5_bid_77 (by decide) (fun z => absurd z (by decide)) (fun _ => ?_)
  refine g_iconst (v := 1) dX5_bid_80 (by decide) ?_
  refine g_goto 103 dX5_bid_81 (by decide) ?_
  refine g_callV [_] dX5_bid_103 mc_X5_103 mi_X5_can se_X5_can (c_X5_can_1 hlt w (a := 1) (by decide)) (w.k (by first | rfl | assumption)) rfl rfl (Nat.le_of_ble_eq_true rfl) (am_rm hR (by decide)) (fun _ _ z => z) (fun v hx hq hE => ?_)
  obtain ⟨rfl, w1⟩ := hq
  obtain ⟨Γ1, hG⟩ : ∃ G, G = u3 Γ 11 0 34 1 := ⟨_, rfl⟩
  rw [← hG] at w1
  have en1 : Γ1 11 0 3 = Γ 11 0 3 := by rw [hG]; rfl
  have ep1 : Γ1 11 0 24 = Γ 11 0 24 := by rw [hG]; rfl
  refine g_if_ne 111 dX5_bid_106 (by decide) (fun z => absurd z (by decide)) (fun _ => ?_)
  refine g_iconst (v := 0) dX5_bid_109 (by decide) ?_
  rw [hQ]
  refine g_iret dX5_bid_110 rfl rfl (by decide) (by decide) ?_
  subst hG
  exact ⟨by first | rfl | simp [u3_ap], by first | exact w1 | simpa [u3_ap] using w1⟩
set_option maxRecDepth 100000 in
set_option maxHeartbeats 4000000 in
theorem c_X5_bid_1c {l : Launch} (hlt : l.stackTraces = false) {N n p : Nat} {ord : List Nat} {L : Nat → Nat → Nat} {Γ : Nat → Nat → Nat → Int32} {o : Int64} {h : am_H} (w : WI N n p ord L Γ o h) {b : Nat} (hb : b ≤ 8) (en : Γ 11 0 3 = nI b) {x a c : Int32} (hx9 : x < 0 ∨ nI b ≤ x) (a1 : ¬ a < 0) (a2 : a ≤ 99) (c1 : ¬ c < 0) (c2 : c ≤ 999) : am_Con l yX5_bid (.code yX5_bid cX5_bid 7 (some .int)) 20 0 0 [.ref (L 11 0), .int x, .int a, .int c] h (fun v h' => v = some (.int 0) ∧ WI N n p ord L (u3 Γ 11 0 34 1) o h') (fun _ _ => False) := by
  refine am_body hlt (by decide +kernel) (Nat.le_of_ble_eq_true rfl) (fun k hl hR h0 hno => ?_)
  subst hl
  obtain ⟨Qf, hQ⟩ : ∃ Qf, Qf = am_Q k 0 0 (fun v h' => v = some (.int 0) ∧ WI N n p ord L (u3 Γ 11 0 34 1) o h') (fun _ _ => False) := ⟨_, rfl⟩
  rw [← hQ]
  have hm : wdm n p 11 0 = true := rfl
  refine g_aload_n dX5_bid_0 rfl ?_
  refine g_iload_n dX5_bid_1 rfl ?_
  refine g_callV [_] dX5_bid_2 mc_X5_107 mi_X5_isDistrict se_X5_isDistrict (c_X5_isD_0 hlt w hb en (by assumption)) (w.k (by first | rfl | assumption)) rfl rfl (Nat.le_of_ble_eq_true rfl) (am_rm hR (by decide)) (fun _ _ z => z) (fun v hx hq hE => ?_)
  obtain ⟨rfl, rfl⟩ := hq
  refine g_istore dX5_bid_5 (by decide) rfl ?_
  refine g_iload_n dX5_bid_7 rfl ?_
  refine g_iconst (v := 0) dX5_bid_8 (by decide) ?_
  refine g_bipush (v := 99) dX5_bid_9 (by decide) ?_
  refine g_callS [_, _, _] dX5_bid_11 mc_X5_96 ms_X5_isIn (c_X5_isIn_1 hlt a1 a2) rfl (Nat.le_of_ble_eq_true rfl) (am_rm hR (by decide)) (fun _ _ z => z) (fun v hx hq hE => ?_)
  obtain ⟨rfl, rfl⟩ := hq
  refine g_if_eq 32 dX5_bid_14 (by decide) (fun z => absurd z (by decide)) (fun _ => ?_)
  refine g_iload_n dX5_bid_17 rfl ?_
  refine g_iconst (v := 0) dX5_bid_18 (by decide) ?_
  refine g_sipush (v := 999) dX5_bid_19 (by decide) ?_
  refine g_callS [_, _, _] dX5_bid_22 mc_X5_96 ms_X5_isIn (c_X5_isIn_1 hlt c1 c2) rfl (Nat.le_of_ble_eq_true rfl) (am_rm hR (by decide)) (fun _ _ z => z) (fun v hx hq hE => ?_)
  obtain ⟨rfl, rfl⟩ := hq
  refine g_if_eq 32 dX5_bid_25 (by decide) (fun z => absurd z (by decide)) (fun _ => ?_)
  refine g_iconst (v := 1) dX5_bid_28 (by decide) ?_
  refine g_goto 33 dX5_bid_29 (by decide) ?_
  refine g_istore dX5_bid_33 (by decide) rfl ?_
  refine g_iload dX5_bid_35 rfl ?_
  refine g_if_eq 71 dX5_bid_37 (by decide) (fun _ => ?_) (fun z => absurd z (by decide))
  refine g_iconst (v := 0) dX5_bid_71 (by decide) ?_
  refine g_istore dX5_bid_72 (by decide) rfl ?_
  refine g_aload_n dX5_bid_74 rfl ?_
  refine g_iload dX5_bid_75 rfl ?_
  refine g_if_ne 84 dX5_bid_77 (by decide) (fun z => absurd z (by decide)) (fun _ => ?_)
  refine g_iconst (v := 1) dX5_bid_80 (by decide) ?_
  refine g_goto 103 dX5_bid_81 (by decide) ?_
  refine g_callV [_] dX5_bid_103 mc_X5_103 mi_X5_can se_X5_can (c_X5_can_1 hlt w (a := 1) (by decide)) (w.k (by first | rfl | assumption)) rfl rfl (Nat.le_of_ble_eq_true rfl) (am_rm hR (by decide)) (fun _ _ z => z) (fun v hx hq hE => ?_)
  obtain ⟨rfl, w1⟩ := hq
  obtain ⟨Γ1, hG⟩ : ∃ G, G = u3 Γ 11 0 34 1 := ⟨_, rfl⟩
  rw [← hG] at w1
  have en1 : Γ1 11 0 3 = Γ 11 0 3 := by rw [hG]; rfl
  have ep1 : Γ1 11 0 24 = Γ 11 0 24 := by rw [hG]; rfl
  refine g_if_ne 111 dX5_bid_106 (by decide) (fun z => absurd z (by decide)) (fun _ => ?_)
  refine g_iconst (v := 0) dX5_bid_109 (by decide) ?_
  rw [hQ]
  refine g_iret dX5_bid_110 rfl rfl (by decide) (by decide) ?_
  subst hG
  exact ⟨by first | rfl | simp [u3_ap], by first | exact w1 | simpa [u3_ap] using w1⟩
set_option maxRecDepth 100000 in
set_option maxHeartbeats 4000000 in
theorem c_X5_bid_2aa {l : Launch} (hlt : l.stackTraces = false) {N n p : Nat} {ord : List Nat} {L : Nat → Nat → Nat} {Γ : Nat → Nat → Nat → Int32} {o : Int64} {h : am_H} (w : WI N n p ord L Γ o h) {b : Nat} (hb : b ≤ 8) (en : Γ 11 0 3 = nI b) {i : Nat} (hi : i < b) {a c : Int32} (ab : a < 0 ∨ ¬ a ≤ 99) (hf : Γ 11 0 1 = -1) : am_Con l yX5_bid (.code yX5_bid cX5_bid 7 (some .int)) 20 0 0 [.ref (L 11 0), .int (nI i), .int a, .int c] h (fun v h' => v = some (.int 0) ∧ WI N n p ord L (u3 Γ 11 0 34 2) o h') (fun _ _ => False) := by
  refine am_body hlt (by decide +kernel) (Nat.le_of_ble_eq_true rfl) (fun k hl hR h0 hno => ?_)
  subst hl
  obtain ⟨Qf, hQ⟩ : ∃ Qf, Qf = am_Q k 0 0 (fun v h' => v = some (.int 0) ∧ WI N n p ord L (u3 Γ 11 0 34 2) o h') (fun _ _ => False) := ⟨_, rfl⟩
  rw [← hQ]
  have hm : wdm n p 11 0 = true := rfl
  refine g_aload_n dX5_bid_0 rfl ?_
  refine g_iload_n dX5_bid_1 rfl ?_
  refine g_callV [_] dX5_bid_2 mc_X5_107 mi_X5_isDistrict se_X5_isDistrict (c_X5_isD_1 hlt w hb en (by assumption)) (w.k (by first | rfl | assumption)) rfl rfl (Nat.le_of_ble_eq_true rfl) (am_rm hR (by decide)) (fun _ _ z => z) (fun v hx hq hE => ?_)
  obtain ⟨rfl, rfl⟩ := hq
  refine g_istore dX5_bid_5 (by decide) rfl ?_
  refine g_iload_n dX5_bid_7 rfl ?_
  refine g_iconst (v := 0) dX5_bid_8 (by decide) ?_
  refine g_bipush (v := 99) dX5_bid_9 (by decide) ?_
  refine g_callS [_, _, _] dX5_bid_11 mc_X5_96 ms_X5_isIn (c_X5_isIn_0 hlt ab) rfl (Nat.le_of_ble_eq_true rfl) (am_rm hR (by decide)) (fun _ _ z => z) (fun v hx hq hE => ?_)
  obtain ⟨rfl, rfl⟩ := hq
  refine g_if_eq 32 dX5_bid_14 (by decide) (fun _ => ?_) (fun z => absurd z (by decide))
  refine g_iconst (v := 0) dX5_bid_32 (by decide) ?_
  refine g_istore dX5_bid_33 (by decide) rfl ?_
  refine g_iload dX5_bid_35 rfl ?_
  refine g_if_eq 71 dX5_bid_37 (by decide) (fun z => absurd z (by decide)) (fun _ => ?_)
  refine g_aload_n dX5_bid_40 rfl ?_
  refine w_getI w dX5_bid_41 fl_X5_110 rfl rfl (by first | rfl | assumption) ?_
  refine g_iconst (v := (-1)) dX5_bid_44 (by decide) ?_
  refine g_icmp_eq 71 dX5_bid_45 (by decide) (fun c_45 => ?_) (fun z => absurd hf z)
  refine g_iconst (v := 0) dX5_bid_71 (by decide) ?_
  refine g_istore dX5_bid_72 (by decide) rfl ?_
  refine g_aload_n dX5_bid_74 rfl ?_
  refine g_iload dX5_bid_75 rfl ?_
  refine g_if_ne 84 dX5_bid_77 (by decide) (fun _ => ?_) (fun z => absurd z (by decide))
  refine g_iload dX5_bid_84 rfl ?_
  refine g_if_ne 93 dX5_bid_86 (by decide) (fun z => absurd z (by decide)) (fun _ => ?_)
  refine g_iconst (v := 2) dX5_bid_89 (by decide) ?_
  refine g_goto 103 dX5_bid_90 (by decide) ?_
  refine g_callV [_] dX5_bid_103 mc_X5_103 mi_X5_can se_X5_can (c_X5_can_1 hlt w (a := 2) (by decide)) (w.k (by first | rfl | assumption)) rfl rfl (Nat.le_of_ble_eq_true rfl) (am_rm hR (by decide)) (fun _ _ z => z) (fun v hx hq hE => ?_)
  obtain ⟨rfl, w1⟩ := hq
  obtain ⟨Γ1, hG⟩ : ∃ G, G = u3 Γ 11 0 34 2 := ⟨_, rfl⟩
  rw [← hG] at w1
  have en1 : Γ1 11 0 3 = Γ 11 0 3 := by rw [hG]; rfl
  have ep1 : Γ1 11 0 24 = Γ 11 0 24 := by rw [hG]; rfl
  refine g_if_ne 111 dX5_bid_106 (by decide) (fun z => absurd z (by decide)) (fun _ => ?_)
  refine g_iconst (v := 0) dX5_bid_109 (by decide) ?_
  rw [hQ]
  refine g_iret dX5_bid_110 rfl rfl (by decide) (by decide) ?_
  subst hG
  exact ⟨by first | rfl | simp [u3_ap], by first | exact w1 | simpa [u3_ap] using w1⟩
set_option maxRecDepth 100000 in
set_option maxHeartbeats 4000000 in
theorem c_X5_bid_2ba {l : Launch} (hlt : l.stackTraces = false) {N n p : Nat} {ord : List Nat} {L : Nat → Nat → Nat} {Γ : Nat → Nat → Nat → Int32} {o : Int64} {h : am_H} (w : WI N n p ord L Γ o h) {b : Nat} (hb : b ≤ 8) (en : Γ 11 0 3 = nI b) {i : Nat} (hi : i < b) {a c : Int32} (a1 : ¬ a < 0) (a2 : a ≤ 99) (cb : c < 0 ∨ ¬ c ≤ 999) (hf : Γ 11 0 1 = -1) : am_Con l yX5_bid (.code yX5_bid cX5_bid 7 (some .int)) 20 0 0 [.ref (L 11 0), .int (nI i), .int a, .int c] h (fun v h' => v = some (.int 0) ∧ WI N n p ord L (u3 Γ 11 0 34 2) o h') (fun _ _ => False) := by
  refine am_body hlt (by decide +kernel) (Nat.le_of_ble_eq_true rfl) (fun k hl hR h0 hno => ?_)
  subst hl
  obtain ⟨Qf, hQ⟩ : ∃ Qf, Qf = am_Q k 0 0 (fun v h' => v = some (.int 0) ∧ WI N n p ord L (u3 Γ 11 0 34 2) o h') (fun _ _ => False) := ⟨_, rfl⟩
  rw [← hQ]
  have hm : wdm n p 11 0 = true := rfl
  refine g_aload_n dX5_bid_0 rfl ?_
  refine g_iload_n dX5_bid_1 rfl ?_
  refine g_callV [_] dX5_bid_2 mc_X5_107 mi_X5_isDistrict se_X5_isDistrict (c_X5_isD_1 hlt w hb en (by assumption)) (w.k (by first | rfl | assumption)) rfl rfl (Nat.le_of_ble_eq_true rfl) (am_rm hR (by decide)) (fun _ _ z => z) (fun v hx hq hE => ?_)
  obtain ⟨rfl, rfl⟩ := hq
  refine g_istore dX5_bid_5 (by decide) rfl ?_
  refine g_iload_n dX5_bid_7 rfl ?_
  refine g_iconst (v := 0) dX5_bid_8 (by decide) ?_
  refine g_bipush (v := 99) dX5_bid_9 (by decide) ?_
  refine g_callS [_, _, _] dX5_bid_11 mc_X5_96 ms_X5_isIn (c_X5_isIn_1 hlt a1 a2) rfl (Nat.le_of_ble_eq_true rfl) (am_rm hR (by decide)) (fun _ _ z => z) (fun v hx hq hE => ?_)
  obtain ⟨rfl, rfl⟩ := hq
  refine g_if_eq 32 dX5_bid_14 (by decide) (fun z => absurd z (by decide)) (fun _ => ?_)
  refine g_iload_n dX5_bid_17 rfl ?_
  refine g_iconst (v := 0) dX5_bid_18 (by decide) ?_
  refine g_sipush (v := 999) dX5_bid_19 (by decide) ?_
  refine g_callS [_, _, _] dX5_bid_22 mc_X5_96 ms_X5_isIn (c_X5_isIn_0 hlt cb) rfl (Nat.le_of_ble_eq_true rfl) (am_rm hR (by decide)) (fun _ _ z => z) (fun v hx hq hE => ?_)
  obtain ⟨rfl, rfl⟩ := hq
  refine g_if_eq 32 dX5_bid_25 (by decide) (fun _ => ?_) (fun z => absurd z (by decide))
  refine g_iconst (v := 0) dX5_bid_32 (by decide) ?_
  refine g_istore dX5_bid_33 (by decide) rfl ?_
  refine g_iload dX5_bid_35 rfl ?_
  refine g_if_eq 71 dX5_bid_37 (by decide) (fun z => absurd z (by decide)) (fun _ => ?_)
  refine g_aload_n dX5_bid_40 rfl ?_
  refine w_getI w dX5_bid_41 fl_X5_110 rfl rfl (by first | rfl | assumption) ?_
  refine g_iconst (v := (-1)) dX5_bid_44 (by decide) ?_
  refine g_icmp_eq 71 dX5_bid_45 (by decide) (fun c_45 => ?_) (fun z => absurd hf z)
  refine g_iconst (v := 0) dX5_bid_71 (by decide) ?_
  refine g_istore dX5_bid_72 (by decide) rfl ?_
  refine g_aload_n dX5_bid_74 rfl ?_
  refine g_iload dX5_bid_75 rfl ?_
  refine g_if_ne 84 dX5_bid_77 (by decide) (fun _ => ?_) (fun z => absurd z (by decide))
  refine g_iload dX5_bid_84 rfl ?_
  refine g_if_ne 93 dX5_bid_86 (by decide) (fun z => absurd z (by decide)) (fun _ => ?_)
  refine g_iconst (v := 2) dX5_bid_89 (by decide) ?_
  refine g_goto 103 dX5_bid_90 (by decide) ?_
  refine g_callV [_] dX5_bid_103 mc_X5_103 mi_X5_can se_X5_can (c_X5_can_1 hlt w (a := 2) (by decide)) (w.k (by first | rfl | assumption)) rfl rfl (Nat.le_of_ble_eq_true rfl) (am_rm hR (by decide)) (fun _ _ z => z) (fun v hx hq hE => ?_)
  obtain ⟨rfl, w1⟩ := hq
  obtain ⟨Γ1, hG⟩ : ∃ G, G = u3 Γ 11 0 34 2 := ⟨_, rfl⟩
  rw [← hG] at w1
  have en1 : Γ1 11 0 3 = Γ 11 0 3 := by rw [hG]; rfl
  have ep1 : Γ1 11 0 24 = Γ 11 0 24 := by rw [hG]; rfl
  refine g_if_ne 111 dX5_bid_106 (by decide) (fun z => absurd z (by decide)) (fun _ => ?_)
  refine g_iconst (v := 0) dX5_bid_109 (by decide) ?_
  rw [hQ]
  refine g_iret dX5_bid_110 rfl rfl (by decide) (by decide) ?_
  subst hG
  exact ⟨by first | rfl | simp [u3_ap], by first | exact w1 | simpa [u3_ap] using w1⟩
set_option maxRecDepth 100000 in
set_option maxHeartbeats 4000000 in
theorem c_X5_bid_3a {l : Launch} (hlt : l.stackTraces = false) {N n p : Nat} {ord : List Nat} {L : Nat → Nat → Nat} {Γ : Nat → Nat → Nat → Int32} {o : Int64} {h : am_H} (w : WI N n p ord L Γ o h) {b : Nat} (hb : b ≤ 8) (en : Γ 11 0 3 = nI b) {i : Nat} (hi : i < b) {a c : Int32} (a1 : ¬ a < 0) (a2 : a ≤ 99) (c1 : ¬ c < 0) (c2 : c ≤ 999) (hf : Γ 11 0 1 = -1) : am_Con l yX5_bid (.code yX5_bid cX5_bid 7 (some .int)) 20 0 0 [.ref (L 11 0), .int (nI i), .int a, .int c] h (fun v h' => v = some (.int 0) ∧ WI N n p ord L (u3 Γ 11 0 34 3) o h') (fun _ _ => False) := by
  refine am_body hlt (by decide +kernel) (Nat.le_of_ble_eq_true rfl) (fun k hl hR h0 hno => ?_)
  subst hl
  obtain ⟨Qf, hQ⟩ : ∃ Qf, Qf = am_Q k 0 0 (fun v h' => v = some (.int 0) ∧ WI N n p ord L (u3 Γ 11 0 34 3) o h') (fun _ _ => False) := ⟨_, rfl⟩
  rw [← hQ]
  have hm : wdm n p 11 0 = true := rfl
  refine g_aload_n dX5_bid_0 rfl ?_
  refine g_iload_n dX5_bid_1 rfl ?_
  refine g_callV [_] dX5_bid_2 mc_X5_107 mi_X5_isDistrict se_X5_isDistrict (c_X5_isD_1 hlt w hb en (by assumption)) (w.k (by first | rfl | assumption)) rfl rfl (Nat.le_of_ble_eq_true rfl) (am_rm hR (by decide)) (fun _ _ z => z) (fun v hx hq hE => ?_)
  obtain ⟨rfl, rfl⟩ := hq
  refine g_istore dX5_bid_5 (by decide) rfl ?_
  refine g_iload_n dX5_bid_7 rfl ?_
  refine g_iconst (v := 0) dX5_bid_8 (by decide) ?_
  refine g_bipush (v := 99) dX5_bid_9 (by decide) ?_
  refine g_callS [_, _, _] dX5_bid_11 mc_X5_96 ms_X5_isIn (c_X5_isIn_1 hlt a1 a2) rfl (Nat.le_of_ble_eq_true rfl) (am_rm hR (by decide)) (fun _ _ z => z) (fun v hx hq hE => ?_)
  obtain ⟨rfl, rfl⟩ := hq
  refine g_if_eq 32 dX5_bid_14 (by decide) (fun z => absurd z (by decide)) (fun _ => ?_)
  refine g_iload_n dX5_bid_17 rfl ?_
  refine g_iconst (v := 0) dX5_bid_18 (by decide) ?_
  refine g_sipush (v := 999) dX5_bid_19 (by decide) ?_
  refine g_callS [_, _, _] dX5_bid_22 mc_X5_96 ms_X5_isIn (c_X5_isIn_1 hlt c1 c2) rfl (Nat.le_of_ble_eq_true rfl) (am_rm hR (by decide)) (fun _ _ z => z) (fun v hx hq hE => ?_)
  obtain ⟨rfl, rfl⟩ := hq
  refine g_if_eq 32 dX5_bid_25 (by decide) (fun z => absurd z (by decide)) (fun _ => ?_)
  refine g_iconst (v := 1) dX5_bid_28 (by decide) ?_
  refine g_goto 33 dX5_bid_29 (by decide) ?_
  refine g_istore dX5_bid_33 (by decide) rfl ?_
  refine g_iload dX5_bid_35 rfl ?_
  refine g_if_eq 71 dX5_bid_37 (by decide) (fun z => absurd z (by decide)) (fun _ => ?_)
  refine g_aload_n dX5_bid_40 rfl ?_
  refine w_getI w dX5_bid_41 fl_X5_110 rfl rfl (by first | rfl | assumption) ?_
  refine g_iconst (v := (-1)) dX5_bid_44 (by decide) ?_
  refine g_icmp_eq 71 dX5_bid_45 (by decide) (fun c_45 => ?_) (fun z => absurd hf z)
  refine g_iconst (v := 0) dX5_bid_71 (by decide) ?_
  refine g_istore dX5_bid_72 (by decide) rfl ?_
  refine g_aload_n dX5_bid_74 rfl ?_
  refine g_iload dX5_bid_75 rfl ?_
  refine g_if_ne 84 dX5_bid_77 (by decide) (fun _ => ?_) (fun z => absurd z (by decide))
  refine g_iload dX5_bid_84 rfl ?_
  refine g_if_ne 93 dX5_bid_86 (by decide) (fun _ => ?_) (fun z => absurd z (by decide))
  refine g_iload dX5_bid_93 rfl ?_
  refine g_if_eq 102 dX5_bid_95 (by decide) (fun _ => ?_) (fun z => absurd z (by decide))
  refine g_iconst (v := 3) dX5_bid_102 (by decide) ?_
  refine g_callV [_] dX5_bid_103 mc_X5_103 mi_X5_can se_X5_can (c_X5_can_1 hlt w (a := 3) (by decide)) (w.k (by first | rfl | assumption)) rfl rfl (Nat.le_of_ble_eq_true rfl) (am_rm hR (by decide)) (fun _ _ z => z) (fun v hx hq hE => ?_)
  obtain ⟨rfl, w1⟩ := hq
  obtain ⟨Γ1, hG⟩ : ∃ G, G = u3 Γ 11 0 34 3 := ⟨_, rfl⟩
  rw [← hG] at w1
  have en1 : Γ1 11 0 3 = Γ 11 0 3 := by rw [hG]; rfl
  have ep1 : Γ1 11 0 24 = Γ 11 0 24 := by rw [hG]; rfl
  refine g_if_ne 111 dX5_bid_106 (by decide) (fun z => absurd z (by decide)) (fun _ => ?_)
  refine g_iconst (v := 0) dX5_bid_109 (by decide) ?_
  rw [hQ]
  refine g_iret dX5_bid_110 rfl rfl (by decide) (by decide) ?_
  subst hG
  exact ⟨by first | rfl | simp [u3_ap], by first | exact w1 | simpa [u3_ap] using w1⟩
set_option maxRecDepth 100000 in
set_option maxHeartbeats 4000000 in
theorem c_X5_bid_2ab {l : Launch} (hlt : l.stackTraces = false) {N n p : Nat} {ord : List Nat} {L : Nat → Nat → Nat} {Γ : Nat → Nat → Nat → Int32} {o : Int64} {h : am_H} (w : WI N n p ord L Γ o h) {b : Nat} (hb : b ≤ 8) (en : Γ 11 0 3 = nI b) {i : Nat} (hi : i < b) {a c : Int32} (ab : a < 0 ∨ ¬ a ≤ 99) (hf : ¬ Γ 11 0 1 = -1) (hs : Γ 13 10 i = 0) : am_Con l yX5_bid (.code yX5_bid cX5_bid 7 (some .int)) 20 0 0 [.ref (L 11 0), .int (nI i), .int a, .int c] h (fun v h' => v = some (.int 0) ∧ WI N n p ord L (u3 Γ 11 0 34 2) o h') (fun _ _ => False) := by
  refine am_body hlt (by decide +kernel) (Nat.le_of_ble_eq_true rfl) (fun k hl hR h0 hno => ?_)
  subst hl
  obtain ⟨Qf, hQ⟩ : ∃ Qf, Qf = am_Q k 0 0 (fun v h' => v = some (.int 0) ∧ WI N n p ord L (u3 Γ 11 0 34 2) o h') (fun _ _ => False) := ⟨_, rfl⟩
  rw [← hQ]
  have hm : wdm n p 11 0 = true := rfl
  refine g_aload_n dX5_bid_0 rfl ?_
  refine g_iload_n dX5_bid_1 rfl ?_
  refine g_callV [_] dX5_bid_2 mc_X5_107 mi_X5_isDistrict se_X5_isDistrict (c_X5_isD_1 hlt w hb en (by assumption)) (w.k (by first | rfl | assumption)) rfl rfl (Nat.le_of_ble_eq_true rfl) (am_rm hR (by decide)) (fun _ _ z => z) (fun v hx hq hE => ?_)
  obtain ⟨rfl, rfl⟩ := hq
  refine g_istore dX5_bid_5 (by decide) rfl ?_
  refine g_iload_n dX5_bid_7 rfl ?_
  refine g_iconst (v := 0) dX5_bid_8 (by decide) ?_
  refine g_bipush (v := 99) dX5_bid_9 (by decide) ?_
  refine g_callS [_, _, _] dX5_bid_11 mc_X5_96 ms_X5_isIn (c_X5_isIn_0 hlt ab) rfl (Nat.le_of_ble_eq_true rfl) (am_rm hR (by decide)) (fun _ _ z => z) (fun v hx hq hE => ?_)
  obtain ⟨rfl, rfl⟩ := hq
  refine g_if_eq 32 dX5_bid_14 (by decide) (fun _ => ?_) (fun z => absurd z (by decide))
  refine g_iconst (v := 0) dX5_bid_32 (by decide) ?_
  refine g_istore dX5_bid_33 (by decide) rfl ?_
  refine g_iload dX5_bid_35 rfl ?_
  refine g_if_eq 71 dX5_bid_37 (by decide) (fun z => absurd z (by decide)) (fun _ => ?_)
  refine g_aload_n dX5_bid_40 rfl ?_
  refine w_getI w dX5_bid_41 fl_X5_110 rfl rfl (by first | rfl | assumption) ?_
  refine g_iconst (v := (-1)) dX5_bid_44 (by decide) ?_
  refine g_icmp_eq 71 dX5_bid_45 (by decide) (fun z => absurd z hf) (fun c_45 => ?_)
  refine g_aload_n dX5_bid_48 rfl ?_
  refine w_getR w dX5_bid_49 fl_X5_28 rfl rfl (by first | rfl | assumption) rfl ?_
  refine g_iload_n dX5_bid_52 rfl ?_
  refine w_zald w dX5_bid_53 (by first | rfl | assumption) (by first | assumption | omega | (show _ < 8; omega) | (show _ < 24; omega) | (show _ < 9; omega)) ?_
  refine g_if_eq 67 dX5_bid_54 (by decide) (fun c_54 => ?_) (fun z => absurd hs z)
  refine g_iconst (v := 1) dX5_bid_67 (by decide) ?_
  refine g_goto 72 dX5_bid_68 (by decide) ?_
  refine g_istore dX5_bid_72 (by decide) rfl ?_
  refine g_aload_n dX5_bid_74 rfl ?_
  refine g_iload dX5_bid_75 rfl ?_
  refine g_if_ne 84 dX5_bid_77 (by decide) (fun _ => ?_) (fun z => absurd z (by decide))
  refine g_iload dX5_bid_84 rfl ?_
  refine g_if_ne 93 dX5_bid_86 (by decide) (fun z => absurd z (by decide)) (fun _ => ?_)
  refine g_iconst (v := 2) dX5_bid_89 (by decide) ?_
  refine g_goto 103 dX5_bid_90 (by decide) ?_
  refine g_callV [_] dX5_bid_103 mc_X5_103 mi_X5_can se_X5_can (c_X5_can_1 hlt w (a := 2) (by decide)) (w.k (by first | rfl | assumption)) rfl rfl (Nat.le_of_ble_eq_true rfl) (am_rm hR (by decide)) (fun _ _ z => z) (fun v hx hq hE => ?_)
  obtain ⟨rfl, w1⟩ := hq
  obtain ⟨Γ1, hG⟩ : ∃ G, G = u3 Γ 11 0 34 2 := ⟨_, rfl⟩
  rw [← hG] at w1
  have en1 : Γ1 11 0 3 = Γ 11 0 3 := by rw [hG]; rfl
  have ep1 : Γ1 11 0 24 = Γ 11 0 24 := by rw [hG]; rfl
  refine g_if_ne 111 dX5_bid_106 (by decide) (fun z => absurd z (by decide)) (fun _ => ?_)
  refine g_iconst (v := 0) dX5_bid_109 (by decide) ?_
  rw [hQ]
  refine g_iret dX5_bid_110 rfl rfl (by decide) (by decide) ?_
  subst hG
  exact ⟨by first | rfl | simp [u3_ap], by first | exact w1 | simpa [u3_ap] using w1⟩
set_option maxRecDepth 100000 in
set_option maxHeartbeats 4000000 in
theorem c_X5_bid_2bb {l : Launch} (hlt : l.stackTraces = false) {N n p : Nat} {ord : List Nat} {L : Nat → Nat → Nat} {Γ : Nat → Nat → Nat → Int32} {o : Int64} {h : am_H} (w : WI N n p ord L Γ o h) {b : Nat} (hb : b ≤ 8) (en : Γ 11 0 3 = nI b) {i : Nat} (hi : i < b) {a c : Int32} (a1 : ¬ a < 0) (a2 : a ≤ 99) (cb : c < 0 ∨ ¬ c ≤ 999) (hf : ¬ Γ 11 0 1 = -1) (hs : Γ 13 10 i = 0) : am_Con l yX5_bid (.code yX5_bid cX5_bid 7 (some .int)) 20 0 0 [.ref (L 11 0), .int (nI i), .int a, .int c] h (fun v h' => v = some (.int 0) ∧ WI N n p ord L (u3 Γ 11 0 34 2) o h') (fun _ _ => False) := by
  refine am_body hlt (by decide +kernel) (Nat.le_of_ble_eq_true rfl) (fun k hl hR h0 hno => ?_)
  subst hl
  obtain ⟨Qf, hQ⟩ : ∃ Qf, Qf = am_Q k 0 0 (fun v h' => v = some (.int 0) ∧ WI N n p ord L (u3 Γ 11 0 34 2) o h') (fun _ _ => False) := ⟨_, rfl⟩
  rw [← hQ]
  have hm : wdm n p 11 0 = true := rfl
  refine g_aload_n dX5_bid_0 rfl ?_
  refine g_iload_n dX5_bid_1 rfl ?_
  refine g_callV [_] dX5_bid_2 mc_X5_107 mi_X5_isDistrict se_X5_isDistrict (c_X5_isD_1 hlt w hb en (by assumption)) (w.k (by first | rfl | assumption)) rfl rfl (Nat.le_of_ble_eq_true rfl) (am_rm hR (by decide)) (fun _ _ z => z) (fun v hx hq hE => ?_)
  obtain ⟨rfl, rfl⟩ := hq
  refine g_istore dX5_bid_5 (by decide) rfl ?_
  refine g_iload_n dX5_bid_7 rfl ?_
  refine g_iconst (v := 0) dX5_bid_8 (by decide) ?_
  refine g_bipush (v := 99) dX5_bid_9 (by decide) ?_
  refine g_callS [_, _, _] dX5_bid_11 mc_X5_96 ms_X5_isIn (c_X5_isIn_1 hlt a1 a2) rfl (Nat.le_of_ble_eq_true rfl) (am_rm hR (by decide)) (fun _ _ z => z) (fun v hx hq hE => ?_)
  obtain ⟨rfl, rfl⟩ := hq
  refine g_if_eq 32 dX5_bid_14 (by decide) (fun z => absurd z (by decide)) (fun _ => ?_)
  refine g_iload_n dX5_bid_17 rfl ?_
  refine g_iconst (v := 0) dX5_bid_18 (by decide) ?_
  refine g_sipush (v := 999) dX5_bid_19 (by decide) ?_
  refine g_callS [_, _, _] dX5_bid_22 mc_X5_96 ms_X5_isIn (c_X5_isIn_0 hlt cb) rfl (Nat.le_of_ble_eq_true rfl) (am_rm hR (by decide)) (fun _ _ z => z) (fun v hx hq hE => ?_)
  obtain ⟨rfl, rfl⟩ := hq
  refine g_if_eq 32 dX5_bid_25 (by decide) (fun _ => ?_) (fun z => absurd z (by decide))
  refine g_iconst (v := 0) dX5_bid_32 (by decide) ?_
  refine g_istore dX5_bid_33 (by decide) rfl ?_
  refine g_iload dX5_bid_35 rfl ?_
  refine g_if_eq 71 dX5_bid_37 (by decide) (fun z => absurd z (by decide)) (fun _ => ?_)
  refine g_aload_n dX5_bid_40 rfl ?_
  refine w_getI w dX5_bid_41 fl_X5_110 rfl rfl (by first | rfl | assumption) ?_
  refine g_iconst (v := (-1)) dX5_bid_44 (by decide) ?_
  refine g_icmp_eq 71 dX5_bid_45 (by decide) (fun z => absurd z hf) (fun c_45 => ?_)
  refine g_aload_n dX5_bid_48 rfl ?_
  refine w_getR w dX5_bid_49 fl_X5_28 rfl rfl (by first | rfl | assumption) rfl ?_
  refine g_iload_n dX5_bid_52 rfl ?_
  refine w_zald w dX5_bid_53 (by first | rfl | assumption) (by first | assumption | omega | (show _ < 8; omega) | (show _ < 24; omega) | (show _ < 9; omega)) ?_
  refine g_if_eq 67 dX5_bid_54 (by decide) (fun c_54 => ?_) (fun z => absurd hs z)
  refine g_iconst (v := 1) dX5_bid_67 (by decide) ?_
  refine g_goto 72 dX5_bid_68 (by decide) ?_
  refine g_istore dX5_bid_72 (by decide) rfl ?_
  refine g_aload_n dX5_bid_74 rfl ?_
  refine g_iload dX5_bid_75 rfl ?_
  refine g_if_ne 84 dX5_bid_77 (by decide) (fun _ => ?_) (fun z => absurd z (by decide))
  refine g_iload dX5_bid_84 rfl ?_
  refine g_if_ne 93 dX5_bid_86 (by decide) (fun z => absurd z (by decide)) (fun _ => ?_)
  refine g_iconst (v := 2) dX5_bid_89 (by decide) ?_
  refine g_goto 103 dX5_bid_90 (by decide) ?_
  refine g_callV [_] dX5_bid_103 mc_X5_103 mi_X5_can se_X5_can (c_X5_can_1 hlt w (a := 2) (by decide)) (w.k (by first | rfl | assumption)) rfl rfl (Nat.le_of_ble_eq_true rfl) (am_rm hR (by decide)) (fun _ _ z => z) (fun v hx hq hE => ?_)
  obtain ⟨rfl, w1⟩ := hq
  obtain ⟨Γ1, hG⟩ : ∃ G, G = u3 Γ 11 0 34 2 := ⟨_, rfl⟩
  rw [← hG] at w1
  have en1 : Γ1 11 0 3 = Γ 11 0 3 := by rw [hG]; rfl
  have ep1 : Γ1 11 0 24 = Γ 11 0 24 := by rw [hG]; rfl
  refine g_if_ne 111 dX5_bid_106 (by decide) (fun z => absurd z (by decide)) (fun _ => ?_)
  refine g_iconst (v := 0) dX5_bid_109 (by decide) ?_
  rw [hQ]
  refine g_iret dX5_bid_110 rfl rfl (by decide) (by decide) ?_
  subst hG
  exact ⟨by first | rfl | simp [u3_ap], by first | exact w1 | simpa [u3_ap] using w1⟩
set_option maxRecDepth 100000 in
set_option maxHeartbeats 4000000 in
theorem c_X5_bid_0b {l : Launch} (hlt : l.stackTraces = false) {N n p : Nat} {ord : List Nat} {L : Nat → Nat → Nat} {Γ : Nat → Nat → Nat → Int32} {o : Int64} {h : am_H} (w : WI N n p ord L Γ o h) {b : Nat} (hb : b ≤ 8) (en : Γ 11 0 3 = nI b) {i : Nat} (hi : i < b) {a c : Int32} (a1 : ¬ a < 0) (a2 : a ≤ 99) (c1 : ¬ c < 0) (c2 : c ≤ 999) (hf : ¬ Γ 11 0 1 = -1) (hs : Γ 13 10 i = 0) : am_Con l yX5_bid (.code yX5_bid cX5_bid 7 (some .int)) 20 0 0 [.ref (L 11 0), .int (nI i), .int a, .int c] h (fun v h' => v = some (.int (sp_sum (fun j => if (u3 (u3 (u3 (u3 (u3 (u3 Γ 11 0 34 0) 12 11 i a) 12 12 i c) 12 13 i (Γ 11 0 16)) 13 14 i 1) 11 0 16 (Γ 11 0 16 + 1)) 13 14 j = 0 then 0 else 1) b)) ∧ WI N n p ord L (u3 (u3 (u3 (u3 (u3 (u3 Γ 11 0 34 0) 12 11 i a) 12 12 i c) 12 13 i (Γ 11 0 16)) 13 14 i 1) 11 0 16 (Γ 11 0 16 + 1)) o h') (fun _ _ => False) := by
  refine am_body hlt (by decide +kernel) (Nat.le_of_ble_eq_true rfl) (fun k hl hR h0 hno => ?_)
  subst hl
  obtain ⟨Qf, hQ⟩ : ∃ Qf, Qf = am_Q k 0 0 (fun v h' => v = some (.int (sp_sum (fun j => if (u3 (u3 (u3 (u3 (u3 (u3 Γ 11 0 34 0) 12 11 i a) 12 12 i c) 12 13 i (Γ 11 0 16)) 13 14 i 1) 11 0 16 (Γ 11 0 16 + 1)) 13 14 j = 0 then 0 else 1) b)) ∧ WI N n p ord L (u3 (u3 (u3 (u3 (u3 (u3 Γ 11 0 34 0) 12 11 i a) 12 12 i c) 12 13 i (Γ 11 0 16)) 13 14 i 1) 11 0 16 (Γ 11 0 16 + 1)) o h') (fun _ _ => False) := ⟨_, rfl⟩
  rw [← hQ]
  have hm : wdm n p 11 0 = true := rfl
  refine g_aload_n dX5_bid_0 rfl ?_
  refine g_iload_n dX5_bid_1 rfl ?_
  refine g_callV [_] dX5_bid_2 mc_X5_107 mi_X5_isDistrict se_X5_isDistrict (c_X5_isD_1 hlt w hb en (by assumption)) (w.k (by first | rfl | assumption)) rfl rfl (Nat.le_of_ble_eq_true rfl) (am_rm hR (by decide)) (fun _ _ z => z) (fun v hx hq hE => ?_)
  obtain ⟨rfl, rfl⟩ := hq
  refine g_istore dX5_bid_5 (by decide) rfl ?_
  refine g_iload_n dX5_bid_7 rfl ?_
  refine g_iconst (v := 0) dX5_bid_8 (by decide) ?_
  refine g_bipush (v := 99) dX5_bid_9 (by decide) ?_
  refine g_callS [_, _, _] dX5_bid_11 mc_X5_96 ms_X5_isIn (c_X5_isIn_1 hlt a1 a2) rfl (Nat.le_of_ble_eq_true rfl) (am_rm hR (by decide)) (fun _ _ z => z) (fun v hx hq hE => ?_)
  obtain ⟨rfl, rfl⟩ := hq
  refine g_if_eq 32 dX5_bid_14 (by decide) (fun z => absurd z (by decide)) (fun _ => ?_)
  refine g_iload_n dX5_bid_17 rfl ?_
  refine g_iconst (v := 0) dX5_bid_18 (by decide) ?_
  refine g_sipush (v := 999) dX5_bid_19 (by decide) ?_
  refine g_callS [_, _, _] dX5_bid_22 mc_X5_96 ms_X5_isIn (c_X5_isIn_1 hlt c1 c2) rfl (Nat.le_of_ble_eq_true rfl) (am_rm hR (by decide)) (fun _ _ z => z) (fun v hx hq hE => ?_)
  obtain ⟨rfl, rfl⟩ := hq
  refine g_if_eq 32 dX5_bid_25 (by decide) (fun z => absurd z (by decide)) (fun _ => ?_)
  refine g_iconst (v := 1) dX5_bid_28 (by decide) ?_
  refine g_goto 33 dX5_bid_29 (by decide) ?_
  refine g_istore dX5_bid_33 (by decide) rfl ?_
  refine g_iload dX5_bid_35 rfl ?_
  refine g_if_eq 71 dX5_bid_37 (by decide) (fun z => absurd z (by decide)) (fun _ => ?_)
  refine g_aload_n dX5_bid_40 rfl ?_
  refine w_getI w dX5_bid_41 fl_X5_110 rfl rfl (by first | rfl | assumption) ?_
  refine g_iconst (v := (-1)) dX5_bid_44 (by decide) ?_
  refine g_icmp_eq 71 dX5_bid_45 (by decide) (fun z => absurd z hf) (fun c_45 => ?_)
  refine g_aload_n dX5_bid_48 rfl ?_
  refine w_getR w dX5_bid_49 fl_X5_28 rfl rfl (by first | rfl | assumption) rfl ?_
  refine g_iload_n dX5_bid_52 rfl ?_
  refine w_zald w dX5_bid_53 (by first | rfl | assumption) (by first | assumption | omega | (show _ < 8; omega) | (show _ < 24; omega) | (show _ < 9; omega)) ?_
  refine g_if_eq 67 dX5_bid_54 (by decide) (fun c_54 => ?_) (fun z => absurd hs z)
  refine g_iconst (v := 1) dX5_bid_67 (by decide) ?_
  refine g_goto 72 dX5_bid_68 (by decide) ?_
  refine g_istore dX5_bid_72 (by decide) rfl ?_
  refine g_aload_n dX5_bid_74 rfl ?_
  refine g_iload dX5_bid_75 rfl ?_
  refine g_if_ne 84 dX5_bid_77 (by decide) (fun _ => ?_) (fun z => absurd z (by decide))
  refine g_iload dX5_bid_84 rfl ?_
  refine g_if_ne 93 dX5_bid_86 (by decide) (fun _ => ?_) (fun z => absurd z (by decide))
  refine g_iload dX5_bid_93 rfl ?_
  refine g_if_eq 102 dX5_bid_95 (by decide) (fun z => absurd z (by decide)) (fun _ => ?_)
  refine g_iconst (v := 0) dX5_bid_98 (by decide) ?_
  refine g_goto 103 dX5_bid_99 (by decide) ?_
  refine g_callV [_] dX5_bid_103 mc_X5_103 mi_X5_can se_X5_can (c_X5_can_0 hlt w) (w.k (by first | rfl | assumption)) rfl rfl (Nat.le_of_ble_eq_true rfl) (am_rm hR (by decide)) (fun _ _ z => z) (fun v hx hq hE => ?_)
  obtain ⟨rfl, w1⟩ := hq
  obtain ⟨Γ1, hG⟩ : ∃ G, G = u3 Γ 11 0 34 0 := ⟨_, rfl⟩
  rw [← hG] at w1
  have en1 : Γ1 11 0 3 = Γ 11 0 3 := by rw [hG]; rfl
  have ep1 : Γ1 11 0 24 = Γ 11 0 24 := by rw [hG]; rfl
  refine g_if_ne 111 dX5_bid_106 (by decide) (fun _ => ?_) (fun z => absurd z (by decide))
  refine g_aload_n dX5_bid_111 rfl ?_
  refine w_getR w1 dX5_bid_112 fl_X5_32 rfl rfl (by first | rfl | assumption) rfl ?_
  refine g_iload_n dX5_bid_115 rfl ?_
  refine g_iload_n dX5_bid_116 rfl ?_
  refine w_ast w1 dX5_bid_117 (by decide) (by first | rfl | assumption) (by first | assumption | omega | (show _ < 8; omega) | (show _ < 24; omega) | (show _ < 9; omega)) (fun h2 w2 => ?_)
  refine g_aload_n dX5_bid_118 rfl ?_
  refine w_getR w2 dX5_bid_119 fl_X5_35 rfl rfl (by first | rfl | assumption) rfl ?_
  refine g_iload_n dX5_bid_122 rfl ?_
  refine g_iload_n dX5_bid_123 rfl ?_
  refine w_ast w2 dX5_bid_124 (by decide) (by first | rfl | assumption) (by first | assumption | omega | (show _ < 8; omega) | (show _ < 24; omega) | (show _ < 9; omega)) (fun h3 w3 => ?_)
  refine g_aload_n dX5_bid_125 rfl ?_
  refine w_getR w3 dX5_bid_126 fl_X5_38 rfl rfl (by first | rfl | assumption) rfl ?_
  refine g_iload_n dX5_bid_129 rfl ?_
  refine g_aload_n dX5_bid_130 rfl ?_
  refine w_getI w3 dX5_bid_131 fl_X5_154 rfl rfl (by first | rfl | assumption) ?_
  refine w_ast w3 dX5_bid_134 (by decide) (by first | rfl | assumption) (by first | assumption | omega | (show _ < 8; omega) | (show _ < 24; omega) | (show _ < 9; omega)) (fun h4 w4 => ?_)
  refine g_aload_n dX5_bid_135 rfl ?_
  refine w_getR w4 dX5_bid_136 fl_X5_41 rfl rfl (by first | rfl | assumption) rfl ?_
  refine g_iload_n dX5_bid_139 rfl ?_
  refine g_iconst (v := 1) dX5_bid_140 (by decide) ?_
  refine w_zast w4 dX5_bid_141 (by first | rfl | assumption) (by first | assumption | omega | (show _ < 8; omega) | (show _ < 24; omega) | (show _ < 9; omega)) rfl (fun h5 w5 => ?_)
  refine g_aload_n dX5_bid_142 rfl ?_
  refine g_dup dX5_bid_143 rfl ?_
  refine w_getI w5 dX5_bid_144 fl_X5_154 rfl rfl (by first | rfl | assumption) ?_
  refine g_iconst (v := 1) dX5_bid_147 (by decide) ?_
  refine g_iadd dX5_bid_148 ?_
  refine w_putI w5 dX5_bid_149 fl_X5_154 rfl rfl (by decide) (fun q hq => by cases hq; rfl) (by first | rfl | assumption) rfl rfl (fun h6 w6 => ?_)
  refine g_aload_n dX5_bid_152 rfl ?_
  refine g_callV [] dX5_bid_153 mc_X5_157 mi_X5_toldNow se_X5_toldNow (c_X5_toldNow hlt w6 hb (by subst hG; simpa [u3_ap] using en)) (w6.k (by first | rfl | assumption)) rfl rfl (Nat.le_of_ble_eq_true rfl) (am_rm hR (by decide)) (fun _ _ z => z) (fun v hx hq hE => ?_)
  obtain ⟨rfl, rfl⟩ := hq
  rw [hQ]
  refine g_iret dX5_bid_156 rfl rfl (by decide) (by decide) ?_
  subst hG
  exact ⟨by simp [u3_ap], by simpa [u3_ap] using w6⟩
set_option maxRecDepth 100000 in
set_option maxHeartbeats 4000000 in
theorem c_X5_bid_2ac {l : Launch} (hlt : l.stackTraces = false) {N n p : Nat} {ord : List Nat} {L : Nat → Nat → Nat} {Γ : Nat → Nat → Nat → Int32} {o : Int64} {h : am_H} (w : WI N n p ord L Γ o h) {b : Nat} (hb : b ≤ 8) (en : Γ 11 0 3 = nI b) {i : Nat} (hi : i < b) {a c : Int32} (ab : a < 0 ∨ ¬ a ≤ 99) (hf : ¬ Γ 11 0 1 = -1) (hs : ¬ Γ 13 10 i = 0) (hl : a < Γ 12 7 i) : am_Con l yX5_bid (.code yX5_bid cX5_bid 7 (some .int)) 20 0 0 [.ref (L 11 0), .int (nI i), .int a, .int c] h (fun v h' => v = some (.int 0) ∧ WI N n p ord L (u3 Γ 11 0 34 2) o h') (fun _ _ => False) := by
  refine am_body hlt (by decide +kernel) (Nat.le_of_ble_eq_true rfl) (fun k hl hR h0 hno => ?_)
  subst hl
  obtain ⟨Qf, hQ⟩ : ∃ Qf, Qf = am_Q k 0 0 (fun v h' => v = some (.int 0) ∧ WI N n p ord L (u3 Γ 11 0 34 2) o h') (fun _ _ => False) := ⟨_, rfl⟩
  rw [← hQ]
  have hm : wdm n p 11 0 = true := rfl
  refine g_aload_n dX5_bid_0 rfl ?_
  refine g_iload_n dX5_bid_1 rfl ?_
  refine g_callV [_] dX5_bid_2 mc_X5_107 mi_X5_isDistrict se_X5_isDistrict (c_X5_isD_1 hlt w hb en (by assumption)) (w.k (by first | rfl | assumption)) rfl rfl (Nat.le_of_ble_eq_true rfl) (am_rm hR (by decide)) (fun _ _ z => z) (fun v hx hq hE => ?_)
  obtain ⟨rfl, rfl⟩ := hq
  refine g_istore dX5_bid_5 (by decide) rfl ?_
  refine g_iload_n dX5_bid_7 rfl ?_
  refine g_iconst (v := 0) dX5_bid_8 (by decide) ?_
  refine g_bipush (v := 99) dX5_bid_9 (by decide) ?_
  refine g_callS [_, _, _] dX5_bid_11 mc_X5_96 ms_X5_isIn (c_X5_isIn_0 hlt ab) rfl (Nat.le_of_ble_eq_true rfl) (am_rm hR (by decide)) (fun _ _ z => z) (fun v hx hq hE => ?_)
  obtain ⟨rfl, rfl⟩ := hq
  refine g_if_eq 32 dX5_bid_14 (by decide) (fun _ => ?_) (fun z => absurd z (by decide))
  refine g_iconst (v := 0) dX5_bid_32 (by decide) ?_
  refine g_istore dX5_bid_33 (by decide) rfl ?_
  refine g_iload dX5_bid_35 rfl ?_
  refine g_if_eq 71 dX5_bid_37 (by decide) (fun z => absurd z (by decide)) (fun _ => ?_)
  refine g_aload_n dX5_bid_40 rfl ?_
  refine w_getI w dX5_bid_41 fl_X5_110 rfl rfl (by first | rfl | assumption) ?_
  refine g_iconst (v := (-1)) dX5_bid_44 (by decide) ?_
  refine g_icmp_eq 71 dX5_bid_45 (by decide) (fun z => absurd z hf) (fun c_45 => ?_)
  refine g_aload_n dX5_bid_48 rfl ?_
  refine w_getR w dX5_bid_49 fl_X5_28 rfl rfl (by first | rfl | assumption) rfl ?_
  refine g_iload_n dX5_bid_52 rfl ?_
  refine w_zald w dX5_bid_53 (by first | rfl | assumption) (by first | assumption | omega | (show _ < 8; omega) | (show _ < 24; omega) | (show _ < 9; omega)) ?_
  refine g_if_eq 67 dX5_bid_54 (by decide) (fun z => absurd z hs) (fun c_54 => ?_)
  refine g_iload_n dX5_bid_57 rfl ?_
  refine g_aload_n dX5_bid_58 rfl ?_
  refine w_getR w dX5_bid_59 fl_X5_19 rfl rfl (by first | rfl | assumption) rfl ?_
  refine g_iload_n dX5_bid_62 rfl ?_
  refine w_ald w dX5_bid_63 (by decide) (by first | rfl | assumption) (by first | assumption | omega | (show _ < 8; omega) | (show _ < 24; omega) | (show _ < 9; omega)) ?_
  refine g_icmp_lt 71 dX5_bid_64 (by decide) (fun c_64 => ?_) (fun z => absurd hl z)
  refine g_iconst (v := 0) dX5_bid_71 (by decide) ?_
  refine g_istore dX5_bid_72 (by decide) rfl ?_
  refine g_aload_n dX5_bid_74 rfl ?_
  refine g_iload dX5_bid_75 rfl ?_
  refine g_if_ne 84 dX5_bid_77 (by decide) (fun _ => ?_) (fun z => absurd z (by decide))
  refine g_iload dX5_bid_84 rfl ?_
  refine g_if_ne 93 dX5_bid_86 (by decide) (fun z => absurd z (by decide)) (fun _ => ?_)
  refine g_iconst (v := 2) dX5_bid_89 (by decide) ?_
  refine g_goto 103 dX5_bid_90 (by decide) ?_
  refine g_callV [_] dX5_bid_103 mc_X5_103 mi_X5_can se_X5_can (c_X5_can_1 hlt w (a := 2) (by decide)) (w.k (by first | rfl | assumption)) rfl rfl (Nat.le_of_ble_eq_true rfl) (am_rm hR (by decide)) (fun _ _ z => z) (fun v hx hq hE => ?_)
  obtain ⟨rfl, w1⟩ := hq
  obtain ⟨Γ1, hG⟩ : ∃ G, G = u3 Γ 11 0 34 2 := ⟨_, rfl⟩
  rw [← hG] at w1
  have en1 : Γ1 11 0 3 = Γ 11 0 3 := by rw [hG]; rfl
  have ep1 : Γ1 11 0 24 = Γ 11 0 24 := by rw [hG]; rfl
  refine g_if_ne 111 dX5_bid_106 (by decide) (fun z => absurd z (by decide)) (fun _ => ?_)
  refine g_iconst (v := 0) dX5_bid_109 (by decide) ?_
  rw [hQ]
  refine g_iret dX5_bid_110 rfl rfl (by decide) (by decide) ?_
  subst hG
  exact ⟨by first | rfl | simp [u3_ap], by first | exact w1 | simpa [u3_ap] using w1⟩
set_option maxRecDepth 100000 in
set_option maxHeartbeats 4000000 in
theorem c_X5_bid_2bc {l : Launch} (hlt : l.stackTraces = false) {N n p : Nat} {ord : List Nat} {L : Nat → Nat → Nat} {Γ : Nat → Nat → Nat → Int32} {o : Int64} {h : am_H} (w : WI N n p ord L Γ o h) {b : Nat} (hb : b ≤ 8) (en : Γ 11 0 3 = nI b) {i : Nat} (hi : i < b) {a c : Int32} (a1 : ¬ a < 0) (a2 : a ≤ 99) (cb : c < 0 ∨ ¬ c ≤ 999) (hf : ¬ Γ 11 0 1 = -1) (hs : ¬ Γ 13 10 i = 0) (hl : a < Γ 12 7 i) : am_Con l yX5_bid (.code yX5_bid cX5_bid 7 (some .int)) 20 0 0 [.ref (L 11 0), .int (nI i), .int a, .int c] h (fun v h' => v = some (.int 0) ∧ WI N n p ord L (u3 Γ 11 0 34 2) o h') (fun _ _ => False) := by
  refine am_body hlt (by decide +kernel) (Nat.le_of_ble_eq_true rfl) (fun k hl hR h0 hno => ?_)
  subst hl
  obtain ⟨Qf, hQ⟩ : ∃ Qf, Qf = am_Q k 0 0 (fun v h' => v = some (.int 0) ∧ WI N n p ord L (u3 Γ 11 0 34 2) o h') (fun _ _ => False) := ⟨_, rfl⟩
  rw [← hQ]
  have hm : wdm n p 11 0 = true := rfl
  refine g_aload_n dX5_bid_0 rfl ?_
  refine g_iload_n dX5_bid_1 rfl ?_
  refine g_callV [_] dX5_bid_2 mc_X5_107 mi_X5_isDistrict se_X5_isDistrict (c_X5_isD_1 hlt w hb en (by assumption)) (w.k (by first | rfl | assumption)) rfl rfl (Nat.le_of_ble_eq_true rfl) (am_rm hR (by decide)) (fun _ _ z => z) (fun v hx hq hE => ?_)
  obtain ⟨rfl, rfl⟩ := hq
  refine g_istore dX5_bid_5 (by decide) rfl ?_
  refine g_iload_n dX5_bid_7 rfl ?_
  refine g_iconst (v := 0) dX5_bid_8 (by decide) ?_
  refine g_bipush (v := 99) dX5_bid_9 (by decide) ?_
  refine g_callS [_, _, _] dX5_bid_11 mc_X5_96 ms_X5_isIn (c_X5_isIn_1 hlt a1 a2) rfl (Nat.le_of_ble_eq_true rfl) (am_rm hR (by decide)) (fun _ _ z => z) (fun v hx hq hE => ?_)
  obtain ⟨rfl, rfl⟩ := hq
  refine g_if_eq 32 dX5_bid_14 (by decide) (fun z => absurd z (by decide)) (fun _ => ?_)
  refine g_iload_n dX5_bid_17 rfl ?_
  refine g_iconst (v := 0) dX5_bid_18 (by decide) ?_
  refine g_sipush (v := 999) dX5_bid_19 (by decide) ?_
  refine g_callS [_, _, _] dX5_bid_22 mc_X5_96 ms_X5_isIn (c_X5_isIn_0 hlt cb) rfl (Nat.le_of_ble_eq_true rfl) (am_rm hR (by decide)) (fun _ _ z => z) (fun v hx hq hE => ?_)
  obtain ⟨rfl, rfl⟩ := hq
  refine g_if_eq 32 dX5_bid_25 (by decide) (fun _ => ?_) (fun z => absurd z (by decide))
  refine g_iconst (v := 0) dX5_bid_32 (by decide) ?_
  refine g_istore dX5_bid_33 (by decide) rfl ?_
  refine g_iload dX5_bid_35 rfl ?_
  refine g_if_eq 71 dX5_bid_37 (by decide) (fun z => absurd z (by decide)) (fun _ => ?_)
  refine g_aload_n dX5_bid_40 rfl ?_
  refine w_getI w dX5_bid_41 fl_X5_110 rfl rfl (by first | rfl | assumption) ?_
  refine g_iconst (v := (-1)) dX5_bid_44 (by decide) ?_
  refine g_icmp_eq 71 dX5_bid_45 (by decide) (fun z => absurd z hf) (fun c_45 => ?_)
  refine g_aload_n dX5_bid_48 rfl ?_
  refine w_getR w dX5_bid_49 fl_X5_28 rfl rfl (by first | rfl | assumption) rfl ?_
  refine g_iload_n dX5_bid_52 rfl ?_
  refine w_zald w dX5_bid_53 (by first | rfl | assumption) (by first | assumption | omega | (show _ < 8; omega) | (show _ < 24; omega) | (show _ < 9; omega)) ?_
  refine g_if_eq 67 dX5_bid_54 (by decide) (fun z => absurd z hs) (fun c_54 => ?_)
  refine g_iload_n dX5_bid_57 rfl ?_
  refine g_aload_n dX5_bid_58 rfl ?_
  refine w_getR w dX5_bid_59 fl_X5_19 rfl rfl (by first | rfl | assumption) rfl ?_
  refine g_iload_n dX5_bid_62 rfl ?_
  refine w_ald w dX5_bid_63 (by decide) (by first | rfl | assumption) (by first | assumption | omega | (show _ < 8; omega) | (show _ < 24; omega) | (show _ < 9; omega)) ?_
  refine g_icmp_lt 71 dX5_bid_64 (by decide) (fun c_64 => ?_) (fun z => absurd hl z)
  refine g_iconst (v := 0) dX5_bid_71 (by decide) ?_
  refine g_istore dX5_bid_72 (by decide) rfl ?_
  refine g_aload_n dX5_bid_74 rfl ?_
  refine g_iload dX5_bid_75 rfl ?_
  refine g_if_ne 84 dX5_bid_77 (by decide) (fun _ => ?_) (fun z => absurd z (by decide))
  refine g_iload dX5_bid_84 rfl ?_
  refine g_if_ne 93 dX5_bid_86 (by decide) (fun z => absurd z (by decide)) (fun _ => ?_)
  refine g_iconst (v := 2) dX5_bid_89 (by decide) ?_
  refine g_goto 103 dX5_bid_90 (by decide) ?_
  refine g_callV [_] dX5_bid_103 mc_X5_103 mi_X5_can se_X5_can (c_X5_can_1 hlt w (a := 2) (by decide)) (w.k (by first | rfl | assumption)) rfl rfl (Nat.le_of_ble_eq_true rfl) (am_rm hR (by decide)) (fun _ _ z => z) (fun v hx hq hE => ?_)
  obtain ⟨rfl, w1⟩ := hq
  obtain ⟨Γ1, hG⟩ : ∃ G, G = u3 Γ 11 0 34 2 := ⟨_, rfl⟩
  rw [← hG] at w1
  have en1 : Γ1 11 0 3 = Γ 11 0 3 := by rw [hG]; rfl
  have ep1 : Γ1 11 0 24 = Γ 11 0 24 := by rw [hG]; rfl
  refine g_if_ne 111 dX5_bid_106 (by decide) (fun z => absurd z (by decide)) (fun _ => ?_)
  refine g_iconst (v := 0) dX5_bid_109 (by decide) ?_
  rw [hQ]
  refine g_iret dX5_bid_110 rfl rfl (by decide) (by decide) ?_
  subst hG
  exact ⟨by first | rfl | simp [u3_ap], by first | exact w1 | simpa [u3_ap] using w1⟩
set_option maxRecDepth 100000 in
set_option maxHeartbeats 4000000 in
theorem c_X5_bid_3c {l : Launch} (hlt : l.stackTraces = false) {N n p : Nat} {ord : List Nat} {L : Nat → Nat → Nat} {Γ : Nat → Nat → Nat → Int32} {o : Int64} {h : am_H} (w : WI N n p ord L Γ o h) {b : Nat} (hb : b ≤ 8) (en : Γ 11 0 3 = nI b) {i : Nat} (hi : i < b) {a c : Int32} (a1 : ¬ a < 0) (a2 : a ≤ 99) (c1 : ¬ c < 0) (c2 : c ≤ 999) (hf : ¬ Γ 11 0 1 = -1) (hs : ¬ Γ 13 10 i = 0) (hl : a < Γ 12 7 i) : am_Con l yX5_bid (.code yX5_bid cX5_bid 7 (some .int)) 20 0 0 [.ref (L 11 0), .int (nI i), .int a, .int c] h (fun v h' => v = some (.int 0) ∧ WI N n p ord L (u3 Γ 11 0 34 3) o h') (fun _ _ => False) := by
  refine am_body hlt (by decide +kernel) (Nat.le_of_ble_eq_true rfl) (fun k hl hR h0 hno => ?_)
  subst hl
  obtain ⟨Qf, hQ⟩ : ∃ Qf, Qf = am_Q k 0 0 (fun v h' => v = some (.int 0) ∧ WI N n p ord L (u3 Γ 11 0 34 3) o h') (fun _ _ => False) := ⟨_, rfl⟩
  rw [← hQ]
  have hm : wdm n p 11 0 = true := rfl
  refine g_aload_n dX5_bid_0 rfl ?_
  refine g_iload_n dX5_bid_1 rfl ?_
  refine g_callV [_] dX5_bid_2 mc_X5_107 mi_X5_isDistrict se_X5_isDistrict (c_X5_isD_1 hlt w hb en (by assumption)) (w.k (by first | rfl | assumption)) rfl rfl (Nat.le_of_ble_eq_true rfl) (am_rm hR (by decide)) (fun _ _ z => z) (fun v hx hq hE => ?_)
  obtain ⟨rfl, rfl⟩ := hq
  refine g_istore dX5_bid_5 (by decide) rfl ?_
  refine g_iload_n dX5_bid_7 rfl ?_
  refine g_iconst (v := 0) dX5_bid_8 (by decide) ?_
  refine g_bipush (v := 99) dX5_bid_9 (by decide) ?_
  refine g_callS [_, _, _] dX5_bid_11 mc_X5_96 ms_X5_isIn (c_X5_isIn_1 hlt a1 a2) rfl (Nat.le_of_ble_eq_true rfl) (am_rm hR (by decide)) (fun _ _ z => z) (fun v hx hq hE => ?_)
  obtain ⟨rfl, rfl⟩ := hq
  refine g_if_eq 32 dX5_bid_14 (by decide) (fun z => absurd z (by decide)) (fun _ => ?_)
  refine g_iload_n dX5_bid_17 rfl ?_
  refine g_iconst (v := 0) dX5_bid_18 (by decide) ?_
  refine g_sipush (v := 999) dX5_bid_19 (by decide) ?_
  refine g_callS [_, _, _] dX5_bid_22 mc_X5_96 ms_X5_isIn (c_X5_isIn_1 hlt c1 c2) rfl (Nat.le_of_ble_eq_true rfl) (am_rm hR (by decide)) (fun _ _ z => z) (fun v hx hq hE => ?_)
  obtain ⟨rfl, rfl⟩ := hq
  refine g_if_eq 32 dX5_bid_25 (by decide) (fun z => absurd z (by decide)) (fun _ => ?_)
  refine g_iconst (v := 1) dX5_bid_28 (by decide) ?_
  refine g_goto 33 dX5_bid_29 (by decide) ?_
  refine g_istore dX5_bid_33 (by decide) rfl ?_
  refine g_iload dX5_bid_35 rfl ?_
  refine g_if_eq 71 dX5_bid_37 (by decide) (fun z => absurd z (by decide)) (fun _ => ?_)
  refine g_aload_n dX5_bid_40 rfl ?_
  refine w_getI w dX5_bid_41 fl_X5_110 rfl rfl (by first | rfl | assumption) ?_
  refine g_iconst (v := (-1)) dX5_bid_44 (by decide) ?_
  refine g_icmp_eq 71 dX5_bid_45 (by decide) (fun z => absurd z hf) (fun c_45 => ?_)
  refine g_aload_n dX5_bid_48 rfl ?_
  refine w_getR w dX5_bid_49 fl_X5_28 rfl rfl (by first | rfl | assumption) rfl ?_
  refine g_iload_n dX5_bid_52 rfl ?_
  refine w_zald w dX5_bid_53 (by first | rfl | assumption) (by first | assumption | omega | (show _ < 8; omega) | (show _ < 24; omega) | (show _ < 9; omega)) ?_
  refine g_if_eq 67 dX5_bid_54 (by decide) (fun z => absurd z hs) (fun c_54 => ?_)
  refine g_iload_n dX5_bid_57 rfl ?_
  refine g_aload_n dX5_bid_58 rfl ?_
  refine w_getR w dX5_bid_59 fl_X5_19 rfl rfl (by first | rfl | assumption) rfl ?_
  refine g_iload_n dX5_bid_62 rfl ?_
  refine w_ald w dX5_bid_63 (by decide) (by first | rfl | assumption) (by first | assumption | omega | (show _ < 8; omega) | (show _ < 24; omega) | (show _ < 9; omega)) ?_
  refine g_icmp_lt 71 dX5_bid_64 (by decide) (fun c_64 => ?_) (fun z => absurd hl z)
  refine g_iconst (v := 0) dX5_bid_71 (by decide) ?_
  refine g_istore dX5_bid_72 (by decide) rfl ?_
  refine g_aload_n dX5_bid_74 rfl ?_
  refine g_iload dX5_bid_75 rfl ?_
  refine g_if_ne 84 dX5_bid_77 (by decide) (fun _ => ?_) (fun z => absurd z (by decide))
  refine g_iload dX5_bid_84 rfl ?_
  refine g_if_ne 93 dX5_bid_86 (by decide) (fun _ => ?_) (fun z => absurd z (by decide))
  refine g_iload dX5_bid_93 rfl ?_
  refine g_if_eq 102 dX5_bid_95 (by decide) (fun _ => ?_) (fun z => absurd z (by decide))
  refine g_iconst (v := 3) dX5_bid_102 (by decide) ?_
  refine g_callV [_] dX5_bid_103 mc_X5_103 mi_X5_can se_X5_can (c_X5_can_1 hlt w (a := 3) (by decide)) (w.k (by first | rfl | assumption)) rfl rfl (Nat.le_of_ble_eq_true rfl) (am_rm hR (by decide)) (fun _ _ z => z) (fun v hx hq hE => ?_)
  obtain ⟨rfl, w1⟩ := hq
  obtain ⟨Γ1, hG⟩ : ∃ G, G = u3 Γ 11 0 34 3 := ⟨_, rfl⟩
  rw [← hG] at w1
  have en1 : Γ1 11 0 3 = Γ 11 0 3 := by rw [hG]; rfl
  have ep1 : Γ1 11 0 24 = Γ 11 0 24 := by rw [hG]; rfl
  refine g_if_ne 111 dX5_bid_106 (by decide) (fun z => absurd z (by decide)) (fun _ => ?_)
  refine g_iconst (v := 0) dX5_bid_109 (by decide) ?_
  rw [hQ]
  refine g_iret dX5_bid_110 rfl rfl (by decide) (by decide) ?_
  subst hG
  exact ⟨by first | rfl | simp [u3_ap], by first | exact w1 | simpa [u3_ap] using w1⟩
set_option maxRecDepth 100000 in
set_option maxHeartbeats 4000000 in
theorem c_X5_bid_2ad {l : Launch} (hlt : l.stackTraces = false) {N n p : Nat} {ord : List Nat} {L : Nat → Nat → Nat} {Γ : Nat → Nat → Nat → Int32} {o : Int64} {h : am_H} (w : WI N n p ord L Γ o h) {b : Nat} (hb : b ≤ 8) (en : Γ 11 0 3 = nI b) {i : Nat} (hi : i < b) {a c : Int32} (ab : a < 0 ∨ ¬ a ≤ 99) (hf : ¬ Γ 11 0 1 = -1) (hs : ¬ Γ 13 10 i = 0) (hl : ¬ a < Γ 12 7 i) : am_Con l yX5_bid (.code yX5_bid cX5_bid 7 (some .int)) 20 0 0 [.ref (L 11 0), .int (nI i), .int a, .int c] h (fun v h' => v = some (.int 0) ∧ WI N n p ord L (u3 Γ 11 0 34 2) o h') (fun _ _ => False) := by
  refine am_body hlt (by decide +kernel) (Nat.le_of_ble_eq_true rfl) (fun k hl hR h0 hno => ?_)
  subst hl
  obtain ⟨Qf, hQ⟩ : ∃ Qf, Qf = am_Q k 0 0 (fun v h' => v = some (.int 0) ∧ WI N n p ord L (u3 Γ 11 0 34 2) o h') (fun _ _ => False) := ⟨_, rfl⟩
  rw [← hQ]
  have hm : wdm n p 11 0 = true := rfl
  refine g_aload_n dX5_bid_0 rfl ?_
  refine g_iload_n dX5_bid_1 rfl ?_
  refine g_callV [_] dX5_bid_2 mc_X5_107 mi_X5_isDistrict se_X5_isDistrict (c_X5_isD_1 hlt w hb en (by assumption)) (w.k (by first | rfl | assumption)) rfl rfl (Nat.le_of_ble_eq_true rfl) (am_rm hR (by decide)) (fun _ _ z => z) (fun v hx hq hE => ?_)
  obtain ⟨rfl, rfl⟩ := hq
  refine g_istore dX5_bid_5 (by decide) rfl ?_
  refine g_iload_n dX5_bid_7 rfl ?_
  refine g_iconst (v := 0) dX5_bid_8 (by decide) ?_
  refine g_bipush (v := 99) dX5_bid_9 (by decide) ?_
  refine g_callS [_, _, _] dX5_bid_11 mc_X5_96 ms_X5_isIn (c_X5_isIn_0 hlt ab) rfl (Nat.le_of_ble_eq_true rfl) (am_rm hR (by decide)) (fun _ _ z => z) (fun v hx hq hE => ?_)
  obtain ⟨rfl, rfl⟩ := hq
  refine g_if_eq 32 dX5_bid_14 (by decide) (fun _ => ?_) (fun z => absurd z (by decide))
  refine g_iconst (v := 0) dX5_bid_32 (by decide) ?_
  refine g_istore dX5_bid_33 (by decide) rfl ?_
  refine g_iload dX5_bid_35 rfl ?_
  refine g_if_eq 71 dX5_bid_37 (by decide) (fun z => absurd z (by decide)) (fun _ => ?_)
  refine g_aload_n dX5_bid_40 rfl ?_
  refine w_getI w dX5_bid_41 fl_X5_110 rfl rfl (by first | rfl | assumption) ?_
  refine g_iconst (v := (-1)) dX5_bid_44 (by decide) ?_
  refine g_icmp_eq 71 dX5_bid_45 (by decide) (fun z => absurd z hf) (fun c_45 => ?_)
  refine g_aload_n dX5_bid_48 rfl ?_
  refine w_getR w dX5_bid_49 fl_X5_28 rfl rfl (by first | rfl | assumption) rfl ?_
  refine g_iload_n dX5_bid_52 rfl ?_
  refine w_zald w dX5_bid_53 (by first | rfl | assumption) (by first | assumption | omega | (show _ < 8; omega) | (show _ < 24; omega) | (show _ < 9; omega)) ?_
  refine g_if_eq 67 dX5_bid_54 (by decide) (fun z => absurd z hs) (fun c_54 => ?_)
  refine g_iload_n dX5_bid_57 rfl ?_
  refine g_aload_n dX5_bid_58 rfl ?_
  refine w_getR w dX5_bid_59 fl_X5_19 rfl rfl (by first | rfl | assumption) rfl ?_
  refine g_iload_n dX5_bid_62 rfl ?_
  refine w_ald w dX5_bid_63 (by decide) (by first | rfl | assumption) (by first | assumption | omega | (show _ < 8; omega) | (show _ < 24; omega) | (show _ < 9; omega)) ?_
  refine g_icmp_lt 71 dX5_bid_64 (by decide) (fun z => absurd z hl) (fun c_64 => ?_)
  refine g_iconst (v := 1) dX5_bid_67 (by decide) ?_
  refine g_goto 72 dX5_bid_68 (by decide) ?_
  refine g_istore dX5_bid_72 (by decide) rfl ?_
  refine g_aload_n dX5_bid_74 rfl ?_
  refine g_iload dX5_bid_75 rfl ?_
  refine g_if_ne 84 dX5_bid_77 (by decide) (fun _ => ?_) (fun z => absurd z (by decide))
  refine g_iload dX5_bid_84 rfl ?_
  refine g_if_ne 93 dX5_bid_86 (by decide) (fun z => absurd z (by decide)) (fun _ => ?_)
  refine g_iconst (v := 2) dX5_bid_89 (by decide) ?_
  refine g_goto 103 dX5_bid_90 (by decide) ?_
  refine g_callV [_] dX5_bid_103 mc_X5_103 mi_X5_can se_X5_can (c_X5_can_1 hlt w (a := 2) (by decide)) (w.k (by first | rfl | assumption)) rfl rfl (Nat.le_of_ble_eq_true rfl) (am_rm hR (by decide)) (fun _ _ z => z) (fun v hx hq hE => ?_)
  obtain ⟨rfl, w1⟩ := hq
  obtain ⟨Γ1, hG⟩ : ∃ G, G = u3 Γ 11 0 34 2 := ⟨_, rfl⟩
  rw [← hG] at w1
  have en1 : Γ1 11 0 3 = Γ 11 0 3 := by rw [hG]; rfl
  have ep1 : Γ1 11 0 24 = Γ 11 0 24 := by rw [hG]; rfl
  refine g_if_ne 111 dX5_bid_106 (by decide) (fun z => absurd z (by decide)) (fun _ => ?_)
  refine g_iconst (v := 0) dX5_bid_109 (by decide) ?_
  rw [hQ]
  refine g_iret dX5_bid_110 rfl rfl (by decide) (by decide) ?_
  subst hG
  exact ⟨by first | rfl | simp [u3_ap], by first | exact w1 | simpa [u3_ap] using w1⟩
set_option maxRecDepth 100000 in
set_option maxHeartbeats 4000000 in
theorem c_X5_bid_2bd {l : Launch} (hlt : l.stackTraces = false) {N n p : Nat} {ord : List Nat} {L : Nat → Nat → Nat} {Γ : Nat → Nat → Nat → Int32} {o : Int64} {h : am_H} (w : WI N n p ord L Γ o h) {b : Nat} (hb : b ≤ 8) (en : Γ 11 0 3 = nI b) {i : Nat} (hi : i < b) {a c : Int32} (a1 : ¬ a < 0) (a2 : a ≤ 99) (cb : c < 0 ∨ ¬ c ≤ 999) (hf : ¬ Γ 11 0 1 = -1) (hs : ¬ Γ 13 10 i = 0) (hl : ¬ a < Γ 12 7 i) : am_Con l yX5_bid (.code yX5_bid cX5_bid 7 (some .int)) 20 0 0 [.ref (L 11 0), .int (nI i), .int a, .int c] h (fun v h' => v = some (.int 0) ∧ WI N n p ord L (u3 Γ 11 0 34 2) o h') (fun _ _ => False) := by
  refine am_body hlt (by decide +kernel) (Nat.le_of_ble_eq_true rfl) (fun k hl hR h0 hno => ?_)
  subst hl
  obtain ⟨Qf, hQ⟩ : ∃ Qf, Qf = am_Q k 0 0 (fun v h' => v = some (.int 0) ∧ WI N n p ord L (u3 Γ 11 0 34 2) o h') (fun _ _ => False) := ⟨_, rfl⟩
  rw [← hQ]
  have hm : wdm n p 11 0 = true := rfl
  refine g_aload_n dX5_bid_0 rfl ?_
  refine g_iload_n dX5_bid_1 rfl ?_
  refine g_callV [_] dX5_bid_2 mc_X5_107 mi_X5_isDistrict se_X5_isDistrict (c_X5_isD_1 hlt w hb en (by assumption)) (w.k (by first | rfl | assumption)) rfl rfl (Nat.le_of_ble_eq_true rfl) (am_rm hR (by decide)) (fun _ _ z => z) (fun v hx hq hE => ?_)
  obtain ⟨rfl, rfl⟩ := hq
  refine g_istore dX5_bid_5 (by decide) rfl ?_
  refine g_iload_n dX5_bid_7 rfl ?_
  refine g_iconst (v := 0) dX5_bid_8 (by decide) ?_
  refine g_bipush (v := 99) dX5_bid_9 (by decide) ?_
  refine g_callS [_, _, _] dX5_bid_11 mc_X5_96 ms_X5_isIn (c_X5_isIn_1 hlt a1 a2) rfl (Nat.le_of_ble_eq_true rfl) (am_rm hR (by decide)) (fun _ _ z => z) (fun v hx hq hE => ?_)
  obtain ⟨rfl, rfl⟩ := hq
  refine g_if_eq 32 dX5_bid_14 (by decide) (fun z => absurd z (by decide)) (fun _ => ?_)
  refine g_iload_n dX5_bid_17 rfl ?_
  refine g_iconst (v := 0) dX5_bid_18 (by decide) ?_
  refine g_sipush (v := 999) dX5_bid_19 (by decide) ?_
  refine g_callS [_, _, _] dX5_bid_22 mc_X5_96 ms_X5_isIn (c_X5_isIn_0 hlt cb) rfl (Nat.le_of_ble_eq_true rfl) (am_rm hR (by decide)) (fun _ _ z => z) (fun v hx hq hE => ?_)
  obtain ⟨rfl, rfl⟩ := hq
  refine g_if_eq 32 dX5_bid_25 (by decide) (fun _ => ?_) (fun z => absurd z (by decide))
  refine g_iconst (v := 0) dX5_bid_32 (by decide) ?_
  refine g_istore dX5_bid_33 (by decide) rfl ?_
  refine g_iload dX5_bid_35 rfl ?_
  refine g_if_eq 71 dX5_bid_37 (by decide) (fun z => absurd z (by decide)) (fun _ => ?_)
  refine g_aload_n dX5_bid_40 rfl ?_
  refine w_getI w dX5_bid_41 fl_X5_110 rfl rfl (by first | rfl | assumption) ?_
  refine g_iconst (v := (-1)) dX5_bid_44 (by decide) ?_
  refine g_icmp_eq 71 dX5_bid_45 (by decide) (fun z => absurd z hf) (fun c_45 => ?_)
  refine g_aload_n dX5_bid_48 rfl ?_
  refine w_getR w dX5_bid_49 fl_X5_28 rfl rfl (by first | rfl | assumption) rfl ?_
  refine g_iload_n dX5_bid_52 rfl ?_
  refine w_zald w dX5_bid_53 (by first | rfl | assumption) (by first | assumption | omega | (show _ < 8; omega) | (show _ < 24; omega) | (show _ < 9; omega)) ?_
  refine g_if_eq 67 dX5_bid_54 (by decide) (fun z => absurd z hs) (fun c_54 => ?_)
  refine g_iload_n dX5_bid_57 rfl ?_
  refine g_aload_n dX5_bid_58 rfl ?_
  refine w_getR w dX5_bid_59 fl_X5_19 rfl rfl (by first | rfl | assumption) rfl ?_
  refine g_iload_n dX5_bid_62 rfl ?_
  refine w_ald w dX5_bid_63 (by decide) (by first | rfl | assumption) (by first | assumption | omega | (show _ < 8; omega) | (show _ < 24; omega) | (show _ < 9; omega)) ?_
  refine g_icmp_lt 71 dX5_bid_64 (by decide) (fun z => absurd z hl) (fun c_64 => ?_)
  refine g_iconst (v := 1) dX5_bid_67 (by decide) ?_
  refine g_goto 72 dX5_bid_68 (by decide) ?_
  refine g_istore dX5_bid_72 (by decide) rfl ?_
  refine g_aload_n dX5_bid_74 rfl ?_
  refine g_iload dX5_bid_75 rfl ?_
  refine g_if_ne 84 dX5_bid_77 (by decide) (fun _ => ?_) (fun z => absurd z (by decide))
  refine g_iload dX5_bid_84 rfl ?_
  refine g_if_ne 93 dX5_bid_86 (by decide) (fun z => absurd z (by decide)) (fun _ => ?_)
  refine g_iconst (v := 2) dX5_bid_89 (by decide) ?_
  refine g_goto 103 dX5_bid_90 (by decide) ?_
  refine g_callV [_] dX5_bid_103 mc_X5_103 mi_X5_can se_X5_can (c_X5_can_1 hlt w (a := 2) (by decide)) (w.k (by first | rfl | assumption)) rfl rfl (Nat.le_of_ble_eq_true rfl) (am_rm hR (by decide)) (fun _ _ z => z) (fun v hx hq hE => ?_)
  obtain ⟨rfl, w1⟩ := hq
  obtain ⟨Γ1, hG⟩ : ∃ G, G = u3 Γ 11 0 34 2 := ⟨_, rfl⟩
  rw [← hG] at w1
  have en1 : Γ1 11 0 3 = Γ 11 0 3 := by rw [hG]; rfl
  have ep1 : Γ1 11 0 24 = Γ 11 0 24 := by rw [hG]; rfl
  refine g_if_ne 111 dX5_bid_106 (by decide) (fun z => absurd z (by decide)) (fun _ => ?_)
  refine g_iconst (v := 0) dX5_bid_109 (by decide) ?_
  rw [hQ]
  refine g_iret dX5_bid_110 rfl rfl (by decide) (by decide) ?_
  subst hG
  exact ⟨by first | rfl | simp [u3_ap], by first | exact w1 | simpa [u3_ap] using w1⟩
set_option maxRecDepth 100000 in
set_option maxHeartbeats 4000000 in
theorem c_X5_bid_0d {l : Launch} (hlt : l.stackTraces = false) {N n p : Nat} {ord : List Nat} {L : Nat → Nat → Nat} {Γ : Nat → Nat → Nat → Int32} {o : Int64} {h : am_H} (w : WI N n p ord L Γ o h) {b : Nat} (hb : b ≤ 8) (en : Γ 11 0 3 = nI b) {i : Nat} (hi : i < b) {a c : Int32} (a1 : ¬ a < 0) (a2 : a ≤ 99) (c1 : ¬ c < 0) (c2 : c ≤ 999) (hf : ¬ Γ 11 0 1 = -1) (hs : ¬ Γ 13 10 i = 0) (hl : ¬ a < Γ 12 7 i) : am_Con l yX5_bid (.code yX5_bid cX5_bid 7 (some .int)) 20 0 0 [.ref (L 11 0), .int (nI i), .int a, .int c] h (fun v h' => v = some (.int (sp_sum (fun j => if (u3 (u3 (u3 (u3 (u3 (u3 Γ 11 0 34 0) 12 11 i a) 12 12 i c) 12 13 i (Γ 11 0 16)) 13 14 i 1) 11 0 16 (Γ 11 0 16 + 1)) 13 14 j = 0 then 0 else 1) b)) ∧ WI N n p ord L (u3 (u3 (u3 (u3 (u3 (u3 Γ 11 0 34 0) 12 11 i a) 12 12 i c) 12 13 i (Γ 11 0 16)) 13 14 i 1) 11 0 16 (Γ 11 0 16 + 1)) o h') (fun _ _ => False) := by
  refine am_body hlt (by decide +kernel) (Nat.le_of_ble_eq_true rfl) (fun k hl hR h0 hno => ?_)
  subst hl
  obtain ⟨Qf, hQ⟩ : ∃ Qf, Qf = am_Q k 0 0 (fun v h' => v = some (.int (sp_sum (fun j => if (u3 (u3 (u3 (u3 (u3 (u3 Γ 11 0 34 0) 12 11 i a) 12 12 i c) 12 13 i (Γ 11 0 16)) 13 14 i 1) 11 0 16 (Γ 11 0 16 + 1)) 13 14 j = 0 then 0 else 1) b)) ∧ WI N n p ord L (u3 (u3 (u3 (u3 (u3 (u3 Γ 11 0 34 0) 12 11 i a) 12 12 i c) 12 13 i (Γ 11 0 16)) 13 14 i 1) 11 0 16 (Γ 11 0 16 + 1)) o h') (fun _ _ => False) := ⟨_, rfl⟩
  rw [← hQ]
  have hm : wdm n p 11 0 = true := rfl
  refine g_aload_n dX5_bid_0 rfl ?_
  refine g_iload_n dX5_bid_1 rfl ?_
  refine g_callV [_] dX5_bid_2 mc_X5_107 mi_X5_isDistrict se_X5_isDistrict (c_X5_isD_1 hlt w hb en (by assumption)) (w.k (by first | rfl | assumption)) rfl rfl (Nat.le_of_ble_eq_true rfl) (am_rm hR (by decide)) (fun _ _ z => z) (fun v hx hq hE => ?_)
  obtain ⟨rfl, rfl⟩ := hq
  refine g_istore dX5_bid_5 (by decide) rfl ?_
  refine g_iload_n dX5_bid_7 rfl ?_
  refine g_iconst (v := 0) dX5_bid_8 (by decide) ?_
  refine g_bipush (v := 99) dX5_bid_9 (by decide) ?_
  refine g_callS [_, _, _] dX5_bid_11 mc_X5_96 ms_X5_isIn (c_X5_isIn_1 hlt a1 a2) rfl (Nat.le_of_ble_eq_true rfl) (am_rm hR (by decide)) (fun _ _ z => z) (fun v hx hq hE => ?_)
  obtain ⟨rfl, rfl⟩ := hq
  refine g_if_eq 32 dX5_bid_14 (by decide) (fun z => absurd z (by decide)) (fun _ => ?_)
  refine g_iload_n dX5_bid_17 rfl ?_
  refine g_iconst (v := 0) dX5_bid_18 (by decide) ?_
  refine g_sipush (v := 999) dX5_bid_19 (by decide) ?_
  refine g_callS [_, _, _] dX5_bid_22 mc_X5_96 ms_X5_isIn (c_X5_isIn_1 hlt c1 c2) rfl (Nat.le_of_ble_eq_true rfl) (am_rm hR (by decide)) (fun _ _ z => z) (fun v hx hq hE => ?_)
  obtain ⟨rfl, rfl⟩ := hq
  refine g_if_eq 32 dX5_bid_25 (by decide) (fun z => absurd z (by decide)) (fun _ => ?_)
  refine g_iconst (v := 1) dX5_bid_28 (by decide) ?_
  refine g_goto 33 dX5_bid_29 (by decide) ?_
  refine g_istore dX5_bid_33 (by decide) rfl ?_
  refine g_iload dX5_bid_35 rfl ?_
  refine g_if_eq 71 dX5_bid_37 (by decide) (fun z => absurd z (by decide)) (fun _ => ?_)
  refine g_aload_n dX5_bid_40 rfl ?_
  refine w_getI w dX5_bid_41 fl_X5_110 rfl rfl (by first | rfl | assumption) ?_
  refine g_iconst (v := (-1)) dX5_bid_44 (by decide) ?_
  refine g_icmp_eq 71 dX5_bid_45 (by decide) (fun z => absurd z hf) (fun c_45 => ?_)
  refine g_aload_n dX5_bid_48 rfl ?_
  refine w_getR w dX5_bid_49 fl_X5_28 rfl rfl (by first | rfl | assumption) rfl ?_
  refine g_iload_n dX5_bid_52 rfl ?_
  refine w_zald w dX5_bid_53 (by first | rfl | assumption) (by first | assumption | omega | (show _ < 8; omega) | (show _ < 24; omega) | (show _ < 9; omega)) ?_
  refine g_if_eq 67 dX5_bid_54 (by decide) (fun z => absurd z hs) (fun c_54 => ?_)
  refine g_iload_n dX5_bid_57 rfl ?_
  refine g_aload_n dX5_bid_58 rfl ?_
  refine w_getR w dX5_bid_59 fl_X5_19 rfl rfl (by first | rfl | assumption) rfl ?_
  refine g_iload_n dX5_bid_62 rfl ?_
  refine w_ald w dX5_bid_63 (by decide) (by first | rfl | assumption) (by first | assumption | omega | (show _ < 8; omega) | (show _ < 24; omega) | (show _ < 9; omega)) ?_
  refine g_icmp_lt 71 dX5_bid_64 (by decide) (fun z => absurd z hl) (fun c_64 => ?_)
  refine g_iconst (v := 1) dX5_bid_67 (by decide) ?_
  refine g_goto 72 dX5_bid_68 (by decide) ?_
  refine g_istore dX5_bid_72 (by decide) rfl ?_
  refine g_aload_n dX5_bid_74 rfl ?_
  refine g_iload dX5_bid_75 rfl ?_
  refine g_if_ne 84 dX5_bid_77 (by decide) (fun _ => ?_) (fun z => absurd z (by decide))
  refine g_iload dX5_bid_84 rfl ?_
  refine g_if_ne 93 dX5_bid_86 (by decide) (fun _ => ?_) (fun z => absurd z (by decide))
  refine g_iload dX5_bid_93 rfl ?_
  refine g_if_eq 102 dX5_bid_95 (by decide) (fun z => absurd z (by decide)) (fun _ => ?_)
  refine g_iconst (v := 0) dX5_bid_98 (by decide) ?_
  refine g_goto 103 dX5_bid_99 (by decide) ?_
  refine g_callV [_] dX5_bid_103 mc_X5_103 mi_X5_can se_X5_can (c_X5_can_0 hlt w) (w.k (by first | rfl | assumption)) rfl rfl (Nat.le_of_ble_eq_true rfl) (am_rm hR (by decide)) (fun _ _ z => z) (fun v hx hq hE => ?_)
  obtain ⟨rfl, w1⟩ := hq
  obtain ⟨Γ1, hG⟩ : ∃ G, G = u3 Γ 11 0 34 0 := ⟨_, rfl⟩
  rw [← hG] at w1
  have en1 : Γ1 11 0 3 = Γ 11 0 3 := by rw [hG]; rfl
  have ep1 : Γ1 11 0 24 = Γ 11 0 24 := by rw [hG]; rfl
  refine g_if_ne 111 dX5_bid_106 (by decide) (fun _ => ?_) (fun z => absurd z (by decide))
  refine g_aload_n dX5_bid_111 rfl ?_
  refine w_getR w1 dX5_bid_112 fl_X5_32 rfl rfl (by first | rfl | assumption) rfl ?_
  refine g_iload_n dX5_bid_115 rfl ?_
  refine g_iload_n dX5_bid_116 rfl ?_
  refine w_ast w1 dX5_bid_117 (by decide) (by first | rfl | assumption) (by first | assumption | omega | (show _ < 8; omega) | (show _ < 24; omega) | (show _ < 9; omega)) (fun h2 w2 => ?_)
  refine g_aload_n dX5_bid_118 rfl ?_
  refine w_getR w2 dX5_bid_119 fl_X5_35 rfl rfl (by first | rfl | assumption) rfl ?_
  refine g_iload_n dX5_bid_122 rfl ?_
  refine g_iload_n dX5_bid_123 rfl ?_
  refine w_ast w2 dX5_bid_124 (by decide) (by first | rfl | assumption) (by first | assumption | omega | (show _ < 8; omega) | (show _ < 24; omega) | (show _ < 9; omega)) (fun h3 w3 => ?_)
  refine g_aload_n dX5_bid_125 rfl ?_
  refine w_getR w3 dX5_bid_126 fl_X5_38 rfl rfl (by first | rfl | assumption) rfl ?_
  refine g_iload_n dX5_bid_129 rfl ?_
  refine g_aload_n dX5_bid_130 rfl ?_
  refine w_getI w3 dX5_bid_131 fl_X5_154 rfl rfl (by first | rfl | assumption) ?_
  refine w_ast w3 dX5_bid_134 (by decide) (by first | rfl | assumption) (by first | assumption | omega | (show _ < 8; omega) | (show _ < 24; omega) | (show _ < 9; omega)) (fun h4 w4 => ?_)
  refine g_aload_n dX5_bid_135 rfl ?_
  refine w_getR w4 dX5_bid_136 fl_X5_41 rfl rfl (by first | rfl | assumption) rfl ?_
  refine g_iload_n dX5_bid_139 rfl ?_
  refine g_iconst (v := 1) dX5_bid_140 (by decide) ?_
  refine w_zast w4 dX5_bid_141 (by first | rfl | assumption) (by first | assumption | omega | (show _ < 8; omega) | (show _ < 24; omega) | (show _ < 9; omega)) rfl (fun h5 w5 => ?_)
  refine g_aload_n dX5_bid_142 rfl ?_
  refine g_dup dX5_bid_143 rfl ?_
  refine w_getI w5 dX5_bid_144 fl_X5_154 rfl rfl (by first | rfl | assumption) ?_
  refine g_iconst (v := 1) dX5_bid_147 (by decide) ?_
  refine g_iadd dX5_bid_148 ?_
  refine w_putI w5 dX5_bid_149 fl_X5_154 rfl rfl (by decide) (fun q hq => by cases hq; rfl) (by first | rfl | assumption) rfl rfl (fun h6 w6 => ?_)
  refine g_aload_n dX5_bid_152 rfl ?_
  refine g_callV [] dX5_bid_153 mc_X5_157 mi_X5_toldNow se_X5_toldNow (c_X5_toldNow hlt w6 hb (by subst hG; simpa [u3_ap] using en)) (w6.k (by first | rfl | assumption)) rfl rfl (Nat.le_of_ble_eq_true rfl) (am_rm hR (by decide)) (fun _ _ z => z) (fun v hx hq hE => ?_)
  obtain ⟨rfl, rfl⟩ := hq
  rw [hQ]
  refine g_iret dX5_bid_156 rfl rfl (by decide) (by decide) ?_
  subst hG
  exact ⟨by simp [u3_ap], by simpa [u3_ap] using w6⟩
set_option maxRecDepth 100000 in
set_option maxHeartbeats 4000000 in
theorem c_X5_repair_1 {l : Launch} (hlt : l.stackTraces = false) {N n p : Nat} {ord : List Nat} {L : Nat → Nat → Nat} {Γ : Nat → Nat → Nat → Int32} {o : Int64} {h : am_H} (w : WI N n p ord L Γ o h) {q : Nat} (hq0 : q ≤ 24) (ep : Γ 11 0 24 = nI q) {x : Int32} (hx9 : x < 0 ∨ nI q ≤ x) : am_Con l yX5_repair (.code yX5_repair cX5_repair 3 none) 20 0 0 [.ref (L 11 0), .int x] h (fun v h' => v = none ∧ WI N n p ord L (u3 Γ 11 0 34 1) o h') (fun _ _ => False) := by
  refine am_body hlt (by decide +kernel) (Nat.le_of_ble_eq_true rfl) (fun k hl hR h0 hno => ?_)
  subst hl
  obtain ⟨Qf, hQ⟩ : ∃ Qf, Qf = am_Q k 0 0 (fun v h' => v = none ∧ WI N n p ord L (u3 Γ 11 0 34 1) o h') (fun _ _ => False) := ⟨_, rfl⟩
  rw [← hQ]
  have hm : wdm n p 11 0 = true := rfl
  refine g_aload_n dX5_repair_0 rfl ?_
  refine g_iload_n dX5_repair_1 rfl ?_
  refine g_callV [_] dX5_repair_2 mc_X5_166 mi_X5_isPipe se_X5_isPipe (c_X5_isP_0 hlt w hq0 ep (by assumption)) (w.k (by first | rfl | assumption)) rfl rfl (Nat.le_of_ble_eq_true rfl) (am_rm hR (by decide)) (fun _ _ z => z) (fun v hx hq hE => ?_)
  obtain ⟨rfl, rfl⟩ := hq
  refine g_istore_n dX5_repair_5 (by decide) rfl ?_
  refine g_aload_n dX5_repair_6 rfl ?_
  refine g_iload_n dX5_repair_7 rfl ?_
  refine g_if_ne 15 dX5_repair_8 (by decide) (fun z => absurd z (by decide)) (fun _ => ?_)
  refine g_iconst (v := 1) dX5_repair_11 (by decide) ?_
  refine g_goto 37 dX5_repair_12 (by decide) ?_
  refine g_callV [_] dX5_repair_37 mc_X5_103 mi_X5_can se_X5_can (c_X5_can_1 hlt w (a := 1) (by decide)) (w.k (by first | rfl | assumption)) rfl rfl (Nat.le_of_ble_eq_true rfl) (am_rm hR (by decide)) (fun _ _ z => z) (fun v hx hq hE => ?_)
  obtain ⟨rfl, w1⟩ := hq
  obtain ⟨Γ1, hG⟩ : ∃ G, G = u3 Γ 11 0 34 1 := ⟨_, rfl⟩
  rw [← hG] at w1
  have en1 : Γ1 11 0 3 = Γ 11 0 3 := by rw [hG]; rfl
  have ep1 : Γ1 11 0 24 = Γ 11 0 24 := by rw [hG]; rfl
  refine g_if_eq 50 dX5_repair_40 (by decide) (fun _ => ?_) (fun z => absurd z (by decide))
  rw [hQ]
  refine g_vret dX5_repair_50 rfl (by decide) (by decide) ?_
  subst hG
  exact ⟨by first | rfl | simp [u3_ap], by first | exact w1 | simpa [u3_ap] using w1⟩
set_option maxRecDepth 100000 in
set_option maxHeartbeats 4000000 in
theorem c_X5_repair_2a {l : Launch} (hlt : l.stackTraces = false) {N n p : Nat} {ord : List Nat} {L : Nat → Nat → Nat} {Γ : Nat → Nat → Nat → Int32} {o : Int64} {h : am_H} (w : WI N n p ord L Γ o h) {q : Nat} (hq0 : q ≤ 24) (ep : Γ 11 0 24 = nI q) {i : Nat} (hi : i < q) (hf : Γ 13 28 i = 0) : am_Con l yX5_repair (.code yX5_repair cX5_repair 3 none) 20 0 0 [.ref (L 11 0), .int (nI i)] h (fun v h' => v = none ∧ WI N n p ord L (u3 Γ 11 0 34 2) o h') (fun _ _ => False) := by
  refine am_body hlt (by decide +kernel) (Nat.le_of_ble_eq_true rfl) (fun k hl hR h0 hno => ?_)
  subst hl
  obtain ⟨Qf, hQ⟩ : ∃ Qf, Qf = am_Q k 0 0 (fun v h' => v = none ∧ WI N n p ord L (u3 Γ 11 0 34 2) o h') (fun _ _ => False) := ⟨_, rfl⟩
  rw [← hQ]
  have hm : wdm n p 11 0 = true := rfl
  refine g_aload_n dX5_repair_0 rfl ?_
  refine g_iload_n dX5_repair_1 rfl ?_
  refine g_callV [_] dX5_repair_2 mc_X5_166 mi_X5_isPipe se_X5_isPipe (c_X5_isP_1 hlt w hq0 ep (by assumption)) (w.k (by first | rfl | assumption)) rfl rfl (Nat.le_of_ble_eq_true rfl) (am_rm hR (by decide)) (fun _ _ z => z) (fun v hx hq hE => ?_)
  obtain ⟨rfl, rfl⟩ := hq
  refine g_istore_n dX5_repair_5 (by decide) rfl ?_
  refine g_aload_n dX5_repair_6 rfl ?_
  refine g_iload_n dX5_repair_7 rfl ?_
  refine g_if_ne 15 dX5_repair_8 (by decide) (fun _ => ?_) (fun z => absurd z (by decide))
  refine g_aload_n dX5_repair_15 rfl ?_
  refine w_getR w dX5_repair_16 fl_X5_74 rfl rfl (by first | rfl | assumption) rfl ?_
  refine g_iload_n dX5_repair_19 rfl ?_
  refine w_zald w dX5_repair_20 (by first | rfl | assumption) (by first | assumption | omega | (show _ < 8; omega) | (show _ < 24; omega) | (show _ < 9; omega)) ?_
  refine g_if_eq 32 dX5_repair_21 (by decide) (fun c_21 => ?_) (fun z => absurd hf z)
  refine g_iconst (v := 2) dX5_repair_32 (by decide) ?_
  refine g_goto 37 dX5_repair_33 (by decide) ?_
  refine g_callV [_] dX5_repair_37 mc_X5_103 mi_X5_can se_X5_can (c_X5_can_1 hlt w (a := 2) (by decide)) (w.k (by first | rfl | assumption)) rfl rfl (Nat.le_of_ble_eq_true rfl) (am_rm hR (by decide)) (fun _ _ z => z) (fun v hx hq hE => ?_)
  obtain ⟨rfl, w1⟩ := hq
  obtain ⟨Γ1, hG⟩ : ∃ G, G = u3 Γ 11 0 34 2 := ⟨_, rfl⟩
  rw [← hG] at w1
  have en1 : Γ1 11 0 3 = Γ 11 0 3 := by rw [hG]; rfl
  have ep1 : Γ1 11 0 24 = Γ 11 0 24 := by rw [hG]; rfl
  refine g_if_eq 50 dX5_repair_40 (by decide) (fun _ => ?_) (fun z => absurd z (by decide))
  rw [hQ]
  refine g_vret dX5_repair_50 rfl (by decide) (by decide) ?_
  subst hG
  exact ⟨by first | rfl | simp [u3_ap], by first | exact w1 | simpa [u3_ap] using w1⟩
set_option maxRecDepth 100000 in
set_option maxHeartbeats 4000000 in
theorem c_X5_repair_2b {l : Launch} (hlt : l.stackTraces = false) {N n p : Nat} {ord : List Nat} {L : Nat → Nat → Nat} {Γ : Nat → Nat → Nat → Int32} {o : Int64} {h : am_H} (w : WI N n p ord L Γ o h) {q : Nat} (hq0 : q ≤ 24) (ep : Γ 11 0 24 = nI q) {i : Nat} (hi : i < q) (hf : ¬ Γ 13 28 i = 0) (hg : Γ 11 0 1 = -1) : am_Con l yX5_repair (.code yX5_repair cX5_repair 3 none) 20 0 0 [.ref (L 11 0), .int (nI i)] h (fun v h' => v = none ∧ WI N n p ord L (u3 Γ 11 0 34 2) o h') (fun _ _ => False) := by
  refine am_body hlt (by decide +kernel) (Nat.le_of_ble_eq_true rfl) (fun k hl hR h0 hno => ?_)
  subst hl
  obtain ⟨Qf, hQ⟩ : ∃ Qf, Qf = am_Q k 0 0 (fun v h' => v = none ∧ WI N n p ord L (u3 Γ 11 0 34 2) o h') (fun _ _ => False) := ⟨_, rfl⟩
  rw [← hQ]
  have hm : wdm n p 11 0 = true := rfl
  refine g_aload_n dX5_repair_0 rfl ?_
  refine g_iload_n dX5_repair_1 rfl ?_
  refine g_callV [_] dX5_repair_2 mc_X5_166 mi_X5_isPipe se_X5_isPipe (c_X5_isP_1 hlt w hq0 ep (by assumption)) (w.k (by first | rfl | assumption)) rfl rfl (Nat.le_of_ble_eq_true rfl) (am_rm hR (by decide)) (fun _ _ z => z) (fun v hx hq hE => ?_)
  obtain ⟨rfl, rfl⟩ := hq
  refine g_istore_n dX5_repair_5 (by decide) rfl ?_
  refine g_aload_n dX5_repair_6 rfl ?_
  refine g_iload_n dX5_repair_7 rfl ?_
  refine g_if_ne 15 dX5_repair_8 (by decide) (fun _ => ?_) (fun z => absurd z (by decide))
  refine g_aload_n dX5_repair_15 rfl ?_
  refine w_getR w dX5_repair_16 fl_X5_74 rfl rfl (by first | rfl | assumption) rfl ?_
  refine g_iload_n dX5_repair_19 rfl ?_
  refine w_zald w dX5_repair_20 (by first | rfl | assumption) (by first | assumption | omega | (show _ < 8; omega) | (show _ < 24; omega) | (show _ < 9; omega)) ?_
  refine g_if_eq 32 dX5_repair_21 (by decide) (fun z => absurd z hf) (fun c_21 => ?_)
  refine g_aload_n dX5_repair_24 rfl ?_
  refine w_getI w dX5_repair_25 fl_X5_110 rfl rfl (by first | rfl | assumption) ?_
  refine g_iconst (v := (-1)) dX5_repair_28 (by decide) ?_
  refine g_icmp_ne 36 dX5_repair_29 (by decide) (fun z => absurd hg z) (fun c_29 => ?_)
  refine g_iconst (v := 2) dX5_repair_32 (by decide) ?_
  refine g_goto 37 dX5_repair_33 (by decide) ?_
  refine g_callV [_] dX5_repair_37 mc_X5_103 mi_X5_can se_X5_can (c_X5_can_1 hlt w (a := 2) (by decide)) (w.k (by first | rfl | assumption)) rfl rfl (Nat.le_of_ble_eq_true rfl) (am_rm hR (by decide)) (fun _ _ z => z) (fun v hx hq hE => ?_)
  obtain ⟨rfl, w1⟩ := hq
  obtain ⟨Γ1, hG⟩ : ∃ G, G = u3 Γ 11 0 34 2 := ⟨_, rfl⟩
  rw [← hG] at w1
  have en1 : Γ1 11 0 3 = Γ 11 0 3 := by rw [hG]; rfl
  have ep1 : Γ1 11 0 24 = Γ 11 0 24 := by rw [hG]; rfl
  refine g_if_eq 50 dX5_repair_40 (by decide) (fun _ => ?_) (fun z => absurd z (by decide))
  rw [hQ]
  refine g_vret dX5_repair_50 rfl (by decide) (by decide) ?_
  subst hG
  exact ⟨by first | rfl | simp [u3_ap], by first | exact w1 | simpa [u3_ap] using w1⟩
set_option maxRecDepth 100000 in
set_option maxHeartbeats 4000000 in
theorem c_X5_repair_0 {l : Launch} (hlt : l.stackTraces = false) {N n p : Nat} {ord : List Nat} {L : Nat → Nat → Nat} {Γ : Nat → Nat → Nat → Int32} {o : Int64} {h : am_H} (w : WI N n p ord L Γ o h) {q : Nat} (hq0 : q ≤ 24) (ep : Γ 11 0 24 = nI q) {i : Nat} (hi : i < q) (hf : ¬ Γ 13 28 i = 0) (hg : ¬ Γ 11 0 1 = -1) : am_Con l yX5_repair (.code yX5_repair cX5_repair 3 none) 20 0 0 [.ref (L 11 0), .int (nI i)] h (fun v h' => v = none ∧ WI N n p ord L (u3 (u3 Γ 11 0 34 0) 13 28 i 0) o h') (fun _ _ => False) := by
  refine am_body hlt (by decide +kernel) (Nat.le_of_ble_eq_true rfl) (fun k hl hR h0 hno => ?_)
  subst hl
  obtain ⟨Qf, hQ⟩ : ∃ Qf, Qf = am_Q k 0 0 (fun v h' => v = none ∧ WI N n p ord L (u3 (u3 Γ 11 0 34 0) 13 28 i 0) o h') (fun _ _ => False) := ⟨_, rfl⟩
  rw [← hQ]
  have hm : wdm n p 11 0 = true := rfl
  refine g_aload_n dX5_repair_0 rfl ?_
  refine g_iload_n dX5_repair_1 rfl ?_
  refine g_callV [_] dX5_repair_2 mc_X5_166 mi_X5_isPipe se_X5_isPipe (c_X5_isP_1 hlt w hq0 ep (by assumption)) (w.k (by first | rfl | assumption)) rfl rfl (Nat.le_of_ble_eq_true rfl) (am_rm hR (by decide)) (fun _ _ z => z) (fun v hx hq hE => ?_)
  obtain ⟨rfl, rfl⟩ := hq
  refine g_istore_n dX5_repair_5 (by decide) rfl ?_
  refine g_aload_n dX5_repair_6 rfl ?_
  refine g_iload_n dX5_repair_7 rfl ?_
  refine g_if_ne 15 dX5_repair_8 (by decide) (fun _ => ?_) (fun z => absurd z (by decide))
  refine g_aload_n dX5_repair_15 rfl ?_
  refine w_getR w dX5_repair_16 fl_X5_74 rfl rfl (by first | rfl | assumption) rfl ?_
  refine g_iload_n dX5_repair_19 rfl ?_
  refine w_zald w dX5_repair_20 (by first | rfl | assumption) (by first | assumption | omega | (show _ < 8; omega) | (show _ < 24; omega) | (show _ < 9; omega)) ?_
  refine g_if_eq 32 dX5_repair_21 (by decide) (fun z => absurd z hf) (fun c_21 => ?_)
  refine g_aload_n dX5_repair_24 rfl ?_
  refine w_getI w dX5_repair_25 fl_X5_110 rfl rfl (by first | rfl | assumption) ?_
  refine g_iconst (v := (-1)) dX5_repair_28 (by decide) ?_
  refine g_icmp_ne 36 dX5_repair_29 (by decide) (fun c_29 => ?_) (fun z => absurd z hg)
  refine g_iconst (v := 0) dX5_repair_36 (by decide) ?_
  refine g_callV [_] dX5_repair_37 mc_X5_103 mi_X5_can se_X5_can (c_X5_can_0 hlt w) (w.k (by first | rfl | assumption)) rfl rfl (Nat.le_of_ble_eq_true rfl) (am_rm hR (by decide)) (fun _ _ z => z) (fun v hx hq hE => ?_)
  obtain ⟨rfl, w1⟩ := hq
  obtain ⟨Γ1, hG⟩ : ∃ G, G = u3 Γ 11 0 34 0 := ⟨_, rfl⟩
  rw [← hG] at w1
  have en1 : Γ1 11 0 3 = Γ 11 0 3 := by rw [hG]; rfl
  have ep1 : Γ1 11 0 24 = Γ 11 0 24 := by rw [hG]; rfl
  refine g_if_eq 50 dX5_repair_40 (by decide) (fun z => absurd z (by decide)) (fun _ => ?_)
  refine g_aload_n dX5_repair_43 rfl ?_
  refine w_getR w1 dX5_repair_44 fl_X5_74 rfl rfl (by first | rfl | assumption) rfl ?_
  refine g_iload_n dX5_repair_47 rfl ?_
  refine g_iconst (v := 0) dX5_repair_48 (by decide) ?_
  refine w_zast w1 dX5_repair_49 (by first | rfl | assumption) (by first | assumption | omega | (show _ < 8; omega) | (show _ < 24; omega) | (show _ < 9; omega)) rfl (fun h2 w2 => ?_)
  rw [hQ]
  refine g_vret dX5_repair_50 rfl (by decide) (by decide) ?_
  subst hG
  exact ⟨by first | rfl | simp [u3_ap], by first | exact w2 | simpa [u3_ap] using w2⟩
set_option maxRecDepth 100000 in
set_option maxHeartbeats 4000000 in
theorem c_X5_burst_1 {l : Launch} (hlt : l.stackTraces = false) {N n p : Nat} {ord : List Nat} {L : Nat → Nat → Nat} {Γ : Nat → Nat → Nat → Int32} {o : Int64} {h : am_H} (w : WI N n p ord L Γ o h) {q : Nat} (hq0 : q ≤ 24) (ep : Γ 11 0 24 = nI q) {x : Int32} (hx9 : x < 0 ∨ nI q ≤ x) : am_Con l yX5_burst (.code yX5_burst cX5_burst 6 (some .int)) 20 0 0 [.ref (L 11 0), .int x] h (fun v h' => v = some (.int 0) ∧ WI N n p ord L (u3 Γ 11 0 34 1) o h') (fun _ _ => False) := by
  refine am_body hlt (by decide +kernel) (Nat.le_of_ble_eq_true rfl) (fun k hl hR h0 hno => ?_)
  subst hl
  obtain ⟨Qf, hQ⟩ : ∃ Qf, Qf = am_Q k 0 0 (fun v h' => v = some (.int 0) ∧ WI N n p ord L (u3 Γ 11 0 34 1) o h') (fun _ _ => False) := ⟨_, rfl⟩
  rw [← hQ]
  have hm : wdm n p 11 0 = true := rfl
  refine g_aload_n dX5_burst_0 rfl ?_
  refine g_iload_n dX5_burst_1 rfl ?_
  refine g_callV [_] dX5_burst_2 mc_X5_166 mi_X5_isPipe se_X5_isPipe (c_X5_isP_0 hlt w hq0 ep (by assumption)) (w.k (by first | rfl | assumption)) rfl rfl (Nat.le_of_ble_eq_true rfl) (am_rm hR (by decide)) (fun _ _ z => z) (fun v hx hq hE => ?_)
  obtain ⟨rfl, rfl⟩ := hq
  refine g_istore_n dX5_burst_5 (by decide) rfl ?_
  refine g_aload_n dX5_burst_6 rfl ?_
  refine g_iload_n dX5_burst_7 rfl ?_
  refine g_if_ne 15 dX5_burst_8 (by decide) (fun z => absurd z (by decide)) (fun _ => ?_)
  refine g_iconst (v := 1) dX5_burst_11 (by decide) ?_
  refine g_goto 29 dX5_burst_12 (by decide) ?_
  refine g_callV [_] dX5_burst_29 mc_X5_103 mi_X5_can se_X5_can (c_X5_can_1 hlt w (a := 1) (by decide)) (w.k (by first | rfl | assumption)) rfl rfl (Nat.le_of_ble_eq_true rfl) (am_rm hR (by decide)) (fun _ _ z => z) (fun v hx hq hE => ?_)
  obtain ⟨rfl, w1⟩ := hq
  obtain ⟨Γ1, hG⟩ : ∃ G, G = u3 Γ 11 0 34 1 := ⟨_, rfl⟩
  rw [← hG] at w1
  have en1 : Γ1 11 0 3 = Γ 11 0 3 := by rw [hG]; rfl
  have ep1 : Γ1 11 0 24 = Γ 11 0 24 := by rw [hG]; rfl
  refine g_if_ne 37 dX5_burst_32 (by decide) (fun z => absurd z (by decide)) (fun _ => ?_)
  refine g_iconst (v := 0) dX5_burst_35 (by decide) ?_
  rw [hQ]
  refine g_iret dX5_burst_36 rfl rfl (by decide) (by decide) ?_
  subst hG
  exact ⟨by first | rfl | simp [u3_ap], by first | exact w1 | simpa [u3_ap] using w1⟩
set_option maxRecDepth 100000 in
set_option maxHeartbeats 4000000 in
theorem c_X5_burst_2 {l : Launch} (hlt : l.stackTraces = false) {N n p : Nat} {ord : List Nat} {L : Nat → Nat → Nat} {Γ : Nat → Nat → Nat → Int32} {o : Int64} {h : am_H} (w : WI N n p ord L Γ o h) {q : Nat} (hq0 : q ≤ 24) (ep : Γ 11 0 24 = nI q) {i : Nat} (hi : i < q) (hf : ¬ Γ 13 28 i = 0) : am_Con l yX5_burst (.code yX5_burst cX5_burst 6 (some .int)) 20 0 0 [.ref (L 11 0), .int (nI i)] h (fun v h' => v = some (.int 0) ∧ WI N n p ord L (u3 Γ 11 0 34 2) o h') (fun _ _ => False) := by
  refine am_body hlt (by decide +kernel) (Nat.le_of_ble_eq_true rfl) (fun k hl hR h0 hno => ?_)
  subst hl
  obtain ⟨Qf, hQ⟩ : ∃ Qf, Qf = am_Q k 0 0 (fun v h' => v = some (.int 0) ∧ WI N n p ord L (u3 Γ 11 0 34 2) o h') (fun _ _ => False) := ⟨_, rfl⟩
  rw [← hQ]
  have hm : wdm n p 11 0 = true := rfl
  refine g_aload_n dX5_burst_0 rfl ?_
  refine g_iload_n dX5_burst_1 rfl ?_
  refine g_callV [_] dX5_burst_2 mc_X5_166 mi_X5_isPipe se_X5_isPipe (c_X5_isP_1 hlt w hq0 ep (by assumption)) (w.k (by first | rfl | assumption)) rfl rfl (Nat.le_of_ble_eq_true rfl) (am_rm hR (by decide)) (fun _ _ z => z) (fun v hx hq hE => ?_)
  obtain ⟨rfl, rfl⟩ := hq
  refine g_istore_n dX5_burst_5 (by decide) rfl ?_
  refine g_aload_n dX5_burst_6 rfl ?_
  refine g_iload_n dX5_burst_7 rfl ?_
  refine g_if_ne 15 dX5_burst_8 (by decide) (fun _ => ?_) (fun z => absurd z (by decide))
  refine g_aload_n dX5_burst_15 rfl ?_
  refine w_getR w dX5_burst_16 fl_X5_74 rfl rfl (by first | rfl | assumption) rfl ?_
  refine g_iload_n dX5_burst_19 rfl ?_
  refine w_zald w dX5_burst_20 (by first | rfl | assumption) (by first | assumption | omega | (show _ < 8; omega) | (show _ < 24; omega) | (show _ < 9; omega)) ?_
  refine g_if_eq 28 dX5_burst_21 (by decide) (fun z => absurd z hf) (fun c_21 => ?_)
  refine g_iconst (v := 2) dX5_burst_24 (by decide) ?_
  refine g_goto 29 dX5_burst_25 (by decide) ?_
  refine g_callV [_] dX5_burst_29 mc_X5_103 mi_X5_can se_X5_can (c_X5_can_1 hlt w (a := 2) (by decide)) (w.k (by first | rfl | assumption)) rfl rfl (Nat.le_of_ble_eq_true rfl) (am_rm hR (by decide)) (fun _ _ z => z) (fun v hx hq hE => ?_)
  obtain ⟨rfl, w1⟩ := hq
  obtain ⟨Γ1, hG⟩ : ∃ G, G = u3 Γ 11 0 34 2 := ⟨_, rfl⟩
  rw [← hG] at w1
  have en1 : Γ1 11 0 3 = Γ 11 0 3 := by rw [hG]; rfl
  have ep1 : Γ1 11 0 24 = Γ 11 0 24 := by rw [hG]; rfl
  refine g_if_ne 37 dX5_burst_32 (by decide) (fun z => absurd z (by decide)) (fun _ => ?_)
  refine g_iconst (v := 0) dX5_burst_35 (by decide) ?_
  rw [hQ]
  refine g_iret dX5_burst_36 rfl rfl (by decide) (by decide) ?_
  subst hG
  exact ⟨by first | rfl | simp [u3_ap], by first | exact w1 | simpa [u3_ap] using w1⟩
set_option maxRecDepth 100000 in
set_option maxHeartbeats 4000000 in
theorem c_X5_burst_0a {l : Launch} (hlt : l.stackTraces = false) {N n p : Nat} {ord : List Nat} {L : Nat → Nat → Nat} {Γ : Nat → Nat → Nat → Int32} {o : Int64} {h : am_H} (w : WI N n p ord L Γ o h) {q : Nat} (hq0 : q ≤ 24) (ep : Γ 11 0 24 = nI q) {i : Nat} (hi : i < q) (hf : Γ 13 28 i = 0) (hg : ¬ Γ 11 0 1 = -1) : am_Con l yX5_burst (.code yX5_burst cX5_burst 6 (some .int)) 20 0 0 [.ref (L 11 0), .int (nI i)] h (fun v h' => v = some (.int 0) ∧ WI N n p ord L (u3 (u3 Γ 11 0 34 0) 13 28 i 1) o h') (fun _ _ => False) := by
  refine am_body hlt (by decide +kernel) (Nat.le_of_ble_eq_true rfl) (fun k hl hR h0 hno => ?_)
  subst hl
  obtain ⟨Qf, hQ⟩ : ∃ Qf, Qf = am_Q k 0 0 (fun v h' => v = some (.int 0) ∧ WI N n p ord L (u3 (u3 Γ 11 0 34 0) 13 28 i 1) o h') (fun _ _ => False) := ⟨_, rfl⟩
  rw [← hQ]
  have hm : wdm n p 11 0 = true := rfl
  refine g_aload_n dX5_burst_0 rfl ?_
  refine g_iload_n dX5_burst_1 rfl ?_
  refine g_callV [_] dX5_burst_2 mc_X5_166 mi_X5_isPipe se_X5_isPipe (c_X5_isP_1 hlt w hq0 ep (by assumption)) (w.k (by first | rfl | assumption)) rfl rfl (Nat.le_of_ble_eq_true rfl) (am_rm hR (by decide)) (fun _ _ z => z) (fun v hx hq hE => ?_)
  obtain ⟨rfl, rfl⟩ := hq
  refine g_istore_n dX5_burst_5 (by decide) rfl ?_
  refine g_aload_n dX5_burst_6 rfl ?_
  refine g_iload_n dX5_burst_7 rfl ?_
  refine g_if_ne 15 dX5_burst_8 (by decide) (fun _ => ?_) (fun z => absurd z (by decide))
  refine g_aload_n dX5_burst_15 rfl ?_
  refine w_getR w dX5_burst_16 fl_X5_74 rfl rfl (by first | rfl | assumption) rfl ?_
  refine g_iload_n dX5_burst_19 rfl ?_
  refine w_zald w dX5_burst_20 (by first | rfl | assumption) (by first | assumption | omega | (show _ < 8; omega) | (show _ < 24; omega) | (show _ < 9; omega)) ?_
  refine g_if_eq 28 dX5_burst_21 (by decide) (fun c_21 => ?_) (fun z => absurd hf z)
  refine g_iconst (v := 0) dX5_burst_28 (by decide) ?_
  refine g_callV [_] dX5_burst_29 mc_X5_103 mi_X5_can se_X5_can (c_X5_can_0 hlt w) (w.k (by first | rfl | assumption)) rfl rfl (Nat.le_of_ble_eq_true rfl) (am_rm hR (by decide)) (fun _ _ z => z) (fun v hx hq hE => ?_)
  obtain ⟨rfl, w1⟩ := hq
  obtain ⟨Γ1, hG⟩ : ∃ G, G = u3 Γ 11 0 34 0 := ⟨_, rfl⟩
  rw [← hG] at w1
  have en1 : Γ1 11 0 3 = Γ 11 0 3 := by rw [hG]; rfl
  have ep1 : Γ1 11 0 24 = Γ 11 0 24 := by rw [hG]; rfl
  refine g_if_ne 37 dX5_burst_32 (by decide) (fun _ => ?_) (fun z => absurd z (by decide))
  refine g_aload_n dX5_burst_37 rfl ?_
  refine w_getR w1 dX5_burst_38 fl_X5_74 rfl rfl (by first | rfl | assumption) rfl ?_
  refine g_iload_n dX5_burst_41 rfl ?_
  refine g_iconst (v := 1) dX5_burst_42 (by decide) ?_
  refine w_zast w1 dX5_burst_43 (by first | rfl | assumption) (by first | assumption | omega | (show _ < 8; omega) | (show _ < 24; omega) | (show _ < 9; omega)) rfl (fun h2 w2 => ?_)
  refine g_aload_n dX5_burst_44 rfl ?_
  refine w_getI w2 dX5_burst_45 fl_X5_110 rfl rfl (by first | rfl | assumption) ?_
  refine g_iconst (v := (-1)) dX5_burst_48 (by decide) ?_
  refine g_icmp_eq 54 dX5_burst_49 (by decide) (fun z => absurd (by subst hG; exact z) hg) (fun c_49 => ?_)
  refine g_iconst (v := 0) dX5_burst_52 (by decide) ?_
  rw [hQ]
  refine g_iret dX5_burst_53 rfl rfl (by decide) (by decide) ?_
  subst hG
  exact ⟨by first | rfl | simp [u3_ap], by first | exact w2 | simpa [u3_ap] using w2⟩
set_option maxRecDepth 100000 in
set_option maxHeartbeats 4000000 in
theorem c_X5_hour {l : Launch} (hlt : l.stackTraces = false) {N n p : Nat} {ord : List Nat} {L : Nat → Nat → Nat} {Γ : Nat → Nat → Nat → Int32} {o : Int64} {h : am_H} (w : WI N n p ord L Γ o h)  : am_Con l yX5_hour (.code yX5_hour cX5_hour 1 (some .int)) 1 0 0 [.ref (L 11 0)] h (fun v h' => v = some (.int (Γ 11 0 0)) ∧ WI N n p ord L (u3 Γ 11 0 34 0) o h') (fun _ _ => False) := by
  refine am_body hlt (by decide +kernel) (Nat.le_of_ble_eq_true rfl) (fun k hl hR h0 hno => ?_)
  subst hl
  obtain ⟨Qf, hQ⟩ : ∃ Qf, Qf = am_Q k 0 0 (fun v h' => v = some (.int (Γ 11 0 0)) ∧ WI N n p ord L (u3 Γ 11 0 34 0) o h') (fun _ _ => False) := ⟨_, rfl⟩
  rw [← hQ]
  have hm : wdm n p 11 0 = true := rfl
  refine g_aload_n dX5_hour_0 rfl ?_
  refine g_iconst (v := 0) dX5_hour_1 (by decide) ?_
  refine w_putI w dX5_hour_2 fl_X5_89 rfl rfl (by decide) (fun q hq => by cases hq; rfl) (by first | rfl | assumption) rfl rfl (fun h1 w1 => ?_)
  refine g_aload_n dX5_hour_5 rfl ?_
  refine w_getI w1 dX5_hour_6 fl_X5_169 rfl rfl (by first | rfl | assumption) ?_
  rw [hQ]
  refine g_iret dX5_hour_9 rfl rfl (by decide) (by decide) ?_
  exact ⟨rfl, w1⟩
set_option maxRecDepth 100000 in
set_option maxHeartbeats 4000000 in
theorem c_X5_round {l : Launch} (hlt : l.stackTraces = false) {N n p : Nat} {ord : List Nat} {L : Nat → Nat → Nat} {Γ : Nat → Nat → Nat → Int32} {o : Int64} {h : am_H} (w : WI N n p ord L Γ o h)  : am_Con l yX5_round (.code yX5_round cX5_round 1 (some .int)) 1 0 0 [.ref (L 11 0)] h (fun v h' => v = some (.int (Γ 11 0 1)) ∧ WI N n p ord L (u3 Γ 11 0 34 0) o h') (fun _ _ => False) := by
  refine am_body hlt (by decide +kernel) (Nat.le_of_ble_eq_true rfl) (fun k hl hR h0 hno => ?_)
  subst hl
  obtain ⟨Qf, hQ⟩ : ∃ Qf, Qf = am_Q k 0 0 (fun v h' => v = some (.int (Γ 11 0 1)) ∧ WI N n p ord L (u3 Γ 11 0 34 0) o h') (fun _ _ => False) := ⟨_, rfl⟩
  rw [← hQ]
  have hm : wdm n p 11 0 = true := rfl
  refine g_aload_n dX5_round_0 rfl ?_
  refine g_iconst (v := 0) dX5_round_1 (by decide) ?_
  refine w_putI w dX5_round_2 fl_X5_89 rfl rfl (by decide) (fun q hq => by cases hq; rfl) (by first | rfl | assumption) rfl rfl (fun h1 w1 => ?_)
  refine g_aload_n dX5_round_5 rfl ?_
  refine w_getI w1 dX5_round_6 fl_X5_110 rfl rfl (by first | rfl | assumption) ?_
  rw [hQ]
  refine g_iret dX5_round_9 rfl rfl (by decide) (by decide) ?_
  exact ⟨rfl, w1⟩
set_option maxRecDepth 100000 in
set_option maxHeartbeats 4000000 in
theorem c_X5_of_1 {l : Launch} (hlt : l.stackTraces = false) {N n p : Nat} {ord : List Nat} {L : Nat → Nat → Nat} {Γ : Nat → Nat → Nat → Int32} {o : Int64} {h : am_H} (w : WI N n p ord L Γ o h) {b : Nat} (hb : b ≤ 8) (en : Γ 11 0 3 = nI b) {x a : Int32} (hx9 : x < 0 ∨ nI b ≤ x) : am_Con l yX5_ofDistrict (.code yX5_ofDistrict cX5_ofDistrict 3 (some .int)) 20 0 0 [.ref (L 11 0), .int x, .int a] h (fun v h' => v = some (.int 0) ∧ WI N n p ord L (u3 Γ 11 0 34 1) o h') (fun _ _ => False) := by
  refine am_body hlt (by decide +kernel) (Nat.le_of_ble_eq_true rfl) (fun k hl hR h0 hno => ?_)
  subst hl
  obtain ⟨Qf, hQ⟩ : ∃ Qf, Qf = am_Q k 0 0 (fun v h' => v = some (.int 0) ∧ WI N n p ord L (u3 Γ 11 0 34 1) o h') (fun _ _ => False) := ⟨_, rfl⟩
  rw [← hQ]
  have hm : wdm n p 11 0 = true := rfl
  refine g_aload_n dX5_ofDistrict_0 rfl ?_
  refine g_aload_n dX5_ofDistrict_1 rfl ?_
  refine g_iload_n dX5_ofDistrict_2 rfl ?_
  refine g_callV [_] dX5_ofDistrict_3 mc_X5_107 mi_X5_isDistrict se_X5_isDistrict (c_X5_isD_0 hlt w hb en (by assumption)) (w.k (by first | rfl | assumption)) rfl rfl (Nat.le_of_ble_eq_true rfl) (am_rm hR (by decide)) (fun _ _ z => z) (fun v hx hq hE => ?_)
  obtain ⟨rfl, rfl⟩ := hq
  refine g_if_eq 23 dX5_ofDistrict_6 (by decide) (fun _ => ?_) (fun z => absurd z (by decide))
  refine g_iconst (v := 1) dX5_ofDistrict_23 (by decide) ?_
  refine g_callV [_] dX5_ofDistrict_24 mc_X5_103 mi_X5_can se_X5_can (c_X5_can_1 hlt w (a := 1) (by decide)) (w.k (by first | rfl | assumption)) rfl rfl (Nat.le_of_ble_eq_true rfl) (am_rm hR (by decide)) (fun _ _ z => z) (fun v hx hq hE => ?_)
  obtain ⟨rfl, w1⟩ := hq
  obtain ⟨Γ1, hG⟩ : ∃ G, G = u3 Γ 11 0 34 1 := ⟨_, rfl⟩
  rw [← hG] at w1
  have en1 : Γ1 11 0 3 = Γ 11 0 3 := by rw [hG]; rfl
  have ep1 : Γ1 11 0 24 = Γ 11 0 24 := by rw [hG]; rfl
  refine g_if_ne 32 dX5_ofDistrict_27 (by decide) (fun z => absurd z (by decide)) (fun _ => ?_)
  refine g_iconst (v := 0) dX5_ofDistrict_30 (by decide) ?_
  rw [hQ]
  refine g_iret dX5_ofDistrict_31 rfl rfl (by decide) (by decide) ?_
  subst hG
  exact ⟨by first | rfl | simp [u3_ap], by first | exact w1 | simpa [u3_ap] using w1⟩
set_option maxRecDepth 100000 in
set_option maxHeartbeats 4000000 in
theorem c_X5_of_2 {l : Launch} (hlt : l.stackTraces = false) {N n p : Nat} {ord : List Nat} {L : Nat → Nat → Nat} {Γ : Nat → Nat → Nat → Int32} {o : Int64} {h : am_H} (w : WI N n p ord L Γ o h) {b : Nat} (hb : b ≤ 8) (en : Γ 11 0 3 = nI b) {i : Nat} (hi : i < b) {a : Int32} (ab : a < 0 ∨ ¬ a ≤ 8) : am_Con l yX5_ofDistrict (.code yX5_ofDistrict cX5_ofDistrict 3 (some .int)) 20 0 0 [.ref (L 11 0), .int (nI i), .int a] h (fun v h' => v = some (.int 0) ∧ WI N n p ord L (u3 Γ 11 0 34 1) o h') (fun _ _ => False) := by
  refine am_body hlt (by decide +kernel) (Nat.le_of_ble_eq_true rfl) (fun k hl hR h0 hno => ?_)
  subst hl
  obtain ⟨Qf, hQ⟩ : ∃ Qf, Qf = am_Q k 0 0 (fun v h' => v = some (.int 0) ∧ WI N n p ord L (u3 Γ 11 0 34 1) o h') (fun _ _ => False) := ⟨_, rfl⟩
  rw [← hQ]
  have hm : wdm n p 11 0 = true := rfl
  refine g_aload_n dX5_ofDistrict_0 rfl ?_
  refine g_aload_n dX5_ofDistrict_1 rfl ?_
  refine g_iload_n dX5_ofDistrict_2 rfl ?_
  refine g_callV [_] dX5_ofDistrict_3 mc_X5_107 mi_X5_isDistrict se_X5_isDistrict (c_X5_isD_1 hlt w hb en (by assumption)) (w.k (by first | rfl | assumption)) rfl rfl (Nat.le_of_ble_eq_true rfl) (am_rm hR (by decide)) (fun _ _ z => z) (fun v hx hq hE => ?_)
  obtain ⟨rfl, rfl⟩ := hq
  refine g_if_eq 23 dX5_ofDistrict_6 (by decide) (fun z => absurd z (by decide)) (fun _ => ?_)
  refine g_iload_n dX5_ofDistrict_9 rfl ?_
  refine g_iconst (v := 0) dX5_ofDistrict_10 (by decide) ?_
  refine g_bipush (v := 8) dX5_ofDistrict_11 (by decide) ?_
  refine g_callS [_, _, _] dX5_ofDistrict_13 mc_X5_96 ms_X5_isIn (c_X5_isIn_0 hlt ab) rfl (Nat.le_of_ble_eq_true rfl) (am_rm hR (by decide)) (fun _ _ z => z) (fun v hx hq hE => ?_)
  obtain ⟨rfl, rfl⟩ := hq
  refine g_if_eq 23 dX5_ofDistrict_16 (by decide) (fun _ => ?_) (fun z => absurd z (by decide))
  refine g_iconst (v := 1) dX5_ofDistrict_23 (by decide) ?_
  refine g_callV [_] dX5_ofDistrict_24 mc_X5_103 mi_X5_can se_X5_can (c_X5_can_1 hlt w (a := 1) (by decide)) (w.k (by first | rfl | assumption)) rfl rfl (Nat.le_of_ble_eq_true rfl) (am_rm hR (by decide)) (fun _ _ z => z) (fun v hx hq hE => ?_)
  obtain ⟨rfl, w1⟩ := hq
  obtain ⟨Γ1, hG⟩ : ∃ G, G = u3 Γ 11 0 34 1 := ⟨_, rfl⟩
  rw [← hG] at w1
  have en1 : Γ1 11 0 3 = Γ 11 0 3 := by rw [hG]; rfl
  have ep1 : Γ1 11 0 24 = Γ 11 0 24 := by rw [hG]; rfl
  refine g_if_ne 32 dX5_ofDistrict_27 (by decide) (fun z => absurd z (by decide)) (fun _ => ?_)
  refine g_iconst (v := 0) dX5_ofDistrict_30 (by decide) ?_
  rw [hQ]
  refine g_iret dX5_ofDistrict_31 rfl rfl (by decide) (by decide) ?_
  subst hG
  exact ⟨by first | rfl | simp [u3_ap], by first | exact w1 | simpa [u3_ap] using w1⟩
set_option maxRecDepth 100000 in
set_option maxHeartbeats 4000000 in
theorem c_X5_of_0_0 {l : Launch} (hlt : l.stackTraces = false) {N n p : Nat} {ord : List Nat} {L : Nat → Nat → Nat} {Γ : Nat → Nat → Nat → Int32} {o : Int64} {h : am_H} (w : WI N n p ord L Γ o h) {b : Nat} (hb : b ≤ 8) (en : Γ 11 0 3 = nI b) {i : Nat} (hi : i < b) : am_Con l yX5_ofDistrict (.code yX5_ofDistrict cX5_ofDistrict 3 (some .int)) 20 0 0 [.ref (L 11 0), .int (nI i), .int (nI 0)] h (fun v h' => v = some (.int (Γ 12 6 i)) ∧ WI N n p ord L (u3 Γ 11 0 34 0) o h') (fun _ _ => False) := by
  refine am_body hlt (by decide +kernel) (Nat.le_of_ble_eq_true rfl) (fun k hl hR h0 hno => ?_)
  subst hl
  obtain ⟨Qf, hQ⟩ : ∃ Qf, Qf = am_Q k 0 0 (fun v h' => v = some (.int (Γ 12 6 i)) ∧ WI N n p ord L (u3 Γ 11 0 34 0) o h') (fun _ _ => False) := ⟨_, rfl⟩
  rw [← hQ]
  have hm : wdm n p 11 0 = true := rfl
  refine g_aload_n dX5_ofDistrict_0 rfl ?_
  refine g_aload_n dX5_ofDistrict_1 rfl ?_
  refine g_iload_n dX5_ofDistrict_2 rfl ?_
  refine g_callV [_] dX5_ofDistrict_3 mc_X5_107 mi_X5_isDistrict se_X5_isDistrict (c_X5_isD_1 hlt w hb en (by assumption)) (w.k (by first | rfl | assumption)) rfl rfl (Nat.le_of_ble_eq_true rfl) (am_rm hR (by decide)) (fun _ _ z => z) (fun v hx hq hE => ?_)
  obtain ⟨rfl, rfl⟩ := hq
  refine g_if_eq 23 dX5_ofDistrict_6 (by decide) (fun z => absurd z (by decide)) (fun _ => ?_)
  refine g_iload_n dX5_ofDistrict_9 rfl ?_
  refine g_iconst (v := 0) dX5_ofDistrict_10 (by decide) ?_
  refine g_bipush (v := 8) dX5_ofDistrict_11 (by decide) ?_
  refine g_callS [_, _, _] dX5_ofDistrict_13 mc_X5_96 ms_X5_isIn (c_X5_isIn_1 hlt (by decide) (by decide)) rfl (Nat.le_of_ble_eq_true rfl) (am_rm hR (by decide)) (fun _ _ z => z) (fun v hx hq hE => ?_)
  obtain ⟨rfl, rfl⟩ := hq
  refine g_if_eq 23 dX5_ofDistrict_16 (by decide) (fun z => absurd z (by decide)) (fun _ => ?_)
  refine g_iconst (v := 0) dX5_ofDistrict_19 (by decide) ?_
  refine g_goto 24 dX5_ofDistrict_20 (by decide) ?_
  refine g_callV [_] dX5_ofDistrict_24 mc_X5_103 mi_X5_can se_X5_can (c_X5_can_0 hlt w) (w.k (by first | rfl | assumption)) rfl rfl (Nat.le_of_ble_eq_true rfl) (am_rm hR (by decide)) (fun _ _ z => z) (fun v hx hq hE => ?_)
  obtain ⟨rfl, w1⟩ := hq
  obtain ⟨Γ1, hG⟩ : ∃ G, G = u3 Γ 11 0 34 0 := ⟨_, rfl⟩
  rw [← hG] at w1
  have en1 : Γ1 11 0 3 = Γ 11 0 3 := by rw [hG]; rfl
  have ep1 : Γ1 11 0 24 = Γ 11 0 24 := by rw [hG]; rfl
  refine g_if_ne 32 dX5_ofDistrict_27 (by decide) (fun _ => ?_) (fun z => absurd z (by decide))
  refine g_iload_n dX5_ofDistrict_32 rfl ?_
  refine g_tableIn 80 dX5_ofDistrict_33 (by decide) (by decide) rfl (by decide) ?_
  refine g_aload_n dX5_ofDistrict_80 rfl ?_
  refine w_getR w1 dX5_ofDistrict_81 fl_X5_16 rfl rfl (by first | rfl | assumption) rfl ?_
  refine g_iload_n dX5_ofDistrict_84 rfl ?_
  refine w_ald w1 dX5_ofDistrict_85 (by decide) (by first | rfl | assumption) (by first | assumption | omega | (show _ < 8; omega) | (show _ < 24; omega) | (show _ < 9; omega)) ?_
  rw [hQ]
  refine g_iret dX5_ofDistrict_86 rfl rfl (by decide) (by decide) ?_
  subst hG
  exact ⟨by first | rfl | simp [u3_ap], by first | exact w1 | simpa [u3_ap] using w1⟩
set_option maxRecDepth 100000 in
set_option maxHeartbeats 4000000 in
theorem c_X5_of_0_1 {l : Launch} (hlt : l.stackTraces = false) {N n p : Nat} {ord : List Nat} {L : Nat → Nat → Nat} {Γ : Nat → Nat → Nat → Int32} {o : Int64} {h : am_H} (w : WI N n p ord L Γ o h) {b : Nat} (hb : b ≤ 8) (en : Γ 11 0 3 = nI b) {i : Nat} (hi : i < b) : am_Con l yX5_ofDistrict (.code yX5_ofDistrict cX5_ofDistrict 3 (some .int)) 20 0 0 [.ref (L 11 0), .int (nI i), .int (nI 1)] h (fun v h' => v = some (.int (if Γ 13 10 i = 0 then -1 else Γ 12 7 i)) ∧ WI N n p ord L (u3 Γ 11 0 34 0) o h') (fun _ _ => False) := by
  refine am_body hlt (by decide +kernel) (Nat.le_of_ble_eq_true rfl) (fun k hl hR h0 hno => ?_)
  subst hl
  obtain ⟨Qf, hQ⟩ : ∃ Qf, Qf = am_Q k 0 0 (fun v h' => v = some (.int (if Γ 13 10 i = 0 then -1 else Γ 12 7 i)) ∧ WI N n p ord L (u3 Γ 11 0 34 0) o h') (fun _ _ => False) := ⟨_, rfl⟩
  rw [← hQ]
  have hm : wdm n p 11 0 = true := rfl
  refine g_aload_n dX5_ofDistrict_0 rfl ?_
  refine g_aload_n dX5_ofDistrict_1 rfl ?_
  refine g_iload_n dX5_ofDistrict_2 rfl ?_
  refine g_callV [_] dX5_ofDistrict_3 mc_X5_107 mi_X5_isDistrict se_X5_isDistrict (c_X5_isD_1 hlt w hb en (by assumption)) (w.k (by first | rfl | assumption)) rfl rfl (Nat.le_of_ble_eq_true rfl) (am_rm hR (by decide)) (fun _ _ z => z) (fun v hx hq hE => ?_)
  obtain ⟨rfl, rfl⟩ := hq
  refine g_if_eq 23 dX5_ofDistrict_6 (by decide) (fun z => absurd z (by decide)) (fun _ => ?_)
  refine g_iload_n dX5_ofDistrict_9 rfl ?_
  refine g_iconst (v := 0) dX5_ofDistrict_10 (by decide) ?_
  refine g_bipush (v := 8) dX5_ofDistrict_11 (by decide) ?_
  refine g_callS [_, _, _] dX5_ofDistrict_13 mc_X5_96 ms_X5_isIn (c_X5_isIn_1 hlt (by decide) (by decide)) rfl (Nat.le_of_ble_eq_true rfl) (am_rm hR (by decide)) (fun _ _ z => z) (fun v hx hq hE => ?_)
  obtain ⟨rfl, rfl⟩ := hq
  refine g_if_eq 23 dX5_ofDistrict_16 (by decide) (fun z => absurd z (by decide)) (fun _ => ?_)
  refine g_iconst (v := 0) dX5_ofDistrict_19 (by decide) ?_
  refine g_goto 24 dX5_ofDistrict_20 (by decide) ?_
  refine g_callV [_] dX5_ofDistrict_24 mc_X5_103 mi_X5_can se_X5_can (c_X5_can_0 hlt w) (w.k (by first | rfl | assumption)) rfl rfl (Nat.le_of_ble_eq_true rfl) (am_rm hR (by decide)) (fun _ _ z => z) (fun v hx hq hE => ?_)
  obtain ⟨rfl, w1⟩ := hq
  obtain ⟨Γ1, hG⟩ : ∃ G, G = u3 Γ 11 0 34 0 := ⟨_, rfl⟩
  rw [← hG] at w1
  have en1 : Γ1 11 0 3 = Γ 11 0 3 := by rw [hG]; rfl
  have ep1 : Γ1 11 0 24 = Γ 11 0 24 := by rw [hG]; rfl
  refine g_if_ne 32 dX5_ofDistrict_27 (by decide) (fun _ => ?_) (fun z => absurd z (by decide))
  refine g_iload_n dX5_ofDistrict_32 rfl ?_
  refine g_tableIn 87 dX5_ofDistrict_33 (by decide) (by decide) rfl (by decide) ?_
  refine g_aload_n dX5_ofDistrict_87 rfl ?_
  refine w_getR w1 dX5_ofDistrict_88 fl_X5_28 rfl rfl (by first | rfl | assumption) rfl ?_
  refine g_iload_n dX5_ofDistrict_91 rfl ?_
  refine w_zald w1 dX5_ofDistrict_92 (by first | rfl | assumption) (by first | assumption | omega | (show _ < 8; omega) | (show _ < 24; omega) | (show _ < 9; omega)) ?_
  refine g_if_eq 105 dX5_ofDistrict_93 (by decide) (fun c_93 => ?_) (fun c_93 => ?_)
  · skip
    refine g_iconst (v := (-1)) dX5_ofDistrict_105 (by decide) ?_
    rw [hQ]
    refine g_iret dX5_ofDistrict_106 rfl rfl (by decide) (by decide) ?_
    subst hG
    exact ⟨by simp [u3_ap] at *; simp [*], w1⟩
  · skip
    refine g_aload_n dX5_ofDistrict_96 rfl ?_
    refine w_getR w1 dX5_ofDistrict_97 fl_X5_19 rfl rfl (by first | rfl | assumption) rfl ?_
    refine g_iload_n dX5_ofDistrict_100 rfl ?_
    refine w_ald w1 dX5_ofDistrict_101 (by decide) (by first | rfl | assumption) (by first | assumption | omega | (show _ < 8; omega) | (show _ < 24; omega) | (show _ < 9; omega)) ?_
    refine g_goto 106 dX5_ofDistrict_102 (by decide) ?_
    rw [hQ]
    refine g_iret dX5_ofDistrict_106 rfl rfl (by decide) (by decide) ?_
    subst hG
    exact ⟨by simp [u3_ap] at *; simp [*], w1⟩
set_option maxRecDepth 100000 in
set_option maxHeartbeats 4000000 in
theorem c_X5_of_0_2 {l : Launch} (hlt : l.stackTraces = false) {N n p : Nat} {ord : List Nat} {L : Nat → Nat → Nat} {Γ : Nat → Nat → Nat → Int32} {o : Int64} {h : am_H} (w : WI N n p ord L Γ o h) {b : Nat} (hb : b ≤ 8) (en : Γ 11 0 3 = nI b) {i : Nat} (hi : i < b) : am_Con l yX5_ofDistrict (.code yX5_ofDistrict cX5_ofDistrict 3 (some .int)) 20 0 0 [.ref (L 11 0), .int (nI i), .int (nI 2)] h (fun v h' => v = some (.int (if Γ 13 10 i = 0 then -1 else Γ 12 8 i)) ∧ WI N n p ord L (u3 Γ 11 0 34 0) o h') (fun _ _ => False) := by
  refine am_body hlt (by decide +kernel) (Nat.le_of_ble_eq_true rfl) (fun k hl hR h0 hno => ?_)
  subst hl
  obtain ⟨Qf, hQ⟩ : ∃ Qf, Qf = am_Q k 0 0 (fun v h' => v = some (.int (if Γ 13 10 i = 0 then -1 else Γ 12 8 i)) ∧ WI N n p ord L (u3 Γ 11 0 34 0) o h') (fun _ _ => False) := ⟨_, rfl⟩
  rw [← hQ]
  have hm : wdm n p 11 0 = true := rfl
  refine g_aload_n dX5_ofDistrict_0 rfl ?_
  refine g_aload_n dX5_ofDistrict_1 rfl ?_
  refine g_iload_n dX5_ofDistrict_2 rfl ?_
  refine g_callV [_] dX5_ofDistrict_3 mc_X5_107 mi_X5_isDistrict se_X5_isDistrict (c_X5_isD_1 hlt w hb en (by assumption)) (w.k (by first | rfl | assumption)) rfl rfl (Nat.le_of_ble_eq_true rfl) (am_rm hR (by decide)) (fun _ _ z => z) (fun v hx hq hE => ?_)
  obtain ⟨rfl, rfl⟩ := hq
  refine g_if_eq 23 dX5_ofDistrict_6 (by decide) (fun z => absurd z (by decide)) (fun _ => ?_)
  refine g_iload_n dX5_ofDistrict_9 rfl ?_
  refine g_iconst (v := 0) dX5_ofDistrict_10 (by decide) ?_
  refine g_bipush (v := 8) dX5_ofDistrict_11 (by decide) ?_
  refine g_callS [_, _, _] dX5_ofDistrict_13 mc_X5_96 ms_X5_isIn (c_X5_isIn_1 hlt (by decide) (by decide)) rfl (Nat.le_of_ble_eq_true rfl) (am_rm hR (by decide)) (fun _ _ z => z) (fun v hx hq hE => ?_)
  obtain ⟨rfl, rfl⟩ := hq
  refine g_if_eq 23 dX5_ofDistrict_16 (by decide) (fun z => absurd z (by decide)) (fun _ => ?_)
  refine g_iconst (v := 0) dX5_ofDistrict_19 (by decide) ?_
  refine g_goto 24 dX5_ofDistrict_20 (by decide) ?_
  refine g_callV [_] dX5_ofDistrict_24 mc_X5_103 mi_X5_can se_X5_can (c_X5_can_0 hlt w) (w.k (by first | rfl | assumption)) rfl rfl (Nat.le_of_ble_eq_true rfl) (am_rm hR (by decide)) (fun _ _ z => z) (fun v hx hq hE => ?_)
  obtain ⟨rfl, w1⟩ := hq
  obtain ⟨Γ1, hG⟩ : ∃ G, G = u3 Γ 11 0 34 0 := ⟨_, rfl⟩
  rw [← hG] at w1
  have en1 : Γ1 11 0 3 = Γ 11 0 3 := by rw [hG]; rfl
  have ep1 : Γ1 11 0 24 = Γ 11 0 24 := by rw [hG]; rfl
  refine g_if_ne 32 dX5_ofDistrict_27 (by decide) (fun _ => ?_) (fun z => absurd z (by decide))
  refine g_iload_n dX5_ofDistrict_32 rfl ?_
  refine g_tableIn 107 dX5_ofDistrict_33 (by decide) (by decide) rfl (by decide) ?_
  refine g_aload_n dX5_ofDistrict_107 rfl ?_
  refine w_getR w1 dX5_ofDistrict_108 fl_X5_28 rfl rfl (by first | rfl | assumption) rfl ?_
  refine g_iload_n dX5_ofDistrict_111 rfl ?_
  refine w_zald w1 dX5_ofDistrict_112 (by first | rfl | assumption) (by first | assumption | omega | (show _ < 8; omega) | (show _ < 24; omega) | (show _ < 9; omega)) ?_
  refine g_if_eq 125 dX5_ofDistrict_113 (by decide) (fun c_113 => ?_) (fun c_113 => ?_)
  · skip
    refine g_iconst (v := (-1)) dX5_ofDistrict_125 (by decide) ?_
    rw [hQ]
    refine g_iret dX5_ofDistrict_126 rfl rfl (by decide) (by decide) ?_
    subst hG
    exact ⟨by simp [u3_ap] at *; simp [*], w1⟩
  · skip
    refine g_aload_n dX5_ofDistrict_116 rfl ?_
    refine w_getR w1 dX5_ofDistrict_117 fl_X5_22 rfl rfl (by first | rfl | assumption) rfl ?_
    refine g_iload_n dX5_ofDistrict_120 rfl ?_
    refine w_ald w1 dX5_ofDistrict_121 (by decide) (by first | rfl | assumption) (by first | assumption | omega | (show _ < 8; omega) | (show _ < 24; omega) | (show _ < 9; omega)) ?_
    refine g_goto 126 dX5_ofDistrict_122 (by decide) ?_
    rw [hQ]
    refine g_iret dX5_ofDistrict_126 rfl rfl (by decide) (by decide) ?_
    subst hG
    exact ⟨by simp [u3_ap] at *; simp [*], w1⟩
set_option maxRecDepth 100000 in
set_option maxHeartbeats 4000000 in
theorem c_X5_of_0_3 {l : Launch} (hlt : l.stackTraces = false) {N n p : Nat} {ord : List Nat} {L : Nat → Nat → Nat} {Γ : Nat → Nat → Nat → Int32} {o : Int64} {h : am_H} (w : WI N n p ord L Γ o h) {b : Nat} (hb : b ≤ 8) (en : Γ 11 0 3 = nI b) {i : Nat} (hi : i < b) : am_Con l yX5_ofDistrict (.code yX5_ofDistrict cX5_ofDistrict 3 (some .int)) 20 0 0 [.ref (L 11 0), .int (nI i), .int (nI 3)] h (fun v h' => v = some (.int (Γ 12 17 i)) ∧ WI N n p ord L (u3 Γ 11 0 34 0) o h') (fun _ _ => False) := by
  refine am_body hlt (by decide +kernel) (Nat.le_of_ble_eq_true rfl) (fun k hl hR h0 hno => ?_)
  subst hl
  obtain ⟨Qf, hQ⟩ : ∃ Qf, Qf = am_Q k 0 0 (fun v h' => v = some (.int (Γ 12 17 i)) ∧ WI N n p ord L (u3 Γ 11 0 34 0) o h') (fun _ _ => False) := ⟨_, rfl⟩
  rw [← hQ]
  have hm : wdm n p 11 0 = true := rfl
  refine g_aload_n dX5_ofDistrict_0 rfl ?_
  refine g_aload_n dX5_ofDistrict_1 rfl ?_
  refine g_iload_n dX5_ofDistrict_2 rfl ?_
  refine g_callV [_] dX5_ofDistrict_3 mc_X5_107 mi_X5_isDistrict se_X5_isDistrict (c_X5_isD_1 hlt w hb en (by assumption)) (w.k (by first | rfl | assumption)) rfl rfl (Nat.le_of_ble_eq_true rfl) (am_rm hR (by decide)) (fun _ _ z => z) (fun v hx hq hE => ?_)
  obtain ⟨rfl, rfl⟩ := hq
  refine g_if_eq 23 dX5_ofDistrict_6 (by decide) (fun z => absurd z (by decide)) (fun _ => ?_)
  refine g_iload_n dX5_ofDistrict_9 rfl ?_
  refine g_iconst (v := 0) dX5_ofDistrict_10 (by decide) ?_
  refine g_bipush (v := 8) dX5_ofDistrict_11 (by decide) ?_
  refine g_callS [_, _, _] dX5_ofDistrict_13 mc_X5_96 ms_X5_isIn (c_X5_isIn_1 hlt (by decide) (by decide)) rfl (Nat.le_of_ble_eq_true rfl) (am_rm hR (by decide)) (fun _ _ z => z) (fun v hx hq hE => ?_)
  obtain ⟨rfl, rfl⟩ := hq
  refine g_if_eq 23 dX5_ofDistrict_16 (by decide) (fun z => absurd z (by decide)) (fun _ => ?_)
  refine g_iconst (v := 0) dX5_ofDistrict_19 (by decide) ?_
  refine g_goto 24 dX5_ofDistrict_20 (by decide) ?_
  refine g_callV [_] dX5_ofDistrict_24 mc_X5_103 mi_X5_can se_X5_can (c_X5_can_0 hlt w) (w.k (by first | rfl | assumption)) rfl rfl (Nat.le_of_ble_eq_true rfl) (am_rm hR (by decide)) (fun _ _ z => z) (fun v hx hq hE => ?_)
  obtain ⟨rfl, w1⟩ := hq
  obtain ⟨Γ1, hG⟩ : ∃ G, G = u3 Γ 11 0 34 0 := ⟨_, rfl⟩
  rw [← hG] at w1
  have en1 : Γ1 11 0 3 = Γ 11 0 3 := by rw [hG]; rfl
  have ep1 : Γ1 11 0 24 = Γ 11 0 24 := by rw [hG]; rfl
  refine g_if_ne 32 dX5_ofDistrict_27 (by decide) (fun _ => ?_) (fun z => absurd z (by decide))
  refine g_iload_n dX5_ofDistrict_32 rfl ?_
  refine g_tableIn 127 dX5_ofDistrict_33 (by decide) (by decide) rfl (by decide) ?_
  refine g_aload_n dX5_ofDistrict_127 rfl ?_
  refine w_getR w1 dX5_ofDistrict_128 fl_X5_47 rfl rfl (by first | rfl | assumption) rfl ?_
  refine g_iload_n dX5_ofDistrict_131 rfl ?_
  refine w_ald w1 dX5_ofDistrict_132 (by decide) (by first | rfl | assumption) (by first | assumption | omega | (show _ < 8; omega) | (show _ < 24; omega) | (show _ < 9; omega)) ?_
  rw [hQ]
  refine g_iret dX5_ofDistrict_133 rfl rfl (by decide) (by decide) ?_
  subst hG
  exact ⟨by first | rfl | simp [u3_ap], by first | exact w1 | simpa [u3_ap] using w1⟩
set_option maxRecDepth 100000 in
set_option maxHeartbeats 4000000 in
theorem c_X5_of_0_4 {l : Launch} (hlt : l.stackTraces = false) {N n p : Nat} {ord : List Nat} {L : Nat → Nat → Nat} {Γ : Nat → Nat → Nat → Int32} {o : Int64} {h : am_H} (w : WI N n p ord L Γ o h) {b : Nat} (hb : b ≤ 8) (en : Γ 11 0 3 = nI b) {i : Nat} (hi : i < b) : am_Con l yX5_ofDistrict (.code yX5_ofDistrict cX5_ofDistrict 3 (some .int)) 20 0 0 [.ref (L 11 0), .int (nI i), .int (nI 4)] h (fun v h' => v = some (.int (Γ 12 18 i)) ∧ WI N n p ord L (u3 Γ 11 0 34 0) o h') (fun _ _ => False) := by
  refine am_body hlt (by decide +kernel) (Nat.le_of_ble_eq_true rfl) (fun k hl hR h0 hno => ?_)
  subst hl
  obtain ⟨Qf, hQ⟩ : ∃ Qf, Qf = am_Q k 0 0 (fun v h' => v = some (.int (Γ 12 18 i)) ∧ WI N n p ord L (u3 Γ 11 0 34 0) o h') (fun _ _ => False) := ⟨_, rfl⟩
  rw [← hQ]
  have hm : wdm n p 11 0 = true := rfl
  refine g_aload_n dX5_ofDistrict_0 rfl ?_
  refine g_aload_n dX5_ofDistrict_1 rfl ?_
  refine g_iload_n dX5_ofDistrict_2 rfl ?_
  refine g_callV [_] dX5_ofDistrict_3 mc_X5_107 mi_X5_isDistrict se_X5_isDistrict (c_X5_isD_1 hlt w hb en (by assumption)) (w.k (by first | rfl | assumption)) rfl rfl (Nat.le_of_ble_eq_true rfl) (am_rm hR (by decide)) (fun _ _ z => z) (fun v hx hq hE => ?_)
  obtain ⟨rfl, rfl⟩ := hq
  refine g_if_eq 23 dX5_ofDistrict_6 (by decide) (fun z => absurd z (by decide)) (fun _ => ?_)
  refine g_iload_n dX5_ofDistrict_9 rfl ?_
  refine g_iconst (v := 0) dX5_ofDistrict_10 (by decide) ?_
  refine g_bipush (v := 8) dX5_ofDistrict_11 (by decide) ?_
  refine g_callS [_, _, _] dX5_ofDistrict_13 mc_X5_96 ms_X5_isIn (c_X5_isIn_1 hlt (by decide) (by decide)) rfl (Nat.le_of_ble_eq_true rfl) (am_rm hR (by decide)) (fun _ _ z => z) (fun v hx hq hE => ?_)
  obtain ⟨rfl, rfl⟩ := hq
  refine g_if_eq 23 dX5_ofDistrict_16 (by decide) (fun z => absurd z (by decide)) (fun _ => ?_)
  refine g_iconst (v := 0) dX5_ofDistrict_19 (by decide) ?_
  refine g_goto 24 dX5_ofDistrict_20 (by decide) ?_
  refine g_callV [_] dX5_ofDistrict_24 mc_X5_103 mi_X5_can se_X5_can (c_X5_can_0 hlt w) (w.k (by first | rfl | assumption)) rfl rfl (Nat.le_of_ble_eq_true rfl) (am_rm hR (by decide)) (fun _ _ z => z) (fun v hx hq hE => ?_)
  obtain ⟨rfl, w1⟩ := hq
  obtain ⟨Γ1, hG⟩ : ∃ G, G = u3 Γ 11 0 34 0 := ⟨_, rfl⟩
  rw [← hG] at w1
  have en1 : Γ1 11 0 3 = Γ 11 0 3 := by rw [hG]; rfl
  have ep1 : Γ1 11 0 24 = Γ 11 0 24 := by rw [hG]; rfl
  refine g_if_ne 32 dX5_ofDistrict_27 (by decide) (fun _ => ?_) (fun z => absurd z (by decide))
  refine g_iload_n dX5_ofDistrict_32 rfl ?_
  refine g_tableIn 134 dX5_ofDistrict_33 (by decide) (by decide) rfl (by decide) ?_
  refine g_aload_n dX5_ofDistrict_134 rfl ?_
  refine w_getR w1 dX5_ofDistrict_135 fl_X5_50 rfl rfl (by first | rfl | assumption) rfl ?_
  refine g_iload_n dX5_ofDistrict_138 rfl ?_
  refine w_ald w1 dX5_ofDistrict_139 (by decide) (by first | rfl | assumption) (by first | assumption | omega | (show _ < 8; omega) | (show _ < 24; omega) | (show _ < 9; omega)) ?_
  rw [hQ]
  refine g_iret dX5_ofDistrict_140 rfl rfl (by decide) (by decide) ?_
  subst hG
  exact ⟨by first | rfl | simp [u3_ap], by first | exact w1 | simpa [u3_ap] using w1⟩
set_option maxRecDepth 100000 in
set_option maxHeartbeats 4000000 in
theorem c_X5_of_0_5 {l : Launch} (hlt : l.stackTraces = false) {N n p : Nat} {ord : List Nat} {L : Nat → Nat → Nat} {Γ : Nat → Nat → Nat → Int32} {o : Int64} {h : am_H} (w : WI N n p ord L Γ o h) {b : Nat} (hb : b ≤ 8) (en : Γ 11 0 3 = nI b) {i : Nat} (hi : i < b) : am_Con l yX5_ofDistrict (.code yX5_ofDistrict cX5_ofDistrict 3 (some .int)) 20 0 0 [.ref (L 11 0), .int (nI i), .int (nI 5)] h (fun v h' => v = some (.int (Γ 12 19 i)) ∧ WI N n p ord L (u3 Γ 11 0 34 0) o h') (fun _ _ => False) := by
  refine am_body hlt (by decide +kernel) (Nat.le_of_ble_eq_true rfl) (fun k hl hR h0 hno => ?_)
  subst hl
  obtain ⟨Qf, hQ⟩ : ∃ Qf, Qf = am_Q k 0 0 (fun v h' => v = some (.int (Γ 12 19 i)) ∧ WI N n p ord L (u3 Γ 11 0 34 0) o h') (fun _ _ => False) := ⟨_, rfl⟩
  rw [← hQ]
  have hm : wdm n p 11 0 = true := rfl
  refine g_aload_n dX5_ofDistrict_0 rfl ?_
  refine g_aload_n dX5_ofDistrict_1 rfl ?_
  refine g_iload_n dX5_ofDistrict_2 rfl ?_
  refine g_callV [_] dX5_ofDistrict_3 mc_X5_107 mi_X5_isDistrict se_X5_isDistrict (c_X5_isD_1 hlt w hb en (by assumption)) (w.k (by first | rfl | assumption)) rfl rfl (Nat.le_of_ble_eq_true rfl) (am_rm hR (by decide)) (fun _ _ z => z) (fun v hx hq hE => ?_)
  obtain ⟨rfl, rfl⟩ := hq
  refine g_if_eq 23 dX5_ofDistrict_6 (by decide) (fun z => absurd z (by decide)) (fun _ => ?_)
  refine g_iload_n dX5_ofDistrict_9 rfl ?_
  refine g_iconst (v := 0) dX5_ofDistrict_10 (by decide) ?_
  refine g_bipush (v := 8) dX5_ofDistrict_11 (by decide) ?_
  refine g_callS [_, _, _] dX5_ofDistrict_13 mc_X5_96 ms_X5_isIn (c_X5_isIn_1 hlt (by decide) (by decide)) rfl (Nat.le_of_ble_eq_true rfl) (am_rm hR (by decide)) (fun _ _ z => z) (fun v hx hq hE => ?_)
  obtain ⟨rfl, rfl⟩ := hq
  refine g_if_eq 23 dX5_ofDistrict_16 (by decide) (fun z => absurd z (by decide)) (fun _ => ?_)
  refine g_iconst (v := 0) dX5_ofDistrict_19 (by decide) ?_
  refine g_goto 24 dX5_ofDistrict_20 (by decide) ?_
  refine g_callV [_] dX5_ofDistrict_24 mc_X5_103 mi_X5_can se_X5_can (c_X5_can_0 hlt w) (w.k (by first | rfl | assumption)) rfl rfl (Nat.le_of_ble_eq_true rfl) (am_rm hR (by decide)) (fun _ _ z => z) (fun v hx hq hE => ?_)
  obtain ⟨rfl, w1⟩ := hq
  obtain ⟨Γ1, hG⟩ : ∃ G, G = u3 Γ 11 0 34 0 := ⟨_, rfl⟩
  rw [← hG] at w1
  have en1 : Γ1 11 0 3 = Γ 11 0 3 := by rw [hG]; rfl
  have ep1 : Γ1 11 0 24 = Γ 11 0 24 := by rw [hG]; rfl
  refine g_if_ne 32 dX5_ofDistrict_27 (by decide) (fun _ => ?_) (fun z => absurd z (by decide))
  refine g_iload_n dX5_ofDistrict_32 rfl ?_
  refine g_tableIn 141 dX5_ofDistrict_33 (by decide) (by decide) rfl (by decide) ?_
  refine g_aload_n dX5_ofDistrict_141 rfl ?_
  refine w_getR w1 dX5_ofDistrict_142 fl_X5_53 rfl rfl (by first | rfl | assumption) rfl ?_
  refine g_iload_n dX5_ofDistrict_145 rfl ?_
  refine w_ald w1 dX5_ofDistrict_146 (by decide) (by first | rfl | assumption) (by first | assumption | omega | (show _ < 8; omega) | (show _ < 24; omega) | (show _ < 9; omega)) ?_
  rw [hQ]
  refine g_iret dX5_ofDistrict_147 rfl rfl (by decide) (by decide) ?_
  subst hG
  exact ⟨by first | rfl | simp [u3_ap], by first | exact w1 | simpa [u3_ap] using w1⟩
set_option maxRecDepth 100000 in
set_option maxHeartbeats 4000000 in
theorem c_X5_of_0_6 {l : Launch} (hlt : l.stackTraces = false) {N n p : Nat} {ord : List Nat} {L : Nat → Nat → Nat} {Γ : Nat → Nat → Nat → Int32} {o : Int64} {h : am_H} (w : WI N n p ord L Γ o h) {b : Nat} (hb : b ≤ 8) (en : Γ 11 0 3 = nI b) {i : Nat} (hi : i < b) : am_Con l yX5_ofDistrict (.code yX5_ofDistrict cX5_ofDistrict 3 (some .int)) 20 0 0 [.ref (L 11 0), .int (nI i), .int (nI 6)] h (fun v h' => v = some (.int (Γ 12 20 i)) ∧ WI N n p ord L (u3 Γ 11 0 34 0) o h') (fun _ _ => False) := by
  refine am_body hlt (by decide +kernel) (Nat.le_of_ble_eq_true rfl) (fun k hl hR h0 hno => ?_)
  subst hl
  obtain ⟨Qf, hQ⟩ : ∃ Qf, Qf = am_Q k 0 0 (fun v h' => v = some (.int (Γ 12 20 i)) ∧ WI N n p ord L (u3 Γ 11 0 34 0) o h') (fun _ _ => False) := ⟨_, rfl⟩
  rw [← hQ]
  have hm : wdm n p 11 0 = true := rfl
  refine g_aload_n dX5_ofDistrict_0 rfl ?_
  refine g_aload_n dX5_ofDistrict_1 rfl ?_
  refine g_iload_n dX5_ofDistrict_2 rfl ?_
  refine g_callV [_] dX5_ofDistrict_3 mc_X5_107 mi_X5_isDistrict se_X5_isDistrict (c_X5_isD_1 hlt w hb en (by assumption)) (w.k (by first | rfl | assumption)) rfl rfl (Nat.le_of_ble_eq_true rfl) (am_rm hR (by decide)) (fun _ _ z => z) (fun v hx hq hE => ?_)
  obtain ⟨rfl, rfl⟩ := hq
  refine g_if_eq 23 dX5_ofDistrict_6 (by decide) (fun z => absurd z (by decide)) (fun _ => ?_)
  refine g_iload_n dX5_ofDistrict_9 rfl ?_
  refine g_iconst (v := 0) dX5_ofDistrict_10 (by decide) ?_
  refine g_bipush (v := 8) dX5_ofDistrict_11 (by decide) ?_
  refine g_callS [_, _, _] dX5_ofDistrict_13 mc_X5_96 ms_X5_isIn (c_X5_isIn_1 hlt (by decide) (by decide)) rfl (Nat.le_of_ble_eq_true rfl) (am_rm hR (by decide)) (fun _ _ z => z) (fun v hx hq hE => ?_)
  obtain ⟨rfl, rfl⟩ := hq
  refine g_if_eq 23 dX5_ofDistrict_16 (by decide) (fun z => absurd z (by decide)) (fun _ => ?_)
  refine g_iconst (v := 0) dX5_ofDistrict_19 (by decide) ?_
  refine g_goto 24 dX5_ofDistrict_20 (by decide) ?_
  refine g_callV [_] dX5_ofDistrict_24 mc_X5_103 mi_X5_can se_X5_can (c_X5_can_0 hlt w) (w.k (by first | rfl | assumption)) rfl rfl (Nat.le_of_ble_eq_true rfl) (am_rm hR (by decide)) (fun _ _ z => z) (fun v hx hq hE => ?_)
  obtain ⟨rfl, w1⟩ := hq
  obtain ⟨Γ1, hG⟩ : ∃ G, G = u3 Γ 11 0 34 0 := ⟨_, rfl⟩
  rw [← hG] at w1
  have en1 : Γ1 11 0 3 = Γ 11 0 3 := by rw [hG]; rfl
  have ep1 : Γ1 11 0 24 = Γ 11 0 24 := by rw [hG]; rfl
  refine g_if_ne 32 dX5_ofDistrict_27 (by decide) (fun _ => ?_) (fun z => absurd z (by decide))
  refine g_iload_n dX5_ofDistrict_32 rfl ?_
  refine g_tableIn 148 dX5_ofDistrict_33 (by decide) (by decide) rfl (by decide) ?_
  refine g_aload_n dX5_ofDistrict_148 rfl ?_
  refine w_getR w1 dX5_ofDistrict_149 fl_X5_56 rfl rfl (by first | rfl | assumption) rfl ?_
  refine g_iload_n dX5_ofDistrict_152 rfl ?_
  refine w_ald w1 dX5_ofDistrict_153 (by decide) (by first | rfl | assumption) (by first | assumption | omega | (show _ < 8; omega) | (show _ < 24; omega) | (show _ < 9; omega)) ?_
  rw [hQ]
  refine g_iret dX5_ofDistrict_154 rfl rfl (by decide) (by decide) ?_
  subst hG
  exact ⟨by first | rfl | simp [u3_ap], by first | exact w1 | simpa [u3_ap] using w1⟩
set_option maxRecDepth 100000 in
set_option maxHeartbeats 4000000 in
theorem c_X5_of_0_7 {l : Launch} (hlt : l.stackTraces = false) {N n p : Nat} {ord : List Nat} {L : Nat → Nat → Nat} {Γ : Nat → Nat → Nat → Int32} {o : Int64} {h : am_H} (w : WI N n p ord L Γ o h) {b : Nat} (hb : b ≤ 8) (en : Γ 11 0 3 = nI b) {i : Nat} (hi : i < b) : am_Con l yX5_ofDistrict (.code yX5_ofDistrict cX5_ofDistrict 3 (some .int)) 20 0 0 [.ref (L 11 0), .int (nI i), .int (nI 7)] h (fun v h' => v = some (.int (Γ 12 21 i)) ∧ WI N n p ord L (u3 Γ 11 0 34 0) o h') (fun _ _ => False) := by
  refine am_body hlt (by decide +kernel) (Nat.le_of_ble_eq_true rfl) (fun k hl hR h0 hno => ?_)
  subst hl
  obtain ⟨Qf, hQ⟩ : ∃ Qf, Qf = am_Q k 0 0 (fun v h' => v = some (.int (Γ 12 21 i)) ∧ WI N n p ord L (u3 Γ 11 0 34 0) o h') (fun _ _ => False) := ⟨_, rfl⟩
  rw [← hQ]
  have hm : wdm n p 11 0 = true := rfl
  refine g_aload_n dX5_ofDistrict_0 rfl ?_
  refine g_aload_n dX5_ofDistrict_1 rfl ?_
  refine g_iload_n dX5_ofDistrict_2 rfl ?_
  refine g_callV [_] dX5_ofDistrict_3 mc_X5_107 mi_X5_isDistrict se_X5_isDistrict (c_X5_isD_1 hlt w hb en (by assumption)) (w.k (by first | rfl | assumption)) rfl rfl (Nat.le_of_ble_eq_true rfl) (am_rm hR (by decide)) (fun _ _ z => z) (fun v hx hq hE => ?_)
  obtain ⟨rfl, rfl⟩ := hq
  refine g_if_eq 23 dX5_ofDistrict_6 (by decide) (fun z => absurd z (by decide)) (fun _ => ?_)
  refine g_iload_n dX5_ofDistrict_9 rfl ?_
  refine g_iconst (v := 0) dX5_ofDistrict_10 (by decide) ?_
  refine g_bipush (v := 8) dX5_ofDistrict_11 (by decide) ?_
  refine g_callS [_, _, _] dX5_ofDistrict_13 mc_X5_96 ms_X5_isIn (c_X5_isIn_1 hlt (by decide) (by decide)) rfl (Nat.le_of_ble_eq_true rfl) (am_rm hR (by decide)) (fun _ _ z => z) (fun v hx hq hE => ?_)
  obtain ⟨rfl, rfl⟩ := hq
  refine g_if_eq 23 dX5_ofDistrict_16 (by decide) (fun z => absurd z (by decide)) (fun _ => ?_)
  refine g_iconst (v := 0) dX5_ofDistrict_19 (by decide) ?_
  refine g_goto 24 dX5_ofDistrict_20 (by decide) ?_
  refine g_callV [_] dX5_ofDistrict_24 mc_X5_103 mi_X5_can se_X5_can (c_X5_can_0 hlt w) (w.k (by first | rfl | assumption)) rfl rfl (Nat.le_of_ble_eq_true rfl) (am_rm hR (by decide)) (fun _ _ z => z) (fun v hx hq hE => ?_)
  obtain ⟨rfl, w1⟩ := hq
  obtain ⟨Γ1, hG⟩ : ∃ G, G = u3 Γ 11 0 34 0 := ⟨_, rfl⟩
  rw [← hG] at w1
  have en1 : Γ1 11 0 3 = Γ 11 0 3 := by rw [hG]; rfl
  have ep1 : Γ1 11 0 24 = Γ 11 0 24 := by rw [hG]; rfl
  refine g_if_ne 32 dX5_ofDistrict_27 (by decide) (fun _ => ?_) (fun z => absurd z (by decide))
  refine g_iload_n dX5_ofDistrict_32 rfl ?_
  refine g_tableIn 155 dX5_ofDistrict_33 (by decide) (by decide) rfl (by decide) ?_
  refine g_aload_n dX5_ofDistrict_155 rfl ?_
  refine w_getR w1 dX5_ofDistrict_156 fl_X5_59 rfl rfl (by first | rfl | assumption) rfl ?_
  refine g_iload_n dX5_ofDistrict_159 rfl ?_
  refine w_ald w1 dX5_ofDistrict_160 (by decide) (by first | rfl | assumption) (by first | assumption | omega | (show _ < 8; omega) | (show _ < 24; omega) | (show _ < 9; omega)) ?_
  rw [hQ]
  refine g_iret dX5_ofDistrict_161 rfl rfl (by decide) (by decide) ?_
  subst hG
  exact ⟨by first | rfl | simp [u3_ap], by first | exact w1 | simpa [u3_ap] using w1⟩
set_option maxRecDepth 100000 in
set_option maxHeartbeats 4000000 in
theorem c_X5_of_0_8 {l : Launch} (hlt : l.stackTraces = false) {N n p : Nat} {ord : List Nat} {L : Nat → Nat → Nat} {Γ : Nat → Nat → Nat → Int32} {o : Int64} {h : am_H} (w : WI N n p ord L Γ o h) {b : Nat} (hb : b ≤ 8) (en : Γ 11 0 3 = nI b) {i : Nat} (hi : i < b) : am_Con l yX5_ofDistrict (.code yX5_ofDistrict cX5_ofDistrict 3 (some .int)) 20 0 0 [.ref (L 11 0), .int (nI i), .int (nI 8)] h (fun v h' => v = some (.int (Γ 12 22 i)) ∧ WI N n p ord L (u3 Γ 11 0 34 0) o h') (fun _ _ => False) := by
  refine am_body hlt (by decide +kernel) (Nat.le_of_ble_eq_true rfl) (fun k hl hR h0 hno => ?_)
  subst hl
  obtain ⟨Qf, hQ⟩ : ∃ Qf, Qf = am_Q k 0 0 (fun v h' => v = some (.int (Γ 12 22 i)) ∧ WI N n p ord L (u3 Γ 11 0 34 0) o h') (fun _ _ => False) := ⟨_, rfl⟩
  rw [← hQ]
  have hm : wdm n p 11 0 = true := rfl
  refine g_aload_n dX5_ofDistrict_0 rfl ?_
  refine g_aload_n dX5_ofDistrict_1 rfl ?_
  refine g_iload_n dX5_ofDistrict_2 rfl ?_
  refine g_callV [_] dX5_ofDistrict_3 mc_X5_107 mi_X5_isDistrict se_X5_isDistrict (c_X5_isD_1 hlt w hb en (by assumption)) (w.k (by first | rfl | assumption)) rfl rfl (Nat.le_of_ble_eq_true rfl) (am_rm hR (by decide)) (fun _ _ z => z) (fun v hx hq hE => ?_)
  obtain ⟨rfl, rfl⟩ := hq
  refine g_if_eq 23 dX5_ofDistrict_6 (by decide) (fun z => absurd z (by decide)) (fun _ => ?_)
  refine g_iload_n dX5_ofDistrict_9 rfl ?_
  refine g_iconst (v := 0) dX5_ofDistrict_10 (by decide) ?_
  refine g_bipush (v := 8) dX5_ofDistrict_11 (by decide) ?_
  refine g_callS [_, _, _] dX5_ofDistrict_13 mc_X5_96 ms_X5_isIn (c_X5_isIn_1 hlt (by decide) (by decide)) rfl (Nat.le_of_ble_eq_true rfl) (am_rm hR (by decide)) (fun _ _ z => z) (fun v hx hq hE => ?_)
  obtain ⟨rfl, rfl⟩ := hq
  refine g_if_eq 23 dX5_ofDistrict_16 (by decide) (fun z => absurd z (by decide)) (fun _ => ?_)
  refine g_iconst (v := 0) dX5_ofDistrict_19 (by decide) ?_
  refine g_goto 24 dX5_ofDistrict_20 (by decide) ?_
  refine g_callV [_] dX5_ofDistrict_24 mc_X5_103 mi_X5_can se_X5_can (c_X5_can_0 hlt w) (w.k (by first | rfl | assumption)) rfl rfl (Nat.le_of_ble_eq_true rfl) (am_rm hR (by decide)) (fun _ _ z => z) (fun v hx hq hE => ?_)
  obtain ⟨rfl, w1⟩ := hq
  obtain ⟨Γ1, hG⟩ : ∃ G, G = u3 Γ 11 0 34 0 := ⟨_, rfl⟩
  rw [← hG] at w1
  have en1 : Γ1 11 0 3 = Γ 11 0 3 := by rw [hG]; rfl
  have ep1 : Γ1 11 0 24 = Γ 11 0 24 := by rw [hG]; rfl
  refine g_if_ne 32 dX5_ofDistrict_27 (by decide) (fun _ => ?_) (fun z => absurd z (by decide))
  refine g_iload_n dX5_ofDistrict_32 rfl ?_
  refine g_tableOut 162 dX5_ofDistrict_33 (by decide) (by decide) ?_
  refine g_aload_n dX5_ofDistrict_162 rfl ?_
  refine w_getR w1 dX5_ofDistrict_163 fl_X5_62 rfl rfl (by first | rfl | assumption) rfl ?_
  refine g_iload_n dX5_ofDistrict_166 rfl ?_
  refine w_ald w1 dX5_ofDistrict_167 (by decide) (by first | rfl | assumption) (by first | assumption | omega | (show _ < 8; omega) | (show _ < 24; omega) | (show _ < 9; omega)) ?_
  rw [hQ]
  refine g_iret dX5_ofDistrict_168 rfl rfl (by decide) (by decide) ?_
  subst hG
  exact ⟨by first | rfl | simp [u3_ap], by first | exact w1 | simpa [u3_ap] using w1⟩
set_option maxRecDepth 100000 in
set_option maxHeartbeats 4000000 in
theorem c_X5_flowAnew_1 {l : Launch} (hlt : l.stackTraces = false) {N n p : Nat} {ord : List Nat} {L : Nat → Nat → Nat} {Γ : Nat → Nat → Nat → Int32} {o : Int64} {h : am_H} (w : WI N n p ord L Γ o h) {b : Nat} (hb : b ≤ 8) (en : Γ 11 0 3 = nI b) {x : Int32} (hx9 : x < 0 ∨ nI b ≤ x) : am_Con l yX5_flowAnew (.code yX5_flowAnew cX5_flowAnew 2 (some .int)) 20 0 0 [.ref (L 11 0), .int x] h (fun v h' => v = some (.int 0) ∧ WI N n p ord L (u3 Γ 11 0 34 1) o h') (fun _ _ => False) := by
  refine am_body hlt (by decide +kernel) (Nat.le_of_ble_eq_true rfl) (fun k hl hR h0 hno => ?_)
  subst hl
  obtain ⟨Qf, hQ⟩ : ∃ Qf, Qf = am_Q k 0 0 (fun v h' => v = some (.int 0) ∧ WI N n p ord L (u3 Γ 11 0 34 1) o h') (fun _ _ => False) := ⟨_, rfl⟩
  rw [← hQ]
  have hm : wdm n p 11 0 = true := rfl
  refine g_aload_n dX5_flowAnew_0 rfl ?_
  refine g_aload_n dX5_flowAnew_1 rfl ?_
  refine g_iload_n dX5_flowAnew_2 rfl ?_
  refine g_callV [_] dX5_flowAnew_3 mc_X5_107 mi_X5_isDistrict se_X5_isDistrict (c_X5_isD_0 hlt w hb en (by assumption)) (w.k (by first | rfl | assumption)) rfl rfl (Nat.le_of_ble_eq_true rfl) (am_rm hR (by decide)) (fun _ _ z => z) (fun v hx hq hE => ?_)
  obtain ⟨rfl, rfl⟩ := hq
  refine g_if_eq 13 dX5_flowAnew_6 (by decide) (fun _ => ?_) (fun z => absurd z (by decide))
  refine g_iconst (v := 1) dX5_flowAnew_13 (by decide) ?_
  refine g_callV [_] dX5_flowAnew_14 mc_X5_103 mi_X5_can se_X5_can (c_X5_can_1 hlt w (a := 1) (by decide)) (w.k (by first | rfl | assumption)) rfl rfl (Nat.le_of_ble_eq_true rfl) (am_rm hR (by decide)) (fun _ _ z => z) (fun v hx hq hE => ?_)
  obtain ⟨rfl, w1⟩ := hq
  obtain ⟨Γ1, hG⟩ : ∃ G, G = u3 Γ 11 0 34 1 := ⟨_, rfl⟩
  rw [← hG] at w1
  have en1 : Γ1 11 0 3 = Γ 11 0 3 := by rw [hG]; rfl
  have ep1 : Γ1 11 0 24 = Γ 11 0 24 := by rw [hG]; rfl
  refine g_if_eq 29 dX5_flowAnew_17 (by decide) (fun _ => ?_) (fun z => absurd z (by decide))
  refine g_iconst (v := 0) dX5_flowAnew_29 (by decide) ?_
  rw [hQ]
  refine g_iret dX5_flowAnew_30 rfl rfl (by decide) (by decide) ?_
  subst hG
  exact ⟨by first | rfl | simp [u3_ap], by first | exact w1 | simpa [u3_ap] using w1⟩
set_option maxRecDepth 100000 in
set_option maxHeartbeats 4000000 in
theorem c_X5_flowAnew_0 {l : Launch} (hlt : l.stackTraces = false) {N n p : Nat} {ord : List Nat} {L : Nat → Nat → Nat} {Γ : Nat → Nat → Nat → Int32} {o : Int64} {h : am_H} (w : WI N n p ord L Γ o h) {b : Nat} (hb : b ≤ 8) (en : Γ 11 0 3 = nI b) {i : Nat} (hi : i < b) : am_Con l yX5_flowAnew (.code yX5_flowAnew cX5_flowAnew 2 (some .int)) 20 0 0 [.ref (L 11 0), .int (nI i)] h (fun v h' => v = some (.int (Γ 12 17 i)) ∧ WI N n p ord L (u3 Γ 11 0 34 0) o h') (fun _ _ => False) := by
  refine am_body hlt (by decide +kernel) (Nat.le_of_ble_eq_true rfl) (fun k hl hR h0 hno => ?_)
  subst hl
  obtain ⟨Qf, hQ⟩ : ∃ Qf, Qf = am_Q k 0 0 (fun v h' => v = some (.int (Γ 12 17 i)) ∧ WI N n p ord L (u3 Γ 11 0 34 0) o h') (fun _ _ => False) := ⟨_, rfl⟩
  rw [← hQ]
  have hm : wdm n p 11 0 = true := rfl
  refine g_aload_n dX5_flowAnew_0 rfl ?_
  refine g_aload_n dX5_flowAnew_1 rfl ?_
  refine g_iload_n dX5_flowAnew_2 rfl ?_
  refine g_callV [_] dX5_flowAnew_3 mc_X5_107 mi_X5_isDistrict se_X5_isDistrict (c_X5_isD_1 hlt w hb en (by assumption)) (w.k (by first | rfl | assumption)) rfl rfl (Nat.le_of_ble_eq_true rfl) (am_rm hR (by decide)) (fun _ _ z => z) (fun v hx hq hE => ?_)
  obtain ⟨rfl, rfl⟩ := hq
  refine g_if_eq 13 dX5_flowAnew_6 (by decide) (fun z => absurd z (by decide)) (fun _ => ?_)
  refine g_iconst (v := 0) dX5_flowAnew_9 (by decide) ?_
  refine g_goto 14 dX5_flowAnew_10 (by decide) ?_
  refine g_callV [_] dX5_flowAnew_14 mc_X5_103 mi_X5_can se_X5_can (c_X5_can_0 hlt w) (w.k (by first | rfl | assumption)) rfl rfl (Nat.le_of_ble_eq_true rfl) (am_rm hR (by decide)) (fun _ _ z => z) (fun v hx hq hE => ?_)
  obtain ⟨rfl, w1⟩ := hq
  obtain ⟨Γ1, hG⟩ : ∃ G, G = u3 Γ 11 0 34 0 := ⟨_, rfl⟩
  rw [← hG] at w1
  have en1 : Γ1 11 0 3 = Γ 11 0 3 := by rw [hG]; rfl
  have ep1 : Γ1 11 0 24 = Γ 11 0 24 := by rw [hG]; rfl
  refine g_if_eq 29 dX5_flowAnew_17 (by decide) (fun z => absurd z (by decide)) (fun _ => ?_)
  refine g_aload_n dX5_flowAnew_20 rfl ?_
  refine w_getR w1 dX5_flowAnew_21 fl_X5_47 rfl rfl (by first | rfl | assumption) rfl ?_
  refine g_iload_n dX5_flowAnew_24 rfl ?_
  refine w_ald w1 dX5_flowAnew_25 (by decide) (by first | rfl | assumption) (by first | assumption | omega | (show _ < 8; omega) | (show _ < 24; omega) | (show _ < 9; omega)) ?_
  refine g_goto 30 dX5_flowAnew_26 (by decide) ?_
  rw [hQ]
  refine g_iret dX5_flowAnew_30 rfl rfl (by decide) (by decide) ?_
  subst hG
  exact ⟨by first | rfl | simp [u3_ap], by first | exact w1 | simpa [u3_ap] using w1⟩
set_option maxRecDepth 100000 in
set_option maxHeartbeats 4000000 in
theorem c_X5_place_1 {l : Launch} (hlt : l.stackTraces = false) {N n p : Nat} {ord : List Nat} {L : Nat → Nat → Nat} {Γ : Nat → Nat → Nat → Int32} {o : Int64} {h : am_H} (w : WI N n p ord L Γ o h) {b : Nat} (hb : b ≤ 8) (en : Γ 11 0 3 = nI b) {x : Int32} (hx9 : x < 0 ∨ nI b ≤ x) : am_Con l yX5_place (.code yX5_place cX5_place 2 (some .int)) 20 0 0 [.ref (L 11 0), .int x] h (fun v h' => v = some (.int 0) ∧ WI N n p ord L (u3 Γ 11 0 34 1) o h') (fun _ _ => False) := by
  refine am_body hlt (by decide +kernel) (Nat.le_of_ble_eq_true rfl) (fun k hl hR h0 hno => ?_)
  subst hl
  obtain ⟨Qf, hQ⟩ : ∃ Qf, Qf = am_Q k 0 0 (fun v h' => v = some (.int 0) ∧ WI N n p ord L (u3 Γ 11 0 34 1) o h') (fun _ _ => False) := ⟨_, rfl⟩
  rw [← hQ]
  have hm : wdm n p 11 0 = true := rfl
  refine g_aload_n dX5_place_0 rfl ?_
  refine g_aload_n dX5_place_1 rfl ?_
  refine g_iload_n dX5_place_2 rfl ?_
  refine g_callV [_] dX5_place_3 mc_X5_107 mi_X5_isDistrict se_X5_isDistrict (c_X5_isD_0 hlt w hb en (by assumption)) (w.k (by first | rfl | assumption)) rfl rfl (Nat.le_of_ble_eq_true rfl) (am_rm hR (by decide)) (fun _ _ z => z) (fun v hx hq hE => ?_)
  obtain ⟨rfl, rfl⟩ := hq
  refine g_if_eq 13 dX5_place_6 (by decide) (fun _ => ?_) (fun z => absurd z (by decide))
  refine g_iconst (v := 1) dX5_place_13 (by decide) ?_
  refine g_callV [_] dX5_place_14 mc_X5_103 mi_X5_can se_X5_can (c_X5_can_1 hlt w (a := 1) (by decide)) (w.k (by first | rfl | assumption)) rfl rfl (Nat.le_of_ble_eq_true rfl) (am_rm hR (by decide)) (fun _ _ z => z) (fun v hx hq hE => ?_)
  obtain ⟨rfl, w1⟩ := hq
  obtain ⟨Γ1, hG⟩ : ∃ G, G = u3 Γ 11 0 34 1 := ⟨_, rfl⟩
  rw [← hG] at w1
  have en1 : Γ1 11 0 3 = Γ 11 0 3 := by rw [hG]; rfl
  have ep1 : Γ1 11 0 24 = Γ 11 0 24 := by rw [hG]; rfl
  refine g_if_ne 22 dX5_place_17 (by decide) (fun z => absurd z (by decide)) (fun _ => ?_)
  refine g_iconst (v := 0) dX5_place_20 (by decide) ?_
  rw [hQ]
  refine g_iret dX5_place_21 rfl rfl (by decide) (by decide) ?_
  subst hG
  exact ⟨by first | rfl | simp [u3_ap], by first | exact w1 | simpa [u3_ap] using w1⟩
set_option maxRecDepth 100000 in
set_option maxHeartbeats 4000000 in
theorem c_X5_place_0 {l : Launch} (hlt : l.stackTraces = false) {N n p : Nat} {ord : List Nat} {L : Nat → Nat → Nat} {Γ : Nat → Nat → Nat → Int32} {o : Int64} {h : am_H} (w : WI N n p ord L Γ o h) {b : Nat} (hb : b ≤ 8) (en : Γ 11 0 3 = nI b) {i : Nat} (hi : i < b) : am_Con l yX5_place (.code yX5_place cX5_place 2 (some .int)) 20 0 0 [.ref (L 11 0), .int (nI i)] h (fun v h' => v = some (.int (if Γ 13 10 i = 0 then -1 else sp_place (u3 Γ 11 0 34 0) b i)) ∧ WI N n p ord L (u3 Γ 11 0 34 0) o h') (fun _ _ => False) := by
  refine am_body hlt (by decide +kernel) (Nat.le_of_ble_eq_true rfl) (fun k hl hR h0 hno => ?_)
  subst hl
  obtain ⟨Qf, hQ⟩ : ∃ Qf, Qf = am_Q k 0 0 (fun v h' => v = some (.int (if Γ 13 10 i = 0 then -1 else sp_place (u3 Γ 11 0 34 0) b i)) ∧ WI N n p ord L (u3 Γ 11 0 34 0) o h') (fun _ _ => False) := ⟨_, rfl⟩
  rw [← hQ]
  have hm : wdm n p 11 0 = true := rfl
  refine g_aload_n dX5_place_0 rfl ?_
  refine g_aload_n dX5_place_1 rfl ?_
  refine g_iload_n dX5_place_2 rfl ?_
  refine g_callV [_] dX5_place_3 mc_X5_107 mi_X5_isDistrict se_X5_isDistrict (c_X5_isD_1 hlt w hb en (by assumption)) (w.k (by first | rfl | assumption)) rfl rfl (Nat.le_of_ble_eq_true rfl) (am_rm hR (by decide)) (fun _ _ z => z) (fun v hx hq hE => ?_)
  obtain ⟨rfl, rfl⟩ := hq
  refine g_if_eq 13 dX5_place_6 (by decide) (fun z => absurd z (by decide)) (fun _ => ?_)
  refine g_iconst (v := 0) dX5_place_9 (by decide) ?_
  refine g_goto 14 dX5_place_10 (by decide) ?_
  refine g_callV [_] dX5_place_14 mc_X5_103 mi_X5_can se_X5_can (c_X5_can_0 hlt w) (w.k (by first | rfl | assumption)) rfl rfl (Nat.le_of_ble_eq_true rfl) (am_rm hR (by decide)) (fun _ _ z => z) (fun v hx hq hE => ?_)
  obtain ⟨rfl, w1⟩ := hq
  obtain ⟨Γ1, hG⟩ : ∃ G, G = u3 Γ 11 0 34 0 := ⟨_, rfl⟩
  rw [← hG] at w1
  have en1 : Γ1 11 0 3 = Γ 11 0 3 := by rw [hG]; rfl
  have ep1 : Γ1 11 0 24 = Γ 11 0 24 := by rw [hG]; rfl
  refine g_if_ne 22 dX5_place_17 (by decide) (fun _ => ?_) (fun z => absurd z (by decide))
  refine g_aload_n dX5_place_22 rfl ?_
  refine w_getR w1 dX5_place_23 fl_X5_28 rfl rfl (by first | rfl | assumption) rfl ?_
  refine g_iload_n dX5_place_26 rfl ?_
  refine w_zald w1 dX5_place_27 (by first | rfl | assumption) (by first | assumption | omega | (show _ < 8; omega) | (show _ < 24; omega) | (show _ < 9; omega)) ?_
  refine g_if_eq 39 dX5_place_28 (by decide) (fun c_28 => ?_) (fun c_28 => ?_)
  · skip
    refine g_iconst (v := (-1)) dX5_place_39 (by decide) ?_
    rw [hQ]
    refine g_iret dX5_place_40 rfl rfl (by decide) (by decide) ?_
    subst hG
    have c9 : Γ 13 10 i = 0 ∨ ¬ Γ 13 10 i = 0 := Classical.em _
    exact ⟨by first | rw [if_pos (show Γ 13 10 i = 0 from c_28)] | (rw [if_neg (show ¬ Γ 13 10 i = 0 from c_28)]; rfl), w1⟩
  · skip
    refine g_aload_n dX5_place_31 rfl ?_
    refine g_iload_n dX5_place_32 rfl ?_
    refine g_callV [_] dX5_place_33 mc_X5_138 mi_X5_placeOf se_X5_placeOf (c_X5_placeOf hlt w1 hb (by rw [en1]; exact en) (by omega)) (w1.k (by first | rfl | assumption)) rfl rfl (Nat.le_of_ble_eq_true rfl) (am_rm hR (by decide)) (fun _ _ z => z) (fun v hx hq hE => ?_)
    obtain ⟨rfl, rfl⟩ := hq
    refine g_goto 40 dX5_place_36 (by decide) ?_
    rw [hQ]
    refine g_iret dX5_place_40 rfl rfl (by decide) (by decide) ?_
    subst hG
    have c9 : Γ 13 10 i = 0 ∨ ¬ Γ 13 10 i = 0 := Classical.em _
    exact ⟨by first | rw [if_pos (show Γ 13 10 i = 0 from c_28)] | (rw [if_neg (show ¬ Γ 13 10 i = 0 from c_28)]; rfl), w1⟩
set_option maxRecDepth 100000 in
set_option maxHeartbeats 4000000 in
theorem c_X5_count_1 {l : Launch} (hlt : l.stackTraces = false) {N n p : Nat} {ord : List Nat} {L : Nat → Nat → Nat} {Γ : Nat → Nat → Nat → Int32} {o : Int64} {h : am_H} (w : WI N n p ord L Γ o h)  {a : Int32} (ab : a < 0 ∨ ¬ a ≤ 7) : am_Con l yX5_count (.code yX5_count cX5_count 2 (some .int)) 20 0 0 [.ref (L 11 0), .int a] h (fun v h' => v = some (.int 0) ∧ WI N n p ord L (u3 Γ 11 0 34 1) o h') (fun _ _ => False) := by
  refine am_body hlt (by decide +kernel) (Nat.le_of_ble_eq_true rfl) (fun k hl hR h0 hno => ?_)
  subst hl
  obtain ⟨Qf, hQ⟩ : ∃ Qf, Qf = am_Q k 0 0 (fun v h' => v = some (.int 0) ∧ WI N n p ord L (u3 Γ 11 0 34 1) o h') (fun _ _ => False) := ⟨_, rfl⟩
  rw [← hQ]
  have hm : wdm n p 11 0 = true := rfl
  refine g_aload_n dX5_count_0 rfl ?_
  refine g_iload_n dX5_count_1 rfl ?_
  refine g_iconst (v := 0) dX5_count_2 (by decide) ?_
  refine g_bipush (v := 7) dX5_count_3 (by decide) ?_
  refine g_callS [_, _, _] dX5_count_5 mc_X5_96 ms_X5_isIn (c_X5_isIn_0 hlt ab) rfl (Nat.le_of_ble_eq_true rfl) (am_rm hR (by decide)) (fun _ _ z => z) (fun v hx hq hE => ?_)
  obtain ⟨rfl, rfl⟩ := hq
  refine g_if_eq 15 dX5_count_8 (by decide) (fun _ => ?_) (fun z => absurd z (by decide))
  refine g_iconst (v := 1) dX5_count_15 (by decide) ?_
  refine g_callV [_] dX5_count_16 mc_X5_103 mi_X5_can se_X5_can (c_X5_can_1 hlt w (a := 1) (by decide)) (w.k (by first | rfl | assumption)) rfl rfl (Nat.le_of_ble_eq_true rfl) (am_rm hR (by decide)) (fun _ _ z => z) (fun v hx hq hE => ?_)
  obtain ⟨rfl, w1⟩ := hq
  obtain ⟨Γ1, hG⟩ : ∃ G, G = u3 Γ 11 0 34 1 := ⟨_, rfl⟩
  rw [← hG] at w1
  have en1 : Γ1 11 0 3 = Γ 11 0 3 := by rw [hG]; rfl
  have ep1 : Γ1 11 0 24 = Γ 11 0 24 := by rw [hG]; rfl
  refine g_if_ne 24 dX5_count_19 (by decide) (fun z => absurd z (by decide)) (fun _ => ?_)
  refine g_iconst (v := 0) dX5_count_22 (by decide) ?_
  rw [hQ]
  refine g_iret dX5_count_23 rfl rfl (by decide) (by decide) ?_
  subst hG
  exact ⟨by first | rfl | simp [u3_ap], by first | exact w1 | simpa [u3_ap] using w1⟩
set_option maxRecDepth 100000 in
set_option maxHeartbeats 4000000 in
theorem c_X5_count_0_0 {l : Launch} (hlt : l.stackTraces = false) {N n p : Nat} {ord : List Nat} {L : Nat → Nat → Nat} {Γ : Nat → Nat → Nat → Int32} {o : Int64} {h : am_H} (w : WI N n p ord L Γ o h) {b : Nat} (hb : b ≤ 8) (en : Γ 11 0 3 = nI b) {q : Nat} (hq0 : q ≤ 24) (ep : Γ 11 0 24 = nI q)  : am_Con l yX5_count (.code yX5_count cX5_count 2 (some .int)) 20 0 0 [.ref (L 11 0), .int (nI 0)] h (fun v h' => v = some (.int (nI b)) ∧ WI N n p ord L (u3 Γ 11 0 34 0) o h') (fun _ _ => False) := by
  refine am_body hlt (by decide +kernel) (Nat.le_of_ble_eq_true rfl) (fun k hl hR h0 hno => ?_)
  subst hl
  obtain ⟨Qf, hQ⟩ : ∃ Qf, Qf = am_Q k 0 0 (fun v h' => v = some (.int (nI b)) ∧ WI N n p ord L (u3 Γ 11 0 34 0) o h') (fun _ _ => False) := ⟨_, rfl⟩
  rw [← hQ]
  have hm : wdm n p 11 0 = true := rfl
  refine g_aload_n dX5_count_0 rfl ?_
  refine g_iload_n dX5_count_1 rfl ?_
  refine g_iconst (v := 0) dX5_count_2 (by decide) ?_
  refine g_bipush (v := 7) dX5_count_3 (by decide) ?_
  refine g_callS [_, _, _] dX5_count_5 mc_X5_96 ms_X5_isIn (c_X5_isIn_1 hlt (by decide) (by decide)) rfl (Nat.le_of_ble_eq_true rfl) (am_rm hR (by decide)) (fun _ _ z => z) (fun v hx hq hE => ?_)
  obtain ⟨rfl, rfl⟩ := hq
  refine g_if_eq 15 dX5_count_8 (by decide) (fun z => absurd z (by decide)) (fun _ => ?_)
  refine g_iconst (v := 0) dX5_count_11 (by decide) ?_
  refine g_goto 16 dX5_count_12 (by decide) ?_
  refine g_callV [_] dX5_count_16 mc_X5_103 mi_X5_can se_X5_can (c_X5_can_0 hlt w) (w.k (by first | rfl | assumption)) rfl rfl (Nat.le_of_ble_eq_true rfl) (am_rm hR (by decide)) (fun _ _ z => z) (fun v hx hq hE => ?_)
  obtain ⟨rfl, w1⟩ := hq
  obtain ⟨Γ1, hG⟩ : ∃ G, G = u3 Γ 11 0 34 0 := ⟨_, rfl⟩
  rw [← hG] at w1
  have en1 : Γ1 11 0 3 = Γ 11 0 3 := by rw [hG]; rfl
  have ep1 : Γ1 11 0 24 = Γ 11 0 24 := by rw [hG]; rfl
  refine g_if_ne 24 dX5_count_19 (by decide) (fun _ => ?_) (fun z => absurd z (by decide))
  refine g_iload_n dX5_count_24 rfl ?_
  refine g_tableIn 68 dX5_count_25 (by decide) (by decide) rfl (by decide) ?_
  refine g_aload_n dX5_count_68 rfl ?_
  refine w_getI w1 dX5_count_69 fl_X5_93 rfl rfl (by first | rfl | assumption) ?_
  rw [hQ]
  refine g_iret dX5_count_72 rfl rfl (by decide) (by decide) ?_
  subst hG
  exact ⟨by first | rfl | (rw [← en]; rfl) | (rw [← ep]; rfl), w1⟩
set_option maxRecDepth 100000 in
set_option maxHeartbeats 4000000 in
theorem c_X5_count_0_1 {l : Launch} (hlt : l.stackTraces = false) {N n p : Nat} {ord : List Nat} {L : Nat → Nat → Nat} {Γ : Nat → Nat → Nat → Int32} {o : Int64} {h : am_H} (w : WI N n p ord L Γ o h) {b : Nat} (hb : b ≤ 8) (en : Γ 11 0 3 = nI b) {q : Nat} (hq0 : q ≤ 24) (ep : Γ 11 0 24 = nI q)  : am_Con l yX5_count (.code yX5_count cX5_count 2 (some .int)) 20 0 0 [.ref (L 11 0), .int (nI 1)] h (fun v h' => v = some (.int (nI q)) ∧ WI N n p ord L (u3 Γ 11 0 34 0) o h') (fun _ _ => False) := by
  refine am_body hlt (by decide +kernel) (Nat.le_of_ble_eq_true rfl) (fun k hl hR h0 hno => ?_)
  subst hl
  obtain ⟨Qf, hQ⟩ : ∃ Qf, Qf = am_Q k 0 0 (fun v h' => v = some (.int (nI q)) ∧ WI N n p ord L (u3 Γ 11 0 34 0) o h') (fun _ _ => False) := ⟨_, rfl⟩
  rw [← hQ]
  have hm : wdm n p 11 0 = true := rfl
  refine g_aload_n dX5_count_0 rfl ?_
  refine g_iload_n dX5_count_1 rfl ?_
  refine g_iconst (v := 0) dX5_count_2 (by decide) ?_
  refine g_bipush (v := 7) dX5_count_3 (by decide) ?_
  refine g_callS [_, _, _] dX5_count_5 mc_X5_96 ms_X5_isIn (c_X5_isIn_1 hlt (by decide) (by decide)) rfl (Nat.le_of_ble_eq_true rfl) (am_rm hR (by decide)) (fun _ _ z => z) (fun v hx hq hE => ?_)
  obtain ⟨rfl, rfl⟩ := hq
  refine g_if_eq 15 dX5_count_8 (by decide) (fun z => absurd z (by decide)) (fun _ => ?_)
  refine g_iconst (v := 0) dX5_count_11 (by decide) ?_
  refine g_goto 16 dX5_count_12 (by decide) ?_
  refine g_callV [_] dX5_count_16 mc_X5_103 mi_X5_can se_X5_can (c_X5_can_0 hlt w) (w.k (by first | rfl | assumption)) rfl rfl (Nat.le_of_ble_eq_true rfl) (am_rm hR (by decide)) (fun _ _ z => z) (fun v hx hq hE => ?_)
  obtain ⟨rfl, w1⟩ := hq
  obtain ⟨Γ1, hG⟩ : ∃ G, G = u3 Γ 11 0 34 0 := ⟨_, rfl⟩
  rw [← hG] at w1
  have en1 : Γ1 11 0 3 = Γ 11 0 3 := by rw [hG]; rfl
  have ep1 : Γ1 11 0 24 = Γ 11 0 24 := by rw [hG]; rfl
  refine g_if_ne 24 dX5_count_19 (by decide) (fun _ => ?_) (fun z => absurd z (by decide))
  refine g_iload_n dX5_count_24 rfl ?_
  refine g_tableIn 73 dX5_count_25 (by decide) (by decide) rfl (by decide) ?_
  refine g_aload_n dX5_count_73 rfl ?_
  refine w_getI w1 dX5_count_74 fl_X5_100 rfl rfl (by first | rfl | assumption) ?_
  rw [hQ]
  refine g_iret dX5_count_77 rfl rfl (by decide) (by decide) ?_
  subst hG
  exact ⟨by first | rfl | (rw [← en]; rfl) | (rw [← ep]; rfl), w1⟩
set_option maxRecDepth 100000 in
set_option maxHeartbeats 4000000 in
theorem c_X5_count_0_2 {l : Launch} (hlt : l.stackTraces = false) {N n p : Nat} {ord : List Nat} {L : Nat → Nat → Nat} {Γ : Nat → Nat → Nat → Int32} {o : Int64} {h : am_H} (w : WI N n p ord L Γ o h) {b : Nat} (hb : b ≤ 8) (en : Γ 11 0 3 = nI b) {q : Nat} (hq0 : q ≤ 24) (ep : Γ 11 0 24 = nI q)  : am_Con l yX5_count (.code yX5_count cX5_count 2 (some .int)) 20 0 0 [.ref (L 11 0), .int (nI 2)] h (fun v h' => v = some (.int (sp_sum (fun j => if Γ 13 28 j = 0 then 0 else 1) q)) ∧ WI N n p ord L (u3 Γ 11 0 34 0) o h') (fun _ _ => False) := by
  refine am_body hlt (by decide +kernel) (Nat.le_of_ble_eq_true rfl) (fun k hl hR h0 hno => ?_)
  subst hl
  obtain ⟨Qf, hQ⟩ : ∃ Qf, Qf = am_Q k 0 0 (fun v h' => v = some (.int (sp_sum (fun j => if Γ 13 28 j = 0 then 0 else 1) q)) ∧ WI N n p ord L (u3 Γ 11 0 34 0) o h') (fun _ _ => False) := ⟨_, rfl⟩
  rw [← hQ]
  have hm : wdm n p 11 0 = true := rfl
  refine g_aload_n dX5_count_0 rfl ?_
  refine g_iload_n dX5_count_1 rfl ?_
  refine g_iconst (v := 0) dX5_count_2 (by decide) ?_
  refine g_bipush (v := 7) dX5_count_3 (by decide) ?_
  refine g_callS [_, _, _] dX5_count_5 mc_X5_96 ms_X5_isIn (c_X5_isIn_1 hlt (by decide) (by decide)) rfl (Nat.le_of_ble_eq_true rfl) (am_rm hR (by decide)) (fun _ _ z => z) (fun v hx hq hE => ?_)
  obtain ⟨rfl, rfl⟩ := hq
  refine g_if_eq 15 dX5_count_8 (by decide) (fun z => absurd z (by decide)) (fun _ => ?_)
  refine g_iconst (v := 0) dX5_count_11 (by decide) ?_
  refine g_goto 16 dX5_count_12 (by decide) ?_
  refine g_callV [_] dX5_count_16 mc_X5_103 mi_X5_can se_X5_can (c_X5_can_0 hlt w) (w.k (by first | rfl | assumption)) rfl rfl (Nat.le_of_ble_eq_true rfl) (am_rm hR (by decide)) (fun _ _ z => z) (fun v hx hq hE => ?_)
  obtain ⟨rfl, w1⟩ := hq
  obtain ⟨Γ1, hG⟩ : ∃ G, G = u3 Γ 11 0 34 0 := ⟨_, rfl⟩
  rw [← hG] at w1
  have en1 : Γ1 11 0 3 = Γ 11 0 3 := by rw [hG]; rfl
  have ep1 : Γ1 11 0 24 = Γ 11 0 24 := by rw [hG]; rfl
  refine g_if_ne 24 dX5_count_19 (by decide) (fun _ => ?_) (fun z => absurd z (by decide))
  refine g_iload_n dX5_count_24 rfl ?_
  refine g_tableIn 78 dX5_count_25 (by decide) (by decide) rfl (by decide) ?_
  refine g_aload_n dX5_count_78 rfl ?_
  refine g_callV [] dX5_count_79 mc_X5_175 mi_X5_burstPipes se_X5_burstPipes (c_X5_burstPipes hlt w1 hq0 (by rw [ep1]; exact ep)) (w1.k (by first | rfl | assumption)) rfl rfl (Nat.le_of_ble_eq_true rfl) (am_rm hR (by decide)) (fun _ _ z => z) (fun v hx hq hE => ?_)
  obtain ⟨rfl, rfl⟩ := hq
  rw [hQ]
  refine g_iret dX5_count_82 rfl rfl (by decide) (by decide) ?_
  subst hG
  exact ⟨by first | rfl | (rw [← en]; rfl) | (rw [← ep]; rfl), w1⟩
set_option maxRecDepth 100000 in
set_option maxHeartbeats 4000000 in
theorem c_X5_count_0_3 {l : Launch} (hlt : l.stackTraces = false) {N n p : Nat} {ord : List Nat} {L : Nat → Nat → Nat} {Γ : Nat → Nat → Nat → Int32} {o : Int64} {h : am_H} (w : WI N n p ord L Γ o h) {b : Nat} (hb : b ≤ 8) (en : Γ 11 0 3 = nI b) {q : Nat} (hq0 : q ≤ 24) (ep : Γ 11 0 24 = nI q)  : am_Con l yX5_count (.code yX5_count cX5_count 2 (some .int)) 20 0 0 [.ref (L 11 0), .int (nI 3)] h (fun v h' => v = some (.int (sp_sum (fun j => if Γ 13 10 j = 0 then 0 else 1) b)) ∧ WI N n p ord L (u3 Γ 11 0 34 0) o h') (fun _ _ => False) := by
  refine am_body hlt (by decide +kernel) (Nat.le_of_ble_eq_true rfl) (fun k hl hR h0 hno => ?_)
  subst hl
  obtain ⟨Qf, hQ⟩ : ∃ Qf, Qf = am_Q k 0 0 (fun v h' => v = some (.int (sp_sum (fun j => if Γ 13 10 j = 0 then 0 else 1) b)) ∧ WI N n p ord L (u3 Γ 11 0 34 0) o h') (fun _ _ => False) := ⟨_, rfl⟩
  rw [← hQ]
  have hm : wdm n p 11 0 = true := rfl
  refine g_aload_n dX5_count_0 rfl ?_
  refine g_iload_n dX5_count_1 rfl ?_
  refine g_iconst (v := 0) dX5_count_2 (by decide) ?_
  refine g_bipush (v := 7) dX5_count_3 (by decide) ?_
  refine g_callS [_, _, _] dX5_count_5 mc_X5_96 ms_X5_isIn (c_X5_isIn_1 hlt (by decide) (by decide)) rfl (Nat.le_of_ble_eq_true rfl) (am_rm hR (by decide)) (fun _ _ z => z) (fun v hx hq hE => ?_)
  obtain ⟨rfl, rfl⟩ := hq
  refine g_if_eq 15 dX5_count_8 (by decide) (fun z => absurd z (by decide)) (fun _ => ?_)
  refine g_iconst (v := 0) dX5_count_11 (by decide) ?_
  refine g_goto 16 dX5_count_12 (by decide) ?_
  refine g_callV [_] dX5_count_16 mc_X5_103 mi_X5_can se_X5_can (c_X5_can_0 hlt w) (w.k (by first | rfl | assumption)) rfl rfl (Nat.le_of_ble_eq_true rfl) (am_rm hR (by decide)) (fun _ _ z => z) (fun v hx hq hE => ?_)
  obtain ⟨rfl, w1⟩ := hq
  obtain ⟨Γ1, hG⟩ : ∃ G, G = u3 Γ 11 0 34 0 := ⟨_, rfl⟩
  rw [← hG] at w1
  have en1 : Γ1 11 0 3 = Γ 11 0 3 := by rw [hG]; rfl
  have ep1 : Γ1 11 0 24 = Γ 11 0 24 := by rw [hG]; rfl
  refine g_if_ne 24 dX5_count_19 (by decide) (fun _ => ?_) (fun z => absurd z (by decide))
  refine g_iload_n dX5_count_24 rfl ?_
  refine g_tableIn 83 dX5_count_25 (by decide) (by decide) rfl (by decide) ?_
  refine g_aload_n dX5_count_83 rfl ?_
  refine g_callV [] dX5_count_84 mc_X5_144 mi_X5_standing se_X5_standing (c_X5_standing hlt w1 hb (by rw [en1]; exact en)) (w1.k (by first | rfl | assumption)) rfl rfl (Nat.le_of_ble_eq_true rfl) (am_rm hR (by decide)) (fun _ _ z => z) (fun v hx hq hE => ?_)
  obtain ⟨rfl, rfl⟩ := hq
  rw [hQ]
  refine g_iret dX5_count_87 rfl rfl (by decide) (by decide) ?_
  subst hG
  exact ⟨by first | rfl | (rw [← en]; rfl) | (rw [← ep]; rfl), w1⟩
set_option maxRecDepth 100000 in
set_option maxHeartbeats 4000000 in
theorem c_X5_count_0_4 {l : Launch} (hlt : l.stackTraces = false) {N n p : Nat} {ord : List Nat} {L : Nat → Nat → Nat} {Γ : Nat → Nat → Nat → Int32} {o : Int64} {h : am_H} (w : WI N n p ord L Γ o h) {b : Nat} (hb : b ≤ 8) (en : Γ 11 0 3 = nI b) {q : Nat} (hq0 : q ≤ 24) (ep : Γ 11 0 24 = nI q)  : am_Con l yX5_count (.code yX5_count cX5_count 2 (some .int)) 20 0 0 [.ref (L 11 0), .int (nI 4)] h (fun v h' => v = some (.int (sp_sum (fun j => Γ 12 17 j) b)) ∧ WI N n p ord L (u3 Γ 11 0 34 0) o h') (fun _ _ => False) := by
  refine am_body hlt (by decide +kernel) (Nat.le_of_ble_eq_true rfl) (fun k hl hR h0 hno => ?_)
  subst hl
  obtain ⟨Qf, hQ⟩ : ∃ Qf, Qf = am_Q k 0 0 (fun v h' => v = some (.int (sp_sum (fun j => Γ 12 17 j) b)) ∧ WI N n p ord L (u3 Γ 11 0 34 0) o h') (fun _ _ => False) := ⟨_, rfl⟩
  rw [← hQ]
  have hm : wdm n p 11 0 = true := rfl
  refine g_aload_n dX5_count_0 rfl ?_
  refine g_iload_n dX5_count_1 rfl ?_
  refine g_iconst (v := 0) dX5_count_2 (by decide) ?_
  refine g_bipush (v := 7) dX5_count_3 (by decide) ?_
  refine g_callS [_, _, _] dX5_count_5 mc_X5_96 ms_X5_isIn (c_X5_isIn_1 hlt (by decide) (by decide)) rfl (Nat.le_of_ble_eq_true rfl) (am_rm hR (by decide)) (fun _ _ z => z) (fun v hx hq hE => ?_)
  obtain ⟨rfl, rfl⟩ := hq
  refine g_if_eq 15 dX5_count_8 (by decide) (fun z => absurd z (by decide)) (fun _ => ?_)
  refine g_iconst (v := 0) dX5_count_11 (by decide) ?_
  refine g_goto 16 dX5_count_12 (by decide) ?_
  refine g_callV [_] dX5_count_16 mc_X5_103 mi_X5_can se_X5_can (c_X5_can_0 hlt w) (w.k (by first | rfl | assumption)) rfl rfl (Nat.le_of_ble_eq_true rfl) (am_rm hR (by decide)) (fun _ _ z => z) (fun v hx hq hE => ?_)
  obtain ⟨rfl, w1⟩ := hq
  obtain ⟨Γ1, hG⟩ : ∃ G, G = u3 Γ 11 0 34 0 := ⟨_, rfl⟩
  rw [← hG] at w1
  have en1 : Γ1 11 0 3 = Γ 11 0 3 := by rw [hG]; rfl
  have ep1 : Γ1 11 0 24 = Γ 11 0 24 := by rw [hG]; rfl
  refine g_if_ne 24 dX5_count_19 (by decide) (fun _ => ?_) (fun z => absurd z (by decide))
  refine g_iload_n dX5_count_24 rfl ?_
  refine g_tableIn 88 dX5_count_25 (by decide) (by decide) rfl (by decide) ?_
  refine g_aload_n dX5_count_88 rfl ?_
  refine g_aload_n dX5_count_89 rfl ?_
  refine w_getR w1 dX5_count_90 fl_X5_47 rfl rfl (by first | rfl | assumption) rfl ?_
  refine g_callV [_] dX5_count_93 mc_X5_178 mi_X5_sum se_X5_sum (c_X5_sum17 hlt w1 hb (by rw [en1]; exact en)) (w1.k (by first | rfl | assumption)) rfl rfl (Nat.le_of_ble_eq_true rfl) (am_rm hR (by decide)) (fun _ _ z => z) (fun v hx hq hE => ?_)
  obtain ⟨rfl, rfl⟩ := hq
  rw [hQ]
  refine g_iret dX5_count_96 rfl rfl (by decide) (by decide) ?_
  subst hG
  exact ⟨by first | rfl | (rw [← en]; rfl) | (rw [← ep]; rfl), w1⟩
set_option maxRecDepth 100000 in
set_option maxHeartbeats 4000000 in
theorem c_X5_count_0_5 {l : Launch} (hlt : l.stackTraces = false) {N n p : Nat} {ord : List Nat} {L : Nat → Nat → Nat} {Γ : Nat → Nat → Nat → Int32} {o : Int64} {h : am_H} (w : WI N n p ord L Γ o h) {b : Nat} (hb : b ≤ 8) (en : Γ 11 0 3 = nI b) {q : Nat} (hq0 : q ≤ 24) (ep : Γ 11 0 24 = nI q)  : am_Con l yX5_count (.code yX5_count cX5_count 2 (some .int)) 20 0 0 [.ref (L 11 0), .int (nI 5)] h (fun v h' => v = some (.int (sp_sum (fun j => Γ 12 6 j) b)) ∧ WI N n p ord L (u3 Γ 11 0 34 0) o h') (fun _ _ => False) := by
  refine am_body hlt (by decide +kernel) (Nat.le_of_ble_eq_true rfl) (fun k hl hR h0 hno => ?_)
  subst hl
  obtain ⟨Qf, hQ⟩ : ∃ Qf, Qf = am_Q k 0 0 (fun v h' => v = some (.int (sp_sum (fun j => Γ 12 6 j) b)) ∧ WI N n p ord L (u3 Γ 11 0 34 0) o h') (fun _ _ => False) := ⟨_, rfl⟩
  rw [← hQ]
  have hm : wdm n p 11 0 = true := rfl
  refine g_aload_n dX5_count_0 rfl ?_
  refine g_iload_n dX5_count_1 rfl ?_
  refine g_iconst (v := 0) dX5_count_2 (by decide) ?_
  refine g_bipush (v := 7) dX5_count_3 (by decide) ?_
  refine g_callS [_, _, _] dX5_count_5 mc_X5_96 ms_X5_isIn (c_X5_isIn_1 hlt (by decide) (by decide)) rfl (Nat.le_of_ble_eq_true rfl) (am_rm hR (by decide)) (fun _ _ z => z) (fun v hx hq hE => ?_)
  obtain ⟨rfl, rfl⟩ := hq
  refine g_if_eq 15 dX5_count_8 (by decide) (fun z => absurd z (by decide)) (fun _ => ?_)
  refine g_iconst (v := 0) dX5_count_11 (by decide) ?_
  refine g_goto 16 dX5_count_12 (by decide) ?_
  refine g_callV [_] dX5_count_16 mc_X5_103 mi_X5_can se_X5_can (c_X5_can_0 hlt w) (w.k (by first | rfl | assumption)) rfl rfl (Nat.le_of_ble_eq_true rfl) (am_rm hR (by decide)) (fun _ _ z => z) (fun v hx hq hE => ?_)
  obtain ⟨rfl, w1⟩ := hq
  obtain ⟨Γ1, hG⟩ : ∃ G, G = u3 Γ 11 0 34 0 := ⟨_, rfl⟩
  rw [← hG] at w1
  have en1 : Γ1 11 0 3 = Γ 11 0 3 := by rw [hG]; rfl
  have ep1 : Γ1 11 0 24 = Γ 11 0 24 := by rw [hG]; rfl
  refine g_if_ne 24 dX5_count_19 (by decide) (fun _ => ?_) (fun z => absurd z (by decide))
  refine g_iload_n dX5_count_24 rfl ?_
  refine g_tableIn 97 dX5_count_25 (by decide) (by decide) rfl (by decide) ?_
  refine g_aload_n dX5_count_97 rfl ?_
  refine g_aload_n dX5_count_98 rfl ?_
  refine w_getR w1 dX5_count_99 fl_X5_16 rfl rfl (by first | rfl | assumption) rfl ?_
  refine g_callV [_] dX5_count_102 mc_X5_178 mi_X5_sum se_X5_sum (c_X5_sum6 hlt w1 hb (by rw [en1]; exact en)) (w1.k (by first | rfl | assumption)) rfl rfl (Nat.le_of_ble_eq_true rfl) (am_rm hR (by decide)) (fun _ _ z => z) (fun v hx hq hE => ?_)
  obtain ⟨rfl, rfl⟩ := hq
  rw [hQ]
  refine g_iret dX5_count_105 rfl rfl (by decide) (by decide) ?_
  subst hG
  exact ⟨by first | rfl | (rw [← en]; rfl) | (rw [← ep]; rfl), w1⟩
set_option maxRecDepth 100000 in
set_option maxHeartbeats 4000000 in
theorem c_X5_count_0_6 {l : Launch} (hlt : l.stackTraces = false) {N n p : Nat} {ord : List Nat} {L : Nat → Nat → Nat} {Γ : Nat → Nat → Nat → Int32} {o : Int64} {h : am_H} (w : WI N n p ord L Γ o h) {b : Nat} (hb : b ≤ 8) (en : Γ 11 0 3 = nI b) {q : Nat} (hq0 : q ≤ 24) (ep : Γ 11 0 24 = nI q)  : am_Con l yX5_count (.code yX5_count cX5_count 2 (some .int)) 20 0 0 [.ref (L 11 0), .int (nI 6)] h (fun v h' => v = some (.int (sp_sum (fun j => Γ 12 18 j) b - sp_sum (fun j => Γ 12 19 j) b)) ∧ WI N n p ord L (u3 Γ 11 0 34 0) o h') (fun _ _ => False) := by
  refine am_body hlt (by decide +kernel) (Nat.le_of_ble_eq_true rfl) (fun k hl hR h0 hno => ?_)
  subst hl
  obtain ⟨Qf, hQ⟩ : ∃ Qf, Qf = am_Q k 0 0 (fun v h' => v = some (.int (sp_sum (fun j => Γ 12 18 j) b - sp_sum (fun j => Γ 12 19 j) b)) ∧ WI N n p ord L (u3 Γ 11 0 34 0) o h') (fun _ _ => False) := ⟨_, rfl⟩
  rw [← hQ]
  have hm : wdm n p 11 0 = true := rfl
  refine g_aload_n dX5_count_0 rfl ?_
  refine g_iload_n dX5_count_1 rfl ?_
  refine g_iconst (v := 0) dX5_count_2 (by decide) ?_
  refine g_bipush (v := 7) dX5_count_3 (by decide) ?_
  refine g_callS [_, _, _] dX5_count_5 mc_X5_96 ms_X5_isIn (c_X5_isIn_1 hlt (by decide) (by decide)) rfl (Nat.le_of_ble_eq_true rfl) (am_rm hR (by decide)) (fun _ _ z => z) (fun v hx hq hE => ?_)
  obtain ⟨rfl, rfl⟩ := hq
  refine g_if_eq 15 dX5_count_8 (by decide) (fun z => absurd z (by decide)) (fun _ => ?_)
  refine g_iconst (v := 0) dX5_count_11 (by decide) ?_
  refine g_goto 16 dX5_count_12 (by decide) ?_
  refine g_callV [_] dX5_count_16 mc_X5_103 mi_X5_can se_X5_can (c_X5_can_0 hlt w) (w.k (by first | rfl | assumption)) rfl rfl (Nat.le_of_ble_eq_true rfl) (am_rm hR (by decide)) (fun _ _ z => z) (fun v hx hq hE => ?_)
  obtain ⟨rfl, w1⟩ := hq
  obtain ⟨Γ1, hG⟩ : ∃ G, G = u3 Γ 11 0 34 0 := ⟨_, rfl⟩
  rw [← hG] at w1
  have en1 : Γ1 11 0 3 = Γ 11 0 3 := by rw [hG]; rfl
  have ep1 : Γ1 11 0 24 = Γ 11 0 24 := by rw [hG]; rfl
  refine g_if_ne 24 dX5_count_19 (by decide) (fun _ => ?_) (fun z => absurd z (by decide))
  refine g_iload_n dX5_count_24 rfl ?_
  refine g_tableIn 106 dX5_count_25 (by decide) (by decide) rfl (by decide) ?_
  refine g_aload_n dX5_count_106 rfl ?_
  refine g_aload_n dX5_count_107 rfl ?_
  refine w_getR w1 dX5_count_108 fl_X5_50 rfl rfl (by first | rfl | assumption) rfl ?_
  refine g_callV [_] dX5_count_111 mc_X5_178 mi_X5_sum se_X5_sum (c_X5_sum18 hlt w1 hb (by rw [en1]; exact en)) (w1.k (by first | rfl | assumption)) rfl rfl (Nat.le_of_ble_eq_true rfl) (am_rm hR (by decide)) (fun _ _ z => z) (fun v hx hq hE => ?_)
  obtain ⟨rfl, rfl⟩ := hq
  refine g_aload_n dX5_count_114 rfl ?_
  refine g_aload_n dX5_count_115 rfl ?_
  refine w_getR w1 dX5_count_116 fl_X5_53 rfl rfl (by first | rfl | assumption) rfl ?_
  refine g_callV [_] dX5_count_119 mc_X5_178 mi_X5_sum se_X5_sum (c_X5_sum19 hlt w1 hb (by rw [en1]; exact en)) (w1.k (by first | rfl | assumption)) rfl rfl (Nat.le_of_ble_eq_true rfl) (am_rm hR (by decide)) (fun _ _ z => z) (fun v hx hq hE => ?_)
  obtain ⟨rfl, rfl⟩ := hq
  refine g_isub dX5_count_122 ?_
  rw [hQ]
  refine g_iret dX5_count_123 rfl rfl (by decide) (by decide) ?_
  subst hG
  exact ⟨by first | rfl | (rw [← en]; rfl) | (rw [← ep]; rfl), w1⟩
set_option maxRecDepth 100000 in
set_option maxHeartbeats 4000000 in
theorem c_X5_count_0_7 {l : Launch} (hlt : l.stackTraces = false) {N n p : Nat} {ord : List Nat} {L : Nat → Nat → Nat} {Γ : Nat → Nat → Nat → Int32} {o : Int64} {h : am_H} (w : WI N n p ord L Γ o h) {b : Nat} (hb : b ≤ 8) (en : Γ 11 0 3 = nI b) {q : Nat} (hq0 : q ≤ 24) (ep : Γ 11 0 24 = nI q)  : am_Con l yX5_count (.code yX5_count cX5_count 2 (some .int)) 20 0 0 [.ref (L 11 0), .int (nI 7)] h (fun v h' => v = some (.int (Γ 11 0 23)) ∧ WI N n p ord L (u3 Γ 11 0 34 0) o h') (fun _ _ => False) := by
  refine am_body hlt (by decide +kernel) (Nat.le_of_ble_eq_true rfl) (fun k hl hR h0 hno => ?_)
  subst hl
  obtain ⟨Qf, hQ⟩ : ∃ Qf, Qf = am_Q k 0 0 (fun v h' => v = some (.int (Γ 11 0 23)) ∧ WI N n p ord L (u3 Γ 11 0 34 0) o h') (fun _ _ => False) := ⟨_, rfl⟩
  rw [← hQ]
  have hm : wdm n p 11 0 = true := rfl
  refine g_aload_n dX5_count_0 rfl ?_
  refine g_iload_n dX5_count_1 rfl ?_
  refine g_iconst (v := 0) dX5_count_2 (by decide) ?_
  refine g_bipush (v := 7) dX5_count_3 (by decide) ?_
  refine g_callS [_, _, _] dX5_count_5 mc_X5_96 ms_X5_isIn (c_X5_isIn_1 hlt (by decide) (by decide)) rfl (Nat.le_of_ble_eq_true rfl) (am_rm hR (by decide)) (fun _ _ z => z) (fun v hx hq hE => ?_)
  obtain ⟨rfl, rfl⟩ := hq
  refine g_if_eq 15 dX5_count_8 (by decide) (fun z => absurd z (by decide)) (fun _ => ?_)
  refine g_iconst (v := 0) dX5_count_11 (by decide) ?_
  refine g_goto 16 dX5_count_12 (by decide) ?_
  refine g_callV [_] dX5_count_16 mc_X5_103 mi_X5_can se_X5_can (c_X5_can_0 hlt w) (w.k (by first | rfl | assumption)) rfl rfl (Nat.le_of_ble_eq_true rfl) (am_rm hR (by decide)) (fun _ _ z => z) (fun v hx hq hE => ?_)
  obtain ⟨rfl, w1⟩ := hq
  obtain ⟨Γ1, hG⟩ : ∃ G, G = u3 Γ 11 0 34 0 := ⟨_, rfl⟩
  rw [← hG] at w1
  have en1 : Γ1 11 0 3 = Γ 11 0 3 := by rw [hG]; rfl
  have ep1 : Γ1 11 0 24 = Γ 11 0 24 := by rw [hG]; rfl
  refine g_if_ne 24 dX5_count_19 (by decide) (fun _ => ?_) (fun z => absurd z (by decide))
  refine g_iload_n dX5_count_24 rfl ?_
  refine g_tableOut 124 dX5_count_25 (by decide) (by decide) ?_
  refine g_aload_n dX5_count_124 rfl ?_
  refine w_getI w1 dX5_count_125 fl_X5_172 rfl rfl (by first | rfl | assumption) ?_
  rw [hQ]
  refine g_iret dX5_count_128 rfl rfl (by decide) (by decide) ?_
  subst hG
  exact ⟨by first | rfl | (rw [← en]; rfl) | (rw [← ep]; rfl), w1⟩
