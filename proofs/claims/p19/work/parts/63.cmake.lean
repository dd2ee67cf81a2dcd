set_option maxRecDepth 100000 in
set_option maxHeartbeats 4000000 in
theorem c_X4_district_1a {l : Launch} (hlt : l.stackTraces = false) {N n p : Nat} {ord : List Nat} {L : Nat → Nat → Nat} {Γ : Nat → Nat → Nat → Int32} {o : Nat} {h : am_H} (w : WI N n p ord L Γ o h) {a c : Int32} (ab : a < 0 ∨ ¬ a ≤ 9999) : am_Con l yX4_district (.code yX4_district cX4_district 4 (some .int)) 20 1 6 [.ref (L 5 0), .int a, .int c] h (fun v h' => False) (fun E h' => E = "java/lang/IllegalArgumentException" ∧ h' = h) := by
  refine am_body hlt (by decide +kernel) (Nat.le_of_ble_eq_true rfl) (fun k hl hR h0 hno => ?_)
  subst hl
  obtain ⟨Qf, hQ⟩ : ∃ Qf, Qf = am_Q k 1 6 (fun v h' => False) (fun E h' => E = "java/lang/IllegalArgumentException" ∧ h' = h) := ⟨_, rfl⟩
  rw [← hQ]
  have hm0 : wdm n p o 3 0 = true := rfl
  have hx0 : wdm n p o 5 0 = true := rfl
  have hn8 : n ≤ 8 := w.1.1
  have hp24 : p ≤ 24 := w.1.2.1
  have ho8 : ord.length ≤ 8 := w.1.2.2.2.2
  refine g_iload_n dX4_district_0 rfl ?_
  refine g_iconst (v := 0) dX4_district_1 (by decide) ?_
  refine g_sipush (v := 9999) dX4_district_2 (by decide) ?_
  refine g_callS [_, _, _] dX4_district_5 mc_X4_46 ms_X4_isOutside (c_isOutside_1 hlt ab) rfl (Nat.le_of_ble_eq_true rfl) (am_rm hR (by decide)) (fun _ _ z => z) (fun v hx hq hE => ?_)
  obtain ⟨rfl, rfl⟩ := hq
  refine g_if_ne 22 dX4_district_8 (by decide) (fun _ => ?_) (fun z => absurd z (by decide))
  rw [hQ]
  refine g_throw (text := "tank or need is out of range") dX4_district_22 dX4_district_25 dX4_district_26 dX4_district_28 dX4_district_31 tw_50 (by simp [am_strs]) hno (by rw [hR]; decide) (by rw [hR]; exact Nat.le_of_ble_eq_true rfl) (by rw [hR]; decide) (by rw [hR]; decide) (by decide) (by decide) ?_
  exact ⟨rfl, rfl⟩
set_option maxRecDepth 100000 in
set_option maxHeartbeats 4000000 in
theorem c_X4_district_1b {l : Launch} (hlt : l.stackTraces = false) {N n p : Nat} {ord : List Nat} {L : Nat → Nat → Nat} {Γ : Nat → Nat → Nat → Int32} {o : Nat} {h : am_H} (w : WI N n p ord L Γ o h) {a c : Int32} (a1 : ¬ a < 0) (a2 : a ≤ 9999) (cb : c < 0 ∨ ¬ c ≤ 999) : am_Con l yX4_district (.code yX4_district cX4_district 4 (some .int)) 20 1 6 [.ref (L 5 0), .int a, .int c] h (fun v h' => False) (fun E h' => E = "java/lang/IllegalArgumentException" ∧ h' = h) := by
  refine am_body hlt (by decide +kernel) (Nat.le_of_ble_eq_true rfl) (fun k hl hR h0 hno => ?_)
  subst hl
  obtain ⟨Qf, hQ⟩ : ∃ Qf, Qf = am_Q k 1 6 (fun v h' => False) (fun E h' => E = "java/lang/IllegalArgumentException" ∧ h' = h) := ⟨_, rfl⟩
  rw [← hQ]
  have hm0 : wdm n p o 3 0 = true := rfl
  have hx0 : wdm n p o 5 0 = true := rfl
  have hn8 : n ≤ 8 := w.1.1
  have hp24 : p ≤ 24 := w.1.2.1
  have ho8 : ord.length ≤ 8 := w.1.2.2.2.2
  refine g_iload_n dX4_district_0 rfl ?_
  refine g_iconst (v := 0) dX4_district_1 (by decide) ?_
  refine g_sipush (v := 9999) dX4_district_2 (by decide) ?_
  refine g_callS [_, _, _] dX4_district_5 mc_X4_46 ms_X4_isOutside (c_isOutside_0 hlt a1 a2) rfl (Nat.le_of_ble_eq_true rfl) (am_rm hR (by decide)) (fun _ _ z => z) (fun v hx hq hE => ?_)
  obtain ⟨rfl, rfl⟩ := hq
  refine g_if_ne 22 dX4_district_8 (by decide) (fun z => absurd z (by decide)) (fun _ => ?_)
  refine g_iload_n dX4_district_11 rfl ?_
  refine g_iconst (v := 0) dX4_district_12 (by decide) ?_
  refine g_sipush (v := 999) dX4_district_13 (by decide) ?_
  refine g_callS [_, _, _] dX4_district_16 mc_X4_46 ms_X4_isOutside (c_isOutside_1 hlt cb) rfl (Nat.le_of_ble_eq_true rfl) (am_rm hR (by decide)) (fun _ _ z => z) (fun v hx hq hE => ?_)
  obtain ⟨rfl, rfl⟩ := hq
  refine g_if_eq 32 dX4_district_19 (by decide) (fun z => absurd z (by decide)) (fun _ => ?_)
  rw [hQ]
  refine g_throw (text := "tank or need is out of range") dX4_district_22 dX4_district_25 dX4_district_26 dX4_district_28 dX4_district_31 tw_50 (by simp [am_strs]) hno (by rw [hR]; decide) (by rw [hR]; exact Nat.le_of_ble_eq_true rfl) (by rw [hR]; decide) (by rw [hR]; decide) (by decide) (by decide) ?_
  exact ⟨rfl, rfl⟩
set_option maxRecDepth 100000 in
set_option maxHeartbeats 4000000 in
theorem c_X4_district_2 {l : Launch} (hlt : l.stackTraces = false) {N n p : Nat} {ord : List Nat} {L : Nat → Nat → Nat} {Γ : Nat → Nat → Nat → Int32} {o : Nat} {h : am_H} (w : WI N n p ord L Γ o h) {a c : Int32} (a1 : ¬ a < 0) (a2 : a ≤ 9999) (c1 : ¬ c < 0) (c2 : c ≤ 999) (hn : ¬ n < 8) : am_Con l yX4_district (.code yX4_district cX4_district 4 (some .int)) 20 1 6 [.ref (L 5 0), .int a, .int c] h (fun v h' => False) (fun E h' => E = "java/lang/IllegalStateException" ∧ h' = h) := by
  refine am_body hlt (by decide +kernel) (Nat.le_of_ble_eq_true rfl) (fun k hl hR h0 hno => ?_)
  subst hl
  obtain ⟨Qf, hQ⟩ : ∃ Qf, Qf = am_Q k 1 6 (fun v h' => False) (fun E h' => E = "java/lang/IllegalStateException" ∧ h' = h) := ⟨_, rfl⟩
  rw [← hQ]
  have hm0 : wdm n p o 3 0 = true := rfl
  have hx0 : wdm n p o 5 0 = true := rfl
  have hn8 : n ≤ 8 := w.1.1
  have hp24 : p ≤ 24 := w.1.2.1
  have ho8 : ord.length ≤ 8 := w.1.2.2.2.2
  refine g_iload_n dX4_district_0 rfl ?_
  refine g_iconst (v := 0) dX4_district_1 (by decide) ?_
  refine g_sipush (v := 9999) dX4_district_2 (by decide) ?_
  refine g_callS [_, _, _] dX4_district_5 mc_X4_46 ms_X4_isOutside (c_isOutside_0 hlt a1 a2) rfl (Nat.le_of_ble_eq_true rfl) (am_rm hR (by decide)) (fun _ _ z => z) (fun v hx hq hE => ?_)
  obtain ⟨rfl, rfl⟩ := hq
  refine g_if_ne 22 dX4_district_8 (by decide) (fun z => absurd z (by decide)) (fun _ => ?_)
  refine g_iload_n dX4_district_11 rfl ?_
  refine g_iconst (v := 0) dX4_district_12 (by decide) ?_
  refine g_sipush (v := 999) dX4_district_13 (by decide) ?_
  refine g_callS [_, _, _] dX4_district_16 mc_X4_46 ms_X4_isOutside (c_isOutside_0 hlt c1 c2) rfl (Nat.le_of_ble_eq_true rfl) (am_rm hR (by decide)) (fun _ _ z => z) (fun v hx hq hE => ?_)
  obtain ⟨rfl, rfl⟩ := hq
  refine g_if_eq 32 dX4_district_19 (by decide) (fun _ => ?_) (fun z => absurd z (by decide))
  refine g_aload_n dX4_district_32 rfl ?_
  refine w_getR w dX4_district_33 fl_X4_12 rfl rfl (by first | rfl | assumption) rfl ?_
  refine g_callV [] dX4_district_36 mc_X4_57 mi_Jx4a65c_size_8abf5 se_Jx4a65c_size_8abf5 (c_size0 hlt w) (w.k (by first | rfl | assumption)) rfl rfl (Nat.le_of_ble_eq_true rfl) (am_rm hR (by decide)) (fun _ _ z => z) (fun v hx hq hE => ?_)
  obtain ⟨rfl, rfl⟩ := hq
  refine g_bipush (v := nI 8) dX4_district_39 (by decide) ?_
  refine gN_lt 54 dX4_district_41 (by decide) (by omega) (by omega) (fun z => absurd z hn) (fun c_41 => ?_)
  rw [hQ]
  refine g_throw (text := "there are 8 districts") dX4_district_44 dX4_district_47 dX4_district_48 dX4_district_50 dX4_district_53 tw_61 (by simp [am_strs]) hno (by rw [hR]; decide) (by rw [hR]; exact Nat.le_of_ble_eq_true rfl) (by rw [hR]; decide) (by rw [hR]; decide) (by decide) (by decide) ?_
  exact ⟨rfl, rfl⟩
set_option maxRecDepth 100000 in
set_option maxHeartbeats 4000000 in
theorem c_X4_district_0 {l : Launch} (hlt : l.stackTraces = false) {N n p : Nat} {ord : List Nat} {L : Nat → Nat → Nat} {Γ : Nat → Nat → Nat → Int32} {o : Nat} {h : am_H} (w : WI N n p ord L Γ o h) {a c : Int32} (a1 : ¬ a < 0) (a2 : a ≤ 9999) (c1 : ¬ c < 0) (c2 : c ≤ 999) (hn : n < 8) : am_Con l yX4_district (.code yX4_district cX4_district 4 (some .int)) 20 4 130 [.ref (L 5 0), .int a, .int c] h (fun v h' => v = some (.int (nI n)) ∧ ∃ L' : Nat → Nat → Nat, LEd n p o L L' ∧ WI N (n + 1) p ord L' (sp_cdist n a c Γ) o h') (fun _ _ => False) := by
  refine am_body hlt (by decide +kernel) (Nat.le_of_ble_eq_true rfl) (fun k hl hR h0 hno => ?_)
  subst hl
  obtain ⟨Qf, hQ⟩ : ∃ Qf, Qf = am_Q k 4 130 (fun v h' => v = some (.int (nI n)) ∧ ∃ L' : Nat → Nat → Nat, LEd n p o L L' ∧ WI N (n + 1) p ord L' (sp_cdist n a c Γ) o h') (fun _ _ => False) := ⟨_, rfl⟩
  rw [← hQ]
  have hm0 : wdm n p o 3 0 = true := rfl
  have hx0 : wdm n p o 5 0 = true := rfl
  have hn8 : n ≤ 8 := w.1.1
  have hp24 : p ≤ 24 := w.1.2.1
  have ho8 : ord.length ≤ 8 := w.1.2.2.2.2
  refine g_iload_n dX4_district_0 rfl ?_
  refine g_iconst (v := 0) dX4_district_1 (by decide) ?_
  refine g_sipush (v := 9999) dX4_district_2 (by decide) ?_
  refine g_callS [_, _, _] dX4_district_5 mc_X4_46 ms_X4_isOutside (c_isOutside_0 hlt a1 a2) rfl (Nat.le_of_ble_eq_true rfl) (am_rm hR (by decide)) (fun _ _ z => z) (fun v hx9 hq hE => ?_)
  obtain ⟨rfl, rfl⟩ := hq
  refine g_if_ne 22 dX4_district_8 (by decide) (fun z => absurd z (by decide)) (fun _ => ?_)
  refine g_iload_n dX4_district_11 rfl ?_
  refine g_iconst (v := 0) dX4_district_12 (by decide) ?_
  refine g_sipush (v := 999) dX4_district_13 (by decide) ?_
  refine g_callS [_, _, _] dX4_district_16 mc_X4_46 ms_X4_isOutside (c_isOutside_0 hlt c1 c2) rfl (Nat.le_of_ble_eq_true rfl) (am_rm hR (by decide)) (fun _ _ z => z) (fun v hx9 hq hE => ?_)
  obtain ⟨rfl, rfl⟩ := hq
  refine g_if_eq 32 dX4_district_19 (by decide) (fun _ => ?_) (fun z => absurd z (by decide))
  refine g_aload_n dX4_district_32 rfl ?_
  refine w_getR w dX4_district_33 fl_X4_12 rfl rfl (by first | rfl | assumption) rfl ?_
  refine g_callV [] dX4_district_36 mc_X4_57 mi_Jx4a65c_size_8abf5 se_Jx4a65c_size_8abf5 (c_size0 hlt w) (w.k (by first | rfl | assumption)) rfl rfl (Nat.le_of_ble_eq_true rfl) (am_rm hR (by decide)) (fun _ _ z => z) (fun v hx9 hq hE => ?_)
  obtain ⟨rfl, rfl⟩ := hq
  refine g_bipush (v := nI 8) dX4_district_39 (by decide) ?_
  refine gN_lt 54 dX4_district_41 (by decide) (by omega) (by omega) (fun c_41 => ?_) (fun z => absurd hn (by omega))
  refine g_aload_n dX4_district_54 rfl ?_
  refine w_getR w dX4_district_55 fl_X4_12 rfl rfl (by first | rfl | assumption) rfl ?_
  refine g_callV [] dX4_district_58 mc_X4_57 mi_Jx4a65c_size_8abf5 se_Jx4a65c_size_8abf5 (c_size0 hlt w) (w.k (by first | rfl | assumption)) rfl rfl (Nat.le_of_ble_eq_true rfl) (am_rm hR (by decide)) (fun _ _ z => z) (fun v hx9 hq hE => ?_)
  obtain ⟨rfl, rfl⟩ := hq
  refine g_istore_n dX4_district_61 (by decide) rfl ?_
  refine g_aload_n dX4_district_62 rfl ?_
  refine w_getR w dX4_district_63 fl_X4_12 rfl rfl (by first | rfl | assumption) rfl ?_
  refine g_new dX4_district_66 cl_X1 kl_X4_66 (by rw [hR]; exact Nat.le_of_ble_eq_true rfl) (by rw [hR]; exact Nat.le_of_ble_eq_true rfl) (fun d1 hd9 => ?_)
  have hd0 : am_K hx9 d1 = 0 := am_new0 hd9
  refine g_dup dX4_district_69 rfl ?_
  refine g_iload_n dX4_district_70 rfl ?_
  refine g_iload_n dX4_district_71 rfl ?_
  refine g_iload_n dX4_district_72 rfl ?_
  refine g_callI [_, _, _] dX4_district_73 mc_X4_68 mi_X1_init rfl (c_X1_init hlt (by rw [am_K_nw, if_pos rfl])) rfl (Nat.le_of_ble_eq_true rfl) (am_rm hR (by decide)) (fun _ _ z => z) (fun v hx9 hq hE => ?_)
  obtain ⟨rfl, s1, b1, hs0, hb0, hsa, hba, hsb, rfl⟩ := hq
  have hold : ∀ q, am_K hx9 q ≠ 0 → am_same hx9 (hD (am_nw hx9 d1 2 0) d1 s1 b1 (nI n + 1) a c) q := fun q hq => by
    have q1 : q ≠ d1 := fun z => hq (by rw [z]; exact hd0)
    refine (am_same_nw q1).tr (hD_same q1 (fun z => hq ?_) (fun z => hq ?_))
    · rw [z]; rw [am_K_nw, if_neg hsa] at hs0; exact hs0
    · rw [z]; rw [am_K_nw, if_neg hba] at hb0; exact hb0
  have w2 := w.same hold
  have hkd : am_K (hD (am_nw hx9 d1 2 0) d1 s1 b1 (nI n + 1) a c) d1 = 2 := by rw [(hD_K hsa hba hsb).1, am_K_nw, if_pos rfl]
  refine g_callV [_] dX4_district_76 mc_X4_71 mi_Jx4a65c_add_9ea2d se_Jx4a65c_add_9ea2d (c_add9 hlt (w2.la (t := 0) (by decide)) (x := d1) (Or.inl hkd)) ((w2.k (c := 6) (i := 0) rfl)) rfl rfl (Nat.le_of_ble_eq_true rfl) (am_rm hR (by decide)) (fun _ _ z => z) (fun v hx9 hq hE => ?_)
  obtain ⟨rfl, z, g, g1, g2, hAD⟩ := hq
  obtain ⟨b', hLU⟩ := hAD.lu (w2.la (t := 0) (by decide))
  have eln : (wls n p ord 0).length = n := List.length_range
  rw [eln] at hLU g1 g2
  have w3 := w.addD hn hd0 hs0 hb0 hsa hba hsb hLU g1 g2
  refine g_pop dX4_district_79 rfl ?_
  refine g_iload_n dX4_district_80 rfl ?_
  rw [hQ]
  refine g_iret dX4_district_81 rfl rfl (by decide) (by decide) ?_
  refine ⟨rfl, lD L n b' d1 s1 b1, fun c i hi => ?_, w3⟩
  unfold lD
  have h7 : ¬ (c = 7 ∧ i = 0) := fun z => by rw [z.1] at hi; cases hi
  have hc : c ≤ 2 → i < n := wdm_old hi
  rw [if_neg h7, if_neg (fun z => by have := hc (by omega); omega), if_neg (fun z => by have := hc (by omega); omega), if_neg (fun z => by have := hc (by omega); omega)]
set_option maxRecDepth 100000 in
set_option maxHeartbeats 4000000 in
theorem c_X4_pipe_1a {l : Launch} (hlt : l.stackTraces = false) {N n p : Nat} {ord : List Nat} {L : Nat → Nat → Nat} {Γ : Nat → Nat → Nat → Int32} {o : Nat} {h : am_H} (w : WI N n p ord L Γ o h) {f t lim : Int32} (hf0 : ¬ f = -1) (hfb : f < 0 ∨ nI n ≤ f) : am_Con l yX4_pipe (.code yX4_pipe cX4_pipe 5 (some .int)) 20 1 6 [.ref (L 5 0), .int f, .int t, .int lim] h (fun v h' => False) (fun E h' => E = "java/lang/IndexOutOfBoundsException" ∧ h' = h) := by
  refine am_body hlt (by decide +kernel) (Nat.le_of_ble_eq_true rfl) (fun k hl hR h0 hno => ?_)
  subst hl
  obtain ⟨Qf, hQ⟩ : ∃ Qf, Qf = am_Q k 1 6 (fun v h' => False) (fun E h' => E = "java/lang/IndexOutOfBoundsException" ∧ h' = h) := ⟨_, rfl⟩
  rw [← hQ]
  have hm0 : wdm n p o 3 0 = true := rfl
  have hx0 : wdm n p o 5 0 = true := rfl
  have hn8 : n ≤ 8 := w.1.1
  have hp24 : p ≤ 24 := w.1.2.1
  have ho8 : ord.length ≤ 8 := w.1.2.2.2.2
  refine g_iload_n dX4_pipe_0 rfl ?_
  refine g_iconst (v := (-1)) dX4_pipe_1 (by decide) ?_
  refine g_icmp_eq 13 dX4_pipe_2 (by decide) (fun z => absurd z hf0) (fun c_2 => ?_)
  refine g_aload_n dX4_pipe_5 rfl ?_
  refine g_iload_n dX4_pipe_6 rfl ?_
  refine g_callV [_] dX4_pipe_7 mc_X4_75 mi_X4_isNoDistrict se_X4_isNoDistrict (c_isNoDistrict_1 hlt w hfb) (w.k (by first | rfl | assumption)) rfl rfl (Nat.le_of_ble_eq_true rfl) (am_rm hR (by decide)) (fun _ _ z => z) (fun v hx hq hE => ?_)
  obtain ⟨rfl, rfl⟩ := hq
  refine g_if_ne 21 dX4_pipe_10 (by decide) (fun _ => ?_) (fun z => absurd z (by decide))
  rw [hQ]
  refine g_throw (text := "no such district") dX4_pipe_21 dX4_pipe_24 dX4_pipe_25 dX4_pipe_27 dX4_pipe_30 tw_79 (by simp [am_strs]) hno (by rw [hR]; decide) (by rw [hR]; exact Nat.le_of_ble_eq_true rfl) (by rw [hR]; decide) (by rw [hR]; decide) (by decide) (by decide) ?_
  exact ⟨rfl, rfl⟩
set_option maxRecDepth 100000 in
set_option maxHeartbeats 4000000 in
theorem c_X4_pipe_1bm {l : Launch} (hlt : l.stackTraces = false) {N n p : Nat} {ord : List Nat} {L : Nat → Nat → Nat} {Γ : Nat → Nat → Nat → Int32} {o : Nat} {h : am_H} (w : WI N n p ord L Γ o h) {t lim : Int32} (htb : t < 0 ∨ nI n ≤ t) : am_Con l yX4_pipe (.code yX4_pipe cX4_pipe 5 (some .int)) 20 1 6 [.ref (L 5 0), .int (-1), .int t, .int lim] h (fun v h' => False) (fun E h' => E = "java/lang/IndexOutOfBoundsException" ∧ h' = h) := by
  refine am_body hlt (by decide +kernel) (Nat.le_of_ble_eq_true rfl) (fun k hl hR h0 hno => ?_)
  subst hl
  obtain ⟨Qf, hQ⟩ : ∃ Qf, Qf = am_Q k 1 6 (fun v h' => False) (fun E h' => E = "java/lang/IndexOutOfBoundsException" ∧ h' = h) := ⟨_, rfl⟩
  rw [← hQ]
  have hm0 : wdm n p o 3 0 = true := rfl
  have hx0 : wdm n p o 5 0 = true := rfl
  have hn8 : n ≤ 8 := w.1.1
  have hp24 : p ≤ 24 := w.1.2.1
  have ho8 : ord.length ≤ 8 := w.1.2.2.2.2
  refine g_iload_n dX4_pipe_0 rfl ?_
  refine g_iconst (v := (-1)) dX4_pipe_1 (by decide) ?_
  refine g_icmp_eq 13 dX4_pipe_2 (by decide) (fun c_2 => ?_) (fun z => absurd rfl z)
  refine g_aload_n dX4_pipe_13 rfl ?_
  refine g_iload_n dX4_pipe_14 rfl ?_
  refine g_callV [_] dX4_pipe_15 mc_X4_75 mi_X4_isNoDistrict se_X4_isNoDistrict (c_isNoDistrict_1 hlt w htb) (w.k (by first | rfl | assumption)) rfl rfl (Nat.le_of_ble_eq_true rfl) (am_rm hR (by decide)) (fun _ _ z => z) (fun v hx hq hE => ?_)
  obtain ⟨rfl, rfl⟩ := hq
  refine g_if_eq 31 dX4_pipe_18 (by decide) (fun z => absurd z (by decide)) (fun _ => ?_)
  rw [hQ]
  refine g_throw (text := "no such district") dX4_pipe_21 dX4_pipe_24 dX4_pipe_25 dX4_pipe_27 dX4_pipe_30 tw_79 (by simp [am_strs]) hno (by rw [hR]; decide) (by rw [hR]; exact Nat.le_of_ble_eq_true rfl) (by rw [hR]; decide) (by rw [hR]; decide) (by decide) (by decide) ?_
  exact ⟨rfl, rfl⟩
set_option maxRecDepth 100000 in
set_option maxHeartbeats 4000000 in
theorem c_X4_pipe_2bm {l : Launch} (hlt : l.stackTraces = false) {N n p : Nat} {ord : List Nat} {L : Nat → Nat → Nat} {Γ : Nat → Nat → Nat → Int32} {o : Nat} {h : am_H} (w : WI N n p ord L Γ o h) {j : Nat} (hj : j < n) {lim : Int32} (limb : lim < 1 ∨ ¬ lim ≤ 999) : am_Con l yX4_pipe (.code yX4_pipe cX4_pipe 5 (some .int)) 20 1 6 [.ref (L 5 0), .int (-1), .int (nI j), .int lim] h (fun v h' => False) (fun E h' => E = "java/lang/IllegalArgumentException" ∧ h' = h) := by
  refine am_body hlt (by decide +kernel) (Nat.le_of_ble_eq_true rfl) (fun k hl hR h0 hno => ?_)
  subst hl
  obtain ⟨Qf, hQ⟩ : ∃ Qf, Qf = am_Q k 1 6 (fun v h' => False) (fun E h' => E = "java/lang/IllegalArgumentException" ∧ h' = h) := ⟨_, rfl⟩
  rw [← hQ]
  have hm0 : wdm n p o 3 0 = true := rfl
  have hx0 : wdm n p o 5 0 = true := rfl
  have hn8 : n ≤ 8 := w.1.1
  have hp24 : p ≤ 24 := w.1.2.1
  have ho8 : ord.length ≤ 8 := w.1.2.2.2.2
  refine g_iload_n dX4_pipe_0 rfl ?_
  refine g_iconst (v := (-1)) dX4_pipe_1 (by decide) ?_
  refine g_icmp_eq 13 dX4_pipe_2 (by decide) (fun c_2 => ?_) (fun z => absurd rfl z)
  refine g_aload_n dX4_pipe_13 rfl ?_
  refine g_iload_n dX4_pipe_14 rfl ?_
  refine g_callV [_] dX4_pipe_15 mc_X4_75 mi_X4_isNoDistrict se_X4_isNoDistrict (c_isNoDistrict_0 hlt w hj) (w.k (by first | rfl | assumption)) rfl rfl (Nat.le_of_ble_eq_true rfl) (am_rm hR (by decide)) (fun _ _ z => z) (fun v hx hq hE => ?_)
  obtain ⟨rfl, rfl⟩ := hq
  refine g_if_eq 31 dX4_pipe_18 (by decide) (fun _ => ?_) (fun z => absurd z (by decide))
  refine g_iload_n dX4_pipe_31 rfl ?_
  refine g_iload_n dX4_pipe_32 rfl ?_
  refine g_icmp_eq 47 dX4_pipe_33 (by decide) (fun z => absurd z.symm (nI_neg1 (by omega))) (fun c_33 => ?_)
  refine g_iload_n dX4_pipe_36 rfl ?_
  refine g_iconst (v := 1) dX4_pipe_37 (by decide) ?_
  refine g_sipush (v := 999) dX4_pipe_38 (by decide) ?_
  refine g_callS [_, _, _] dX4_pipe_41 mc_X4_46 ms_X4_isOutside (c_isOutside_1 hlt limb) rfl (Nat.le_of_ble_eq_true rfl) (am_rm hR (by decide)) (fun _ _ z => z) (fun v hx hq hE => ?_)
  obtain ⟨rfl, rfl⟩ := hq
  refine g_if_eq 57 dX4_pipe_44 (by decide) (fun z => absurd z (by decide)) (fun _ => ?_)
  rw [hQ]
  refine g_throw (text := "a pipe to where it comes from, or limit is out of range") dX4_pipe_47 dX4_pipe_50 dX4_pipe_51 dX4_pipe_53 dX4_pipe_56 tw_50 (by simp [am_strs]) hno (by rw [hR]; decide) (by rw [hR]; exact Nat.le_of_ble_eq_true rfl) (by rw [hR]; decide) (by rw [hR]; decide) (by decide) (by decide) ?_
  exact ⟨rfl, rfl⟩
set_option maxRecDepth 100000 in
set_option maxHeartbeats 4000000 in
theorem c_X4_pipe_3am {l : Launch} (hlt : l.stackTraces = false) {N n p : Nat} {ord : List Nat} {L : Nat → Nat → Nat} {Γ : Nat → Nat → Nat → Int32} {o : Nat} {h : am_H} (w : WI N n p ord L Γ o h) {j : Nat} (hj : j < n) {lim : Int32} (lim1 : ¬ lim < 1) (lim2 : lim ≤ 999) (hp : ¬ p < 24) : am_Con l yX4_pipe (.code yX4_pipe cX4_pipe 5 (some .int)) 20 1 6 [.ref (L 5 0), .int (-1), .int (nI j), .int lim] h (fun v h' => False) (fun E h' => E = "java/lang/IllegalStateException" ∧ h' = h) := by
  refine am_body hlt (by decide +kernel) (Nat.le_of_ble_eq_true rfl) (fun k hl hR h0 hno => ?_)
  subst hl
  obtain ⟨Qf, hQ⟩ : ∃ Qf, Qf = am_Q k 1 6 (fun v h' => False) (fun E h' => E = "java/lang/IllegalStateException" ∧ h' = h) := ⟨_, rfl⟩
  rw [← hQ]
  have hm0 : wdm n p o 3 0 = true := rfl
  have hx0 : wdm n p o 5 0 = true := rfl
  have hn8 : n ≤ 8 := w.1.1
  have hp24 : p ≤ 24 := w.1.2.1
  have ho8 : ord.length ≤ 8 := w.1.2.2.2.2
  refine g_iload_n dX4_pipe_0 rfl ?_
  refine g_iconst (v := (-1)) dX4_pipe_1 (by decide) ?_
  refine g_icmp_eq 13 dX4_pipe_2 (by decide) (fun c_2 => ?_) (fun z => absurd rfl z)
  refine g_aload_n dX4_pipe_13 rfl ?_
  refine g_iload_n dX4_pipe_14 rfl ?_
  refine g_callV [_] dX4_pipe_15 mc_X4_75 mi_X4_isNoDistrict se_X4_isNoDistrict (c_isNoDistrict_0 hlt w hj) (w.k (by first | rfl | assumption)) rfl rfl (Nat.le_of_ble_eq_true rfl) (am_rm hR (by decide)) (fun _ _ z => z) (fun v hx hq hE => ?_)
  obtain ⟨rfl, rfl⟩ := hq
  refine g_if_eq 31 dX4_pipe_18 (by decide) (fun _ => ?_) (fun z => absurd z (by decide))
  refine g_iload_n dX4_pipe_31 rfl ?_
  refine g_iload_n dX4_pipe_32 rfl ?_
  refine g_icmp_eq 47 dX4_pipe_33 (by decide) (fun z => absurd z.symm (nI_neg1 (by omega))) (fun c_33 => ?_)
  refine g_iload_n dX4_pipe_36 rfl ?_
  refine g_iconst (v := 1) dX4_pipe_37 (by decide) ?_
  refine g_sipush (v := 999) dX4_pipe_38 (by decide) ?_
  refine g_callS [_, _, _] dX4_pipe_41 mc_X4_46 ms_X4_isOutside (c_isOutside_0 hlt lim1 lim2) rfl (Nat.le_of_ble_eq_true rfl) (am_rm hR (by decide)) (fun _ _ z => z) (fun v hx hq hE => ?_)
  obtain ⟨rfl, rfl⟩ := hq
  refine g_if_eq 57 dX4_pipe_44 (by decide) (fun _ => ?_) (fun z => absurd z (by decide))
  refine g_aload_n dX4_pipe_57 rfl ?_
  refine w_getR w dX4_pipe_58 fl_X4_19 rfl rfl (by first | rfl | assumption) rfl ?_
  refine w_getR w dX4_pipe_61 fl_X4_86 rfl rfl (by first | rfl | assumption) rfl ?_
  refine g_callV [] dX4_pipe_64 mc_X4_57 mi_Jx4a65c_size_8abf5 se_Jx4a65c_size_8abf5 (c_size2 hlt w) (w.k (by first | rfl | assumption)) rfl rfl (Nat.le_of_ble_eq_true rfl) (am_rm hR (by decide)) (fun _ _ z => z) (fun v hx hq hE => ?_)
  obtain ⟨rfl, rfl⟩ := hq
  refine g_bipush (v := nI 24) dX4_pipe_67 (by decide) ?_
  refine gN_ge 79 dX4_pipe_69 (by decide) (by omega) (by omega) (fun c_69 => ?_) (fun z => absurd (Nat.not_lt.mp hp) (by omega))
  rw [hQ]
  refine g_throw (text := "there are 24 pipes, or all is FLOWING") dX4_pipe_79 dX4_pipe_82 dX4_pipe_83 dX4_pipe_85 dX4_pipe_88 tw_61 (by simp [am_strs]) hno (by rw [hR]; decide) (by rw [hR]; exact Nat.le_of_ble_eq_true rfl) (by rw [hR]; decide) (by rw [hR]; decide) (by decide) (by decide) ?_
  exact ⟨rfl, rfl⟩
set_option maxRecDepth 100000 in
set_option maxHeartbeats 4000000 in
theorem c_X4_pipe_3bm {l : Launch} (hlt : l.stackTraces = false) {N n p : Nat} {ord : List Nat} {L : Nat → Nat → Nat} {Γ : Nat → Nat → Nat → Int32} {o : Nat} {h : am_H} (w : WI N n p ord L Γ o h) {j : Nat} (hj : j < n) {lim : Int32} (lim1 : ¬ lim < 1) (lim2 : lim ≤ 999) (hp : p < 24) (hg : ¬ Γ 5 0 5 = 0) : am_Con l yX4_pipe (.code yX4_pipe cX4_pipe 5 (some .int)) 20 1 6 [.ref (L 5 0), .int (-1), .int (nI j), .int lim] h (fun v h' => False) (fun E h' => E = "java/lang/IllegalStateException" ∧ h' = h) := by
  refine am_body hlt (by decide +kernel) (Nat.le_of_ble_eq_true rfl) (fun k hl hR h0 hno => ?_)
  subst hl
  obtain ⟨Qf, hQ⟩ : ∃ Qf, Qf = am_Q k 1 6 (fun v h' => False) (fun E h' => E = "java/lang/IllegalStateException" ∧ h' = h) := ⟨_, rfl⟩
  rw [← hQ]
  have hm0 : wdm n p o 3 0 = true := rfl
  have hx0 : wdm n p o 5 0 = true := rfl
  have hn8 : n ≤ 8 := w.1.1
  have hp24 : p ≤ 24 := w.1.2.1
  have ho8 : ord.length ≤ 8 := w.1.2.2.2.2
  refine g_iload_n dX4_pipe_0 rfl ?_
  refine g_iconst (v := (-1)) dX4_pipe_1 (by decide) ?_
  refine g_icmp_eq 13 dX4_pipe_2 (by decide) (fun c_2 => ?_) (fun z => absurd rfl z)
  refine g_aload_n dX4_pipe_13 rfl ?_
  refine g_iload_n dX4_pipe_14 rfl ?_
  refine g_callV [_] dX4_pipe_15 mc_X4_75 mi_X4_isNoDistrict se_X4_isNoDistrict (c_isNoDistrict_0 hlt w hj) (w.k (by first | rfl | assumption)) rfl rfl (Nat.le_of_ble_eq_true rfl) (am_rm hR (by decide)) (fun _ _ z => z) (fun v hx hq hE => ?_)
  obtain ⟨rfl, rfl⟩ := hq
  refine g_if_eq 31 dX4_pipe_18 (by decide) (fun _ => ?_) (fun z => absurd z (by decide))
  refine g_iload_n dX4_pipe_31 rfl ?_
  refine g_iload_n dX4_pipe_32 rfl ?_
  refine g_icmp_eq 47 dX4_pipe_33 (by decide) (fun z => absurd z.symm (nI_neg1 (by omega))) (fun c_33 => ?_)
  refine g_iload_n dX4_pipe_36 rfl ?_
  refine g_iconst (v := 1) dX4_pipe_37 (by decide) ?_
  refine g_sipush (v := 999) dX4_pipe_38 (by decide) ?_
  refine g_callS [_, _, _] dX4_pipe_41 mc_X4_46 ms_X4_isOutside (c_isOutside_0 hlt lim1 lim2) rfl (Nat.le_of_ble_eq_true rfl) (am_rm hR (by decide)) (fun _ _ z => z) (fun v hx hq hE => ?_)
  obtain ⟨rfl, rfl⟩ := hq
  refine g_if_eq 57 dX4_pipe_44 (by decide) (fun _ => ?_) (fun z => absurd z (by decide))
  refine g_aload_n dX4_pipe_57 rfl ?_
  refine w_getR w dX4_pipe_58 fl_X4_19 rfl rfl (by first | rfl | assumption) rfl ?_
  refine w_getR w dX4_pipe_61 fl_X4_86 rfl rfl (by first | rfl | assumption) rfl ?_
  refine g_callV [] dX4_pipe_64 mc_X4_57 mi_Jx4a65c_size_8abf5 se_Jx4a65c_size_8abf5 (c_size2 hlt w) (w.k (by first | rfl | assumption)) rfl rfl (Nat.le_of_ble_eq_true rfl) (am_rm hR (by decide)) (fun _ _ z => z) (fun v hx hq hE => ?_)
  obtain ⟨rfl, rfl⟩ := hq
  refine g_bipush (v := nI 24) dX4_pipe_67 (by decide) ?_
  refine gN_ge 79 dX4_pipe_69 (by decide) (by omega) (by omega) (fun z => absurd z (by omega)) (fun c_69 => ?_)
  refine g_aload_n dX4_pipe_72 rfl ?_
  refine w_getI w dX4_pipe_73 fl_X4_33 rfl rfl (by first | rfl | assumption) ?_
  refine g_if_eq 89 dX4_pipe_76 (by decide) (fun z => absurd z hg) (fun c_76 => ?_)
  rw [hQ]
  refine g_throw (text := "there are 24 pipes, or all is FLOWING") dX4_pipe_79 dX4_pipe_82 dX4_pipe_83 dX4_pipe_85 dX4_pipe_88 tw_61 (by simp [am_strs]) hno (by rw [hR]; decide) (by rw [hR]; exact Nat.le_of_ble_eq_true rfl) (by rw [hR]; decide) (by rw [hR]; decide) (by decide) (by decide) ?_
  exact ⟨rfl, rfl⟩
set_option maxRecDepth 100000 in
set_option maxHeartbeats 4000000 in
theorem c_X4_pipe_0m {l : Launch} (hlt : l.stackTraces = false) {N n p : Nat} {ord : List Nat} {L : Nat → Nat → Nat} {Γ : Nat → Nat → Nat → Int32} {o : Nat} {h : am_H} (w : WI N n p ord L Γ o h) {j : Nat} (hj : j < n) {lim : Int32} (lim1 : ¬ lim < 1) (lim2 : lim ≤ 999) (hp : p < 24) (hg : Γ 5 0 5 = 0) : am_Con l yX4_pipe (.code yX4_pipe cX4_pipe 5 (some .int)) 20 2 110 [.ref (L 5 0), .int (-1), .int (nI j), .int lim] h (fun v h' => v = some (.int (nI p)) ∧ ∃ L' : Nat → Nat → Nat, LEd n p o L L' ∧ WI N n (p + 1) ord L' (sp_cpipe p (nI 0) (nI (j + 1)) lim Γ) o h') (fun _ _ => False) := by
  refine am_body hlt (by decide +kernel) (Nat.le_of_ble_eq_true rfl) (fun k hl hR h0 hno => ?_)
  subst hl
  obtain ⟨Qf, hQ⟩ : ∃ Qf, Qf = am_Q k 2 110 (fun v h' => v = some (.int (nI p)) ∧ ∃ L' : Nat → Nat → Nat, LEd n p o L L' ∧ WI N n (p + 1) ord L' (sp_cpipe p (nI 0) (nI (j + 1)) lim Γ) o h') (fun _ _ => False) := ⟨_, rfl⟩
  rw [← hQ]
  have hm0 : wdm n p o 3 0 = true := rfl
  have hx0 : wdm n p o 5 0 = true := rfl
  have hn8 : n ≤ 8 := w.1.1
  have hp24 : p ≤ 24 := w.1.2.1
  have ho8 : ord.length ≤ 8 := w.1.2.2.2.2
  refine g_iload_n dX4_pipe_0 rfl ?_
  refine g_iconst (v := (-1)) dX4_pipe_1 (by decide) ?_
  refine g_icmp_eq 13 dX4_pipe_2 (by decide) (fun c_2 => ?_) (fun z => absurd rfl z)
  refine g_aload_n dX4_pipe_13 rfl ?_
  refine g_iload_n dX4_pipe_14 rfl ?_
  refine g_callV [_] dX4_pipe_15 mc_X4_75 mi_X4_isNoDistrict se_X4_isNoDistrict (c_isNoDistrict_0 hlt w hj) (w.k (by first | rfl | assumption)) rfl rfl (Nat.le_of_ble_eq_true rfl) (am_rm hR (by decide)) (fun _ _ z => z) (fun v hx9 hq hE => ?_)
  obtain ⟨rfl, rfl⟩ := hq
  refine g_if_eq 31 dX4_pipe_18 (by decide) (fun _ => ?_) (fun z => absurd z (by decide))
  refine g_iload_n dX4_pipe_31 rfl ?_
  refine g_iload_n dX4_pipe_32 rfl ?_
  refine g_icmp_eq 47 dX4_pipe_33 (by decide) (fun z => absurd z.symm (nI_neg1 (by omega))) (fun c_33 => ?_)
  refine g_iload_n dX4_pipe_36 rfl ?_
  refine g_iconst (v := 1) dX4_pipe_37 (by decide) ?_
  refine g_sipush (v := 999) dX4_pipe_38 (by decide) ?_
  refine g_callS [_, _, _] dX4_pipe_41 mc_X4_46 ms_X4_isOutside (c_isOutside_0 hlt lim1 lim2) rfl (Nat.le_of_ble_eq_true rfl) (am_rm hR (by decide)) (fun _ _ z => z) (fun v hx9 hq hE => ?_)
  obtain ⟨rfl, rfl⟩ := hq
  refine g_if_eq 57 dX4_pipe_44 (by decide) (fun _ => ?_) (fun z => absurd z (by decide))
  refine g_aload_n dX4_pipe_57 rfl ?_
  refine w_getR w dX4_pipe_58 fl_X4_19 rfl rfl (by first | rfl | assumption) rfl ?_
  refine w_getR w dX4_pipe_61 fl_X4_86 rfl rfl (by first | rfl | assumption) rfl ?_
  refine g_callV [] dX4_pipe_64 mc_X4_57 mi_Jx4a65c_size_8abf5 se_Jx4a65c_size_8abf5 (c_size2 hlt w) (w.k (by first | rfl | assumption)) rfl rfl (Nat.le_of_ble_eq_true rfl) (am_rm hR (by decide)) (fun _ _ z => z) (fun v hx9 hq hE => ?_)
  obtain ⟨rfl, rfl⟩ := hq
  refine g_bipush (v := nI 24) dX4_pipe_67 (by decide) ?_
  refine gN_ge 79 dX4_pipe_69 (by decide) (by omega) (by omega) (fun z => absurd z (by omega)) (fun c_69 => ?_)
  refine g_aload_n dX4_pipe_72 rfl ?_
  refine w_getI w dX4_pipe_73 fl_X4_33 rfl rfl (by first | rfl | assumption) ?_
  refine g_if_eq 89 dX4_pipe_76 (by decide) (fun c_76 => ?_) (fun z => absurd hg z)
  refine g_aload_n dX4_pipe_89 rfl ?_
  refine w_getR w dX4_pipe_90 fl_X4_19 rfl rfl (by first | rfl | assumption) rfl ?_
  refine w_getR w dX4_pipe_93 fl_X4_86 rfl rfl (by first | rfl | assumption) rfl ?_
  refine g_callV [] dX4_pipe_96 mc_X4_57 mi_Jx4a65c_size_8abf5 se_Jx4a65c_size_8abf5 (c_size2 hlt w) (w.k (by first | rfl | assumption)) rfl rfl (Nat.le_of_ble_eq_true rfl) (am_rm hR (by decide)) (fun _ _ z => z) (fun v hx9 hq hE => ?_)
  obtain ⟨rfl, rfl⟩ := hq
  refine g_istore dX4_pipe_99 (by decide) rfl ?_
  refine g_aload_n dX4_pipe_101 rfl ?_
  refine w_getR w dX4_pipe_102 fl_X4_19 rfl rfl (by first | rfl | assumption) rfl ?_
  refine w_getR w dX4_pipe_105 fl_X4_86 rfl rfl (by first | rfl | assumption) rfl ?_
  refine g_new dX4_pipe_108 cl_X3 kl_X4_91 (by rw [hR]; exact Nat.le_of_ble_eq_true rfl) (by rw [hR]; exact Nat.le_of_ble_eq_true rfl) (fun d1 hd9 => ?_)
  have hd0 : am_K hx9 d1 = 0 := am_new0 hd9
  refine g_dup dX4_pipe_111 rfl ?_
  refine g_iload_n dX4_pipe_112 rfl ?_
  refine g_iconst (v := 1) dX4_pipe_113 (by decide) ?_
  refine g_iadd dX4_pipe_114 ?_
  rw [show (-1 : Int32) + 1 = nI 0 from by decide]
  refine g_iload_n dX4_pipe_115 rfl ?_
  refine g_iconst (v := 1) dX4_pipe_116 (by decide) ?_
  refine g_iadd dX4_pipe_117 ?_
  rw [nI_1]
  refine g_iload_n dX4_pipe_118 rfl ?_
  refine g_callI [_, _, _] dX4_pipe_119 mc_X4_93 mi_X3_init rfl (c_X3_init hlt (f := (nI 0)) (t := nI (j + 1)) (l1 := lim) (by rw [am_K_nw, if_pos rfl])) rfl (Nat.le_of_ble_eq_true rfl) (am_rm hR (by decide)) (fun _ _ z => z) (fun v hx9 hq hE => ?_)
  obtain ⟨rfl, rfl⟩ := hq
  have hold : ∀ q, am_K hx9 q ≠ 0 → am_same hx9 (hP (am_nw hx9 d1 4 0) d1 (nI 0) (nI (j + 1)) lim) q := fun q hq => by
    have q1 : q ≠ d1 := fun z => hq (by rw [z]; exact hd0)
    exact ((((am_same_nw q1).tr (am_same_sI q1)).tr (am_same_sI q1)).tr (am_same_sI q1)).tr (am_same_sI q1)
  have w2 := w.same hold
  have hkd : am_K (hP (am_nw hx9 d1 4 0) d1 (nI 0) (nI (j + 1)) lim) d1 = 4 := by show am_K (am_nw hx9 d1 4 0) d1 = 4; rw [am_K_nw, if_pos rfl]
  refine g_callV [_] dX4_pipe_122 mc_X4_71 mi_Jx4a65c_add_9ea2d se_Jx4a65c_add_9ea2d (c_add9 hlt (w2.la (t := 2) (by decide)) (x := d1) (Or.inr hkd)) ((w2.k (c := 6) (i := 2) rfl)) rfl rfl (Nat.le_of_ble_eq_true rfl) (am_rm hR (by decide)) (fun _ _ z => z) (fun v hx9 hq hE => ?_)
  obtain ⟨rfl, z, g, g1, g2, hAD⟩ := hq
  obtain ⟨b', hLU⟩ := hAD.lu (w2.la (t := 2) (by decide))
  have eln : (wls n p ord 2).length = p := List.length_range
  rw [eln] at hLU g1 g2
  have w3 := w.addP hp hd0 hLU g1 g2
  refine g_pop dX4_pipe_125 rfl ?_
  refine g_iload dX4_pipe_126 rfl ?_
  rw [hQ]
  refine g_iret dX4_pipe_128 rfl rfl (by decide) (by decide) ?_
  refine ⟨rfl, lP L p b' d1, fun c i hi => ?_, w3⟩
  unfold lP
  have h7 : ¬ (c = 7 ∧ i = 2) := fun z => by rw [z.1] at hi; cases hi
  rw [if_neg h7, if_neg (fun z => by rw [z.1, z.2] at hi; exact absurd (of_decide_eq_true hi) (Nat.lt_irrefl _))]
set_option maxRecDepth 100000 in
set_option maxHeartbeats 4000000 in
theorem c_X4_pipe_1bn {l : Launch} (hlt : l.stackTraces = false) {N n p : Nat} {ord : List Nat} {L : Nat → Nat → Nat} {Γ : Nat → Nat → Nat → Int32} {o : Nat} {h : am_H} (w : WI N n p ord L Γ o h) {i : Nat} (hi : i < n) {t lim : Int32} (htb : t < 0 ∨ nI n ≤ t) : am_Con l yX4_pipe (.code yX4_pipe cX4_pipe 5 (some .int)) 20 1 6 [.ref (L 5 0), .int (nI i), .int t, .int lim] h (fun v h' => False) (fun E h' => E = "java/lang/IndexOutOfBoundsException" ∧ h' = h) := by
  refine am_body hlt (by decide +kernel) (Nat.le_of_ble_eq_true rfl) (fun k hl hR h0 hno => ?_)
  subst hl
  obtain ⟨Qf, hQ⟩ : ∃ Qf, Qf = am_Q k 1 6 (fun v h' => False) (fun E h' => E = "java/lang/IndexOutOfBoundsException" ∧ h' = h) := ⟨_, rfl⟩
  rw [← hQ]
  have hm0 : wdm n p o 3 0 = true := rfl
  have hx0 : wdm n p o 5 0 = true := rfl
  have hn8 : n ≤ 8 := w.1.1
  have hp24 : p ≤ 24 := w.1.2.1
  have ho8 : ord.length ≤ 8 := w.1.2.2.2.2
  refine g_iload_n dX4_pipe_0 rfl ?_
  refine g_iconst (v := (-1)) dX4_pipe_1 (by decide) ?_
  refine g_icmp_eq 13 dX4_pipe_2 (by decide) (fun z => absurd z (nI_neg1 (by omega))) (fun c_2 => ?_)
  refine g_aload_n dX4_pipe_5 rfl ?_
  refine g_iload_n dX4_pipe_6 rfl ?_
  refine g_callV [_] dX4_pipe_7 mc_X4_75 mi_X4_isNoDistrict se_X4_isNoDistrict (c_isNoDistrict_0 hlt w (by assumption)) (w.k (by first | rfl | assumption)) rfl rfl (Nat.le_of_ble_eq_true rfl) (am_rm hR (by decide)) (fun _ _ z => z) (fun v hx hq hE => ?_)
  obtain ⟨rfl, rfl⟩ := hq
  refine g_if_ne 21 dX4_pipe_10 (by decide) (fun z => absurd z (by decide)) (fun _ => ?_)
  refine g_aload_n dX4_pipe_13 rfl ?_
  refine g_iload_n dX4_pipe_14 rfl ?_
  refine g_callV [_] dX4_pipe_15 mc_X4_75 mi_X4_isNoDistrict se_X4_isNoDistrict (c_isNoDistrict_1 hlt w htb) (w.k (by first | rfl | assumption)) rfl rfl (Nat.le_of_ble_eq_true rfl) (am_rm hR (by decide)) (fun _ _ z => z) (fun v hx hq hE => ?_)
  obtain ⟨rfl, rfl⟩ := hq
  refine g_if_eq 31 dX4_pipe_18 (by decide) (fun z => absurd z (by decide)) (fun _ => ?_)
  rw [hQ]
  refine g_throw (text := "no such district") dX4_pipe_21 dX4_pipe_24 dX4_pipe_25 dX4_pipe_27 dX4_pipe_30 tw_79 (by simp [am_strs]) hno (by rw [hR]; decide) (by rw [hR]; exact Nat.le_of_ble_eq_true rfl) (by rw [hR]; decide) (by rw [hR]; decide) (by decide) (by decide) ?_
  exact ⟨rfl, rfl⟩
set_option maxRecDepth 100000 in
set_option maxHeartbeats 4000000 in
theorem c_X4_pipe_2an {l : Launch} (hlt : l.stackTraces = false) {N n p : Nat} {ord : List Nat} {L : Nat → Nat → Nat} {Γ : Nat → Nat → Nat → Int32} {o : Nat} {h : am_H} (w : WI N n p ord L Γ o h) {i : Nat} (hi : i < n) {lim : Int32} : am_Con l yX4_pipe (.code yX4_pipe cX4_pipe 5 (some .int)) 20 1 6 [.ref (L 5 0), .int (nI i), .int (nI i), .int lim] h (fun v h' => False) (fun E h' => E = "java/lang/IllegalArgumentException" ∧ h' = h) := by
  refine am_body hlt (by decide +kernel) (Nat.le_of_ble_eq_true rfl) (fun k hl hR h0 hno => ?_)
  subst hl
  obtain ⟨Qf, hQ⟩ : ∃ Qf, Qf = am_Q k 1 6 (fun v h' => False) (fun E h' => E = "java/lang/IllegalArgumentException" ∧ h' = h) := ⟨_, rfl⟩
  rw [← hQ]
  have hm0 : wdm n p o 3 0 = true := rfl
  have hx0 : wdm n p o 5 0 = true := rfl
  have hn8 : n ≤ 8 := w.1.1
  have hp24 : p ≤ 24 := w.1.2.1
  have ho8 : ord.length ≤ 8 := w.1.2.2.2.2
  refine g_iload_n dX4_pipe_0 rfl ?_
  refine g_iconst (v := (-1)) dX4_pipe_1 (by decide) ?_
  refine g_icmp_eq 13 dX4_pipe_2 (by decide) (fun z => absurd z (nI_neg1 (by omega))) (fun c_2 => ?_)
  refine g_aload_n dX4_pipe_5 rfl ?_
  refine g_iload_n dX4_pipe_6 rfl ?_
  refine g_callV [_] dX4_pipe_7 mc_X4_75 mi_X4_isNoDistrict se_X4_isNoDistrict (c_isNoDistrict_0 hlt w hi) (w.k (by first | rfl | assumption)) rfl rfl (Nat.le_of_ble_eq_true rfl) (am_rm hR (by decide)) (fun _ _ z => z) (fun v hx hq hE => ?_)
  obtain ⟨rfl, rfl⟩ := hq
  refine g_if_ne 21 dX4_pipe_10 (by decide) (fun z => absurd z (by decide)) (fun _ => ?_)
  refine g_aload_n dX4_pipe_13 rfl ?_
  refine g_iload_n dX4_pipe_14 rfl ?_
  refine g_callV [_] dX4_pipe_15 mc_X4_75 mi_X4_isNoDistrict se_X4_isNoDistrict (c_isNoDistrict_0 hlt w hi) (w.k (by first | rfl | assumption)) rfl rfl (Nat.le_of_ble_eq_true rfl) (am_rm hR (by decide)) (fun _ _ z => z) (fun v hx hq hE => ?_)
  obtain ⟨rfl, rfl⟩ := hq
  refine g_if_eq 31 dX4_pipe_18 (by decide) (fun _ => ?_) (fun z => absurd z (by decide))
  refine g_iload_n dX4_pipe_31 rfl ?_
  refine g_iload_n dX4_pipe_32 rfl ?_
  refine g_icmp_eq 47 dX4_pipe_33 (by decide) (fun c_33 => ?_) (fun z => absurd rfl z)
  rw [hQ]
  refine g_throw (text := "a pipe to where it comes from, or limit is out of range") dX4_pipe_47 dX4_pipe_50 dX4_pipe_51 dX4_pipe_53 dX4_pipe_56 tw_50 (by simp [am_strs]) hno (by rw [hR]; decide) (by rw [hR]; exact Nat.le_of_ble_eq_true rfl) (by rw [hR]; decide) (by rw [hR]; decide) (by decide) (by decide) ?_
  exact ⟨rfl, rfl⟩
set_option maxRecDepth 100000 in
set_option maxHeartbeats 4000000 in
theorem c_X4_pipe_2bn {l : Launch} (hlt : l.stackTraces = false) {N n p : Nat} {ord : List Nat} {L : Nat → Nat → Nat} {Γ : Nat → Nat → Nat → Int32} {o : Nat} {h : am_H} (w : WI N n p ord L Γ o h) {i : Nat} (hi : i < n) {j : Nat} (hj : j < n) (hij : i ≠ j) {lim : Int32} (limb : lim < 1 ∨ ¬ lim ≤ 999) : am_Con l yX4_pipe (.code yX4_pipe cX4_pipe 5 (some .int)) 20 1 6 [.ref (L 5 0), .int (nI i), .int (nI j), .int lim] h (fun v h' => False) (fun E h' => E = "java/lang/IllegalArgumentException" ∧ h' = h) := by
  refine am_body hlt (by decide +kernel) (Nat.le_of_ble_eq_true rfl) (fun k hl hR h0 hno => ?_)
  subst hl
  obtain ⟨Qf, hQ⟩ : ∃ Qf, Qf = am_Q k 1 6 (fun v h' => False) (fun E h' => E = "java/lang/IllegalArgumentException" ∧ h' = h) := ⟨_, rfl⟩
  rw [← hQ]
  have hm0 : wdm n p o 3 0 = true := rfl
  have hx0 : wdm n p o 5 0 = true := rfl
  have hn8 : n ≤ 8 := w.1.1
  have hp24 : p ≤ 24 := w.1.2.1
  have ho8 : ord.length ≤ 8 := w.1.2.2.2.2
  refine g_iload_n dX4_pipe_0 rfl ?_
  refine g_iconst (v := (-1)) dX4_pipe_1 (by decide) ?_
  refine g_icmp_eq 13 dX4_pipe_2 (by decide) (fun z => absurd z (nI_neg1 (by omega))) (fun c_2 => ?_)
  refine g_aload_n dX4_pipe_5 rfl ?_
  refine g_iload_n dX4_pipe_6 rfl ?_
  refine g_callV [_] dX4_pipe_7 mc_X4_75 mi_X4_isNoDistrict se_X4_isNoDistrict (c_isNoDistrict_0 hlt w (by assumption)) (w.k (by first | rfl | assumption)) rfl rfl (Nat.le_of_ble_eq_true rfl) (am_rm hR (by decide)) (fun _ _ z => z) (fun v hx hq hE => ?_)
  obtain ⟨rfl, rfl⟩ := hq
  refine g_if_ne 21 dX4_pipe_10 (by decide) (fun z => absurd z (by decide)) (fun _ => ?_)
  refine g_aload_n dX4_pipe_13 rfl ?_
  refine g_iload_n dX4_pipe_14 rfl ?_
  refine g_callV [_] dX4_pipe_15 mc_X4_75 mi_X4_isNoDistrict se_X4_isNoDistrict (c_isNoDistrict_0 hlt w hj) (w.k (by first | rfl | assumption)) rfl rfl (Nat.le_of_ble_eq_true rfl) (am_rm hR (by decide)) (fun _ _ z => z) (fun v hx hq hE => ?_)
  obtain ⟨rfl, rfl⟩ := hq
  refine g_if_eq 31 dX4_pipe_18 (by decide) (fun _ => ?_) (fun z => absurd z (by decide))
  refine g_iload_n dX4_pipe_31 rfl ?_
  refine g_iload_n dX4_pipe_32 rfl ?_
  refine g_icmp_eq 47 dX4_pipe_33 (by decide) (fun z => absurd ((nI_eq (by omega) (by omega)).mp z) hij) (fun c_33 => ?_)
  refine g_iload_n dX4_pipe_36 rfl ?_
  refine g_iconst (v := 1) dX4_pipe_37 (by decide) ?_
  refine g_sipush (v := 999) dX4_pipe_38 (by decide) ?_
  refine g_callS [_, _, _] dX4_pipe_41 mc_X4_46 ms_X4_isOutside (c_isOutside_1 hlt limb) rfl (Nat.le_of_ble_eq_true rfl) (am_rm hR (by decide)) (fun _ _ z => z) (fun v hx hq hE => ?_)
  obtain ⟨rfl, rfl⟩ := hq
  refine g_if_eq 57 dX4_pipe_44 (by decide) (fun z => absurd z (by decide)) (fun _ => ?_)
  rw [hQ]
  refine g_throw (text := "a pipe to where it comes from, or limit is out of range") dX4_pipe_47 dX4_pipe_50 dX4_pipe_51 dX4_pipe_53 dX4_pipe_56 tw_50 (by simp [am_strs]) hno (by rw [hR]; decide) (by rw [hR]; exact Nat.le_of_ble_eq_true rfl) (by rw [hR]; decide) (by rw [hR]; decide) (by decide) (by decide) ?_
  exact ⟨rfl, rfl⟩
set_option maxRecDepth 100000 in
set_option maxHeartbeats 4000000 in
theorem c_X4_pipe_3an {l : Launch} (hlt : l.stackTraces = false) {N n p : Nat} {ord : List Nat} {L : Nat → Nat → Nat} {Γ : Nat → Nat → Nat → Int32} {o : Nat} {h : am_H} (w : WI N n p ord L Γ o h) {i : Nat} (hi : i < n) {j : Nat} (hj : j < n) (hij : i ≠ j) {lim : Int32} (lim1 : ¬ lim < 1) (lim2 : lim ≤ 999) (hp : ¬ p < 24) : am_Con l yX4_pipe (.code yX4_pipe cX4_pipe 5 (some .int)) 20 1 6 [.ref (L 5 0), .int (nI i), .int (nI j), .int lim] h (fun v h' => False) (fun E h' => E = "java/lang/IllegalStateException" ∧ h' = h) := by
  refine am_body hlt (by decide +kernel) (Nat.le_of_ble_eq_true rfl) (fun k hl hR h0 hno => ?_)
  subst hl
  obtain ⟨Qf, hQ⟩ : ∃ Qf, Qf = am_Q k 1 6 (fun v h' => False) (fun E h' => E = "java/lang/IllegalStateException" ∧ h' = h) := ⟨_, rfl⟩
  rw [← hQ]
  have hm0 : wdm n p o 3 0 = true := rfl
  have hx0 : wdm n p o 5 0 = true := rfl
  have hn8 : n ≤ 8 := w.1.1
  have hp24 : p ≤ 24 := w.1.2.1
  have ho8 : ord.length ≤ 8 := w.1.2.2.2.2
  refine g_iload_n dX4_pipe_0 rfl ?_
  refine g_iconst (v := (-1)) dX4_pipe_1 (by decide) ?_
  refine g_icmp_eq 13 dX4_pipe_2 (by decide) (fun z => absurd z (nI_neg1 (by omega))) (fun c_2 => ?_)
  refine g_aload_n dX4_pipe_5 rfl ?_
  refine g_iload_n dX4_pipe_6 rfl ?_
  refine g_callV [_] dX4_pipe_7 mc_X4_75 mi_X4_isNoDistrict se_X4_isNoDistrict (c_isNoDistrict_0 hlt w (by assumption)) (w.k (by first | rfl | assumption)) rfl rfl (Nat.le_of_ble_eq_true rfl) (am_rm hR (by decide)) (fun _ _ z => z) (fun v hx hq hE => ?_)
  obtain ⟨rfl, rfl⟩ := hq
  refine g_if_ne 21 dX4_pipe_10 (by decide) (fun z => absurd z (by decide)) (fun _ => ?_)
  refine g_aload_n dX4_pipe_13 rfl ?_
  refine g_iload_n dX4_pipe_14 rfl ?_
  refine g_callV [_] dX4_pipe_15 mc_X4_75 mi_X4_isNoDistrict se_X4_isNoDistrict (c_isNoDistrict_0 hlt w hj) (w.k (by first | rfl | assumption)) rfl rfl (Nat.le_of_ble_eq_true rfl) (am_rm hR (by decide)) (fun _ _ z => z) (fun v hx hq hE => ?_)
  obtain ⟨rfl, rfl⟩ := hq
  refine g_if_eq 31 dX4_pipe_18 (by decide) (fun _ => ?_) (fun z => absurd z (by decide))
  refine g_iload_n dX4_pipe_31 rfl ?_
  refine g_iload_n dX4_pipe_32 rfl ?_
  refine g_icmp_eq 47 dX4_pipe_33 (by decide) (fun z => absurd ((nI_eq (by omega) (by omega)).mp z) hij) (fun c_33 => ?_)
  refine g_iload_n dX4_pipe_36 rfl ?_
  refine g_iconst (v := 1) dX4_pipe_37 (by decide) ?_
  refine g_sipush (v := 999) dX4_pipe_38 (by decide) ?_
  refine g_callS [_, _, _] dX4_pipe_41 mc_X4_46 ms_X4_isOutside (c_isOutside_0 hlt lim1 lim2) rfl (Nat.le_of_ble_eq_true rfl) (am_rm hR (by decide)) (fun _ _ z => z) (fun v hx hq hE => ?_)
  obtain ⟨rfl, rfl⟩ := hq
  refine g_if_eq 57 dX4_pipe_44 (by decide) (fun _ => ?_) (fun z => absurd z (by decide))
  refine g_aload_n dX4_pipe_57 rfl ?_
  refine w_getR w dX4_pipe_58 fl_X4_19 rfl rfl (by first | rfl | assumption) rfl ?_
  refine w_getR w dX4_pipe_61 fl_X4_86 rfl rfl (by first | rfl | assumption) rfl ?_
  refine g_callV [] dX4_pipe_64 mc_X4_57 mi_Jx4a65c_size_8abf5 se_Jx4a65c_size_8abf5 (c_size2 hlt w) (w.k (by first | rfl | assumption)) rfl rfl (Nat.le_of_ble_eq_true rfl) (am_rm hR (by decide)) (fun _ _ z => z) (fun v hx hq hE => ?_)
  obtain ⟨rfl, rfl⟩ := hq
  refine g_bipush (v := nI 24) dX4_pipe_67 (by decide) ?_
  refine gN_ge 79 dX4_pipe_69 (by decide) (by omega) (by omega) (fun c_69 => ?_) (fun z => absurd (Nat.not_lt.mp hp) (by omega))
  rw [hQ]
  refine g_throw (text := "there are 24 pipes, or all is FLOWING") dX4_pipe_79 dX4_pipe_82 dX4_pipe_83 dX4_pipe_85 dX4_pipe_88 tw_61 (by simp [am_strs]) hno (by rw [hR]; decide) (by rw [hR]; exact Nat.le_of_ble_eq_true rfl) (by rw [hR]; decide) (by rw [hR]; decide) (by decide) (by decide) ?_
  exact ⟨rfl, rfl⟩
set_option maxRecDepth 100000 in
set_option maxHeartbeats 4000000 in
theorem c_X4_pipe_3bn {l : Launch} (hlt : l.stackTraces = false) {N n p : Nat} {ord : List Nat} {L : Nat → Nat → Nat} {Γ : Nat → Nat → Nat → Int32} {o : Nat} {h : am_H} (w : WI N n p ord L Γ o h) {i : Nat} (hi : i < n) {j : Nat} (hj : j < n) (hij : i ≠ j) {lim : Int32} (lim1 : ¬ lim < 1) (lim2 : lim ≤ 999) (hp : p < 24) (hg : ¬ Γ 5 0 5 = 0) : am_Con l yX4_pipe (.code yX4_pipe cX4_pipe 5 (some .int)) 20 1 6 [.ref (L 5 0), .int (nI i), .int (nI j), .int lim] h (fun v h' => False) (fun E h' => E = "java/lang/IllegalStateException" ∧ h' = h) := by
  refine am_body hlt (by decide +kernel) (Nat.le_of_ble_eq_true rfl) (fun k hl hR h0 hno => ?_)
  subst hl
  obtain ⟨Qf, hQ⟩ : ∃ Qf, Qf = am_Q k 1 6 (fun v h' => False) (fun E h' => E = "java/lang/IllegalStateException" ∧ h' = h) := ⟨_, rfl⟩
  rw [← hQ]
  have hm0 : wdm n p o 3 0 = true := rfl
  have hx0 : wdm n p o 5 0 = true := rfl
  have hn8 : n ≤ 8 := w.1.1
  have hp24 : p ≤ 24 := w.1.2.1
  have ho8 : ord.length ≤ 8 := w.1.2.2.2.2
  refine g_iload_n dX4_pipe_0 rfl ?_
  refine g_iconst (v := (-1)) dX4_pipe_1 (by decide) ?_
  refine g_icmp_eq 13 dX4_pipe_2 (by decide) (fun z => absurd z (nI_neg1 (by omega))) (fun c_2 => ?_)
  refine g_aload_n dX4_pipe_5 rfl ?_
  refine g_iload_n dX4_pipe_6 rfl ?_
  refine g_callV [_] dX4_pipe_7 mc_X4_75 mi_X4_isNoDistrict se_X4_isNoDistrict (c_isNoDistrict_0 hlt w (by assumption)) (w.k (by first | rfl | assumption)) rfl rfl (Nat.le_of_ble_eq_true rfl) (am_rm hR (by decide)) (fun _ _ z => z) (fun v hx hq hE => ?_)
  obtain ⟨rfl, rfl⟩ := hq
  refine g_if_ne 21 dX4_pipe_10 (by decide) (fun z => absurd z (by decide)) (fun _ => ?_)
  refine g_aload_n dX4_pipe_13 rfl ?_
  refine g_iload_n dX4_pipe_14 rfl ?_
  refine g_callV [_] dX4_pipe_15 mc_X4_75 mi_X4_isNoDistrict se_X4_isNoDistrict (c_isNoDistrict_0 hlt w hj) (w.k (by first | rfl | assumption)) rfl rfl (Nat.le_of_ble_eq_true rfl) (am_rm hR (by decide)) (fun _ _ z => z) (fun v hx hq hE => ?_)
  obtain ⟨rfl, rfl⟩ := hq
  refine g_if_eq 31 dX4_pipe_18 (by decide) (fun _ => ?_) (fun z => absurd z (by decide))
  refine g_iload_n dX4_pipe_31 rfl ?_
  refine g_iload_n dX4_pipe_32 rfl ?_
  refine g_icmp_eq 47 dX4_pipe_33 (by decide) (fun z => absurd ((nI_eq (by omega) (by omega)).mp z) hij) (fun c_33 => ?_)
  refine g_iload_n dX4_pipe_36 rfl ?_
  refine g_iconst (v := 1) dX4_pipe_37 (by decide) ?_
  refine g_sipush (v := 999) dX4_pipe_38 (by decide) ?_
  refine g_callS [_, _, _] dX4_pipe_41 mc_X4_46 ms_X4_isOutside (c_isOutside_0 hlt lim1 lim2) rfl (Nat.le_of_ble_eq_true rfl) (am_rm hR (by decide)) (fun _ _ z => z) (fun v hx hq hE => ?_)
  obtain ⟨rfl, rfl⟩ := hq
  refine g_if_eq 57 dX4_pipe_44 (by decide) (fun _ => ?_) (fun z => absurd z (by decide))
  refine g_aload_n dX4_pipe_57 rfl ?_
  refine w_getR w dX4_pipe_58 fl_X4_19 rfl rfl (by first | rfl | assumption) rfl ?_
  refine w_getR w dX4_pipe_61 fl_X4_86 rfl rfl (by first | rfl | assumption) rfl ?_
  refine g_callV [] dX4_pipe_64 mc_X4_57 mi_Jx4a65c_size_8abf5 se_Jx4a65c_size_8abf5 (c_size2 hlt w) (w.k (by first | rfl | assumption)) rfl rfl (Nat.le_of_ble_eq_true rfl) (am_rm hR (by decide)) (fun _ _ z => z) (fun v hx hq hE => ?_)
  obtain ⟨rfl, rfl⟩ := hq
  refine g_bipush (v := nI 24) dX4_pipe_67 (by decide) ?_
  refine gN_ge 79 dX4_pipe_69 (by decide) (by omega) (by omega) (fun z => absurd z (by omega)) (fun c_69 => ?_)
  refine g_aload_n dX4_pipe_72 rfl ?_
  refine w_getI w dX4_pipe_73 fl_X4_33 rfl rfl (by first | rfl | assumption) ?_
  refine g_if_eq 89 dX4_pipe_76 (by decide) (fun z => absurd z hg) (fun c_76 => ?_)
  rw [hQ]
  refine g_throw (text := "there are 24 pipes, or all is FLOWING") dX4_pipe_79 dX4_pipe_82 dX4_pipe_83 dX4_pipe_85 dX4_pipe_88 tw_61 (by simp [am_strs]) hno (by rw [hR]; decide) (by rw [hR]; exact Nat.le_of_ble_eq_true rfl) (by rw [hR]; decide) (by rw [hR]; decide) (by decide) (by decide) ?_
  exact ⟨rfl, rfl⟩
set_option maxRecDepth 100000 in
set_option maxHeartbeats 4000000 in
theorem c_X4_pipe_0n {l : Launch} (hlt : l.stackTraces = false) {N n p : Nat} {ord : List Nat} {L : Nat → Nat → Nat} {Γ : Nat → Nat → Nat → Int32} {o : Nat} {h : am_H} (w : WI N n p ord L Γ o h) {i : Nat} (hi : i < n) {j : Nat} (hj : j < n) (hij : i ≠ j) {lim : Int32} (lim1 : ¬ lim < 1) (lim2 : lim ≤ 999) (hp : p < 24) (hg : Γ 5 0 5 = 0) : am_Con l yX4_pipe (.code yX4_pipe cX4_pipe 5 (some .int)) 20 2 110 [.ref (L 5 0), .int (nI i), .int (nI j), .int lim] h (fun v h' => v = some (.int (nI p)) ∧ ∃ L' : Nat → Nat → Nat, LEd n p o L L' ∧ WI N n (p + 1) ord L' (sp_cpipe p (nI (i + 1)) (nI (j + 1)) lim Γ) o h') (fun _ _ => False) := by
  refine am_body hlt (by decide +kernel) (Nat.le_of_ble_eq_true rfl) (fun k hl hR h0 hno => ?_)
  subst hl
  obtain ⟨Qf, hQ⟩ : ∃ Qf, Qf = am_Q k 2 110 (fun v h' => v = some (.int (nI p)) ∧ ∃ L' : Nat → Nat → Nat, LEd n p o L L' ∧ WI N n (p + 1) ord L' (sp_cpipe p (nI (i + 1)) (nI (j + 1)) lim Γ) o h') (fun _ _ => False) := ⟨_, rfl⟩
  rw [← hQ]
  have hm0 : wdm n p o 3 0 = true := rfl
  have hx0 : wdm n p o 5 0 = true := rfl
  have hn8 : n ≤ 8 := w.1.1
  have hp24 : p ≤ 24 := w.1.2.1
  have ho8 : ord.length ≤ 8 := w.1.2.2.2.2
  refine g_iload_n dX4_pipe_0 rfl ?_
  refine g_iconst (v := (-1)) dX4_pipe_1 (by decide) ?_
  refine g_icmp_eq 13 dX4_pipe_2 (by decide) (fun z => absurd z (nI_neg1 (by omega))) (fun c_2 => ?_)
  refine g_aload_n dX4_pipe_5 rfl ?_
  refine g_iload_n dX4_pipe_6 rfl ?_
  refine g_callV [_] dX4_pipe_7 mc_X4_75 mi_X4_isNoDistrict se_X4_isNoDistrict (c_isNoDistrict_0 hlt w (by assumption)) (w.k (by first | rfl | assumption)) rfl rfl (Nat.le_of_ble_eq_true rfl) (am_rm hR (by decide)) (fun _ _ z => z) (fun v hx9 hq hE => ?_)
  obtain ⟨rfl, rfl⟩ := hq
  refine g_if_ne 21 dX4_pipe_10 (by decide) (fun z => absurd z (by decide)) (fun _ => ?_)
  refine g_aload_n dX4_pipe_13 rfl ?_
  refine g_iload_n dX4_pipe_14 rfl ?_
  refine g_callV [_] dX4_pipe_15 mc_X4_75 mi_X4_isNoDistrict se_X4_isNoDistrict (c_isNoDistrict_0 hlt w hj) (w.k (by first | rfl | assumption)) rfl rfl (Nat.le_of_ble_eq_true rfl) (am_rm hR (by decide)) (fun _ _ z => z) (fun v hx9 hq hE => ?_)
  obtain ⟨rfl, rfl⟩ := hq
  refine g_if_eq 31 dX4_pipe_18 (by decide) (fun _ => ?_) (fun z => absurd z (by decide))
  refine g_iload_n dX4_pipe_31 rfl ?_
  refine g_iload_n dX4_pipe_32 rfl ?_
  refine g_icmp_eq 47 dX4_pipe_33 (by decide) (fun z => absurd ((nI_eq (by omega) (by omega)).mp z) hij) (fun c_33 => ?_)
  refine g_iload_n dX4_pipe_36 rfl ?_
  refine g_iconst (v := 1) dX4_pipe_37 (by decide) ?_
  refine g_sipush (v := 999) dX4_pipe_38 (by decide) ?_
  refine g_callS [_, _, _] dX4_pipe_41 mc_X4_46 ms_X4_isOutside (c_isOutside_0 hlt lim1 lim2) rfl (Nat.le_of_ble_eq_true rfl) (am_rm hR (by decide)) (fun _ _ z => z) (fun v hx9 hq hE => ?_)
  obtain ⟨rfl, rfl⟩ := hq
  refine g_if_eq 57 dX4_pipe_44 (by decide) (fun _ => ?_) (fun z => absurd z (by decide))
  refine g_aload_n dX4_pipe_57 rfl ?_
  refine w_getR w dX4_pipe_58 fl_X4_19 rfl rfl (by first | rfl | assumption) rfl ?_
  refine w_getR w dX4_pipe_61 fl_X4_86 rfl rfl (by first | rfl | assumption) rfl ?_
  refine g_callV [] dX4_pipe_64 mc_X4_57 mi_Jx4a65c_size_8abf5 se_Jx4a65c_size_8abf5 (c_size2 hlt w) (w.k (by first | rfl | assumption)) rfl rfl (Nat.le_of_ble_eq_true rfl) (am_rm hR (by decide)) (fun _ _ z => z) (fun v hx9 hq hE => ?_)
  obtain ⟨rfl, rfl⟩ := hq
  refine g_bipush (v := nI 24) dX4_pipe_67 (by decide) ?_
  refine gN_ge 79 dX4_pipe_69 (by decide) (by omega) (by omega) (fun z => absurd z (by omega)) (fun c_69 => ?_)
  refine g_aload_n dX4_pipe_72 rfl ?_
  refine w_getI w dX4_pipe_73 fl_X4_33 rfl rfl (by first | rfl | assumption) ?_
  refine g_if_eq 89 dX4_pipe_76 (by decide) (fun c_76 => ?_) (fun z => absurd hg z)
  refine g_aload_n dX4_pipe_89 rfl ?_
  refine w_getR w dX4_pipe_90 fl_X4_19 rfl rfl (by first | rfl | assumption) rfl ?_
  refine w_getR w dX4_pipe_93 fl_X4_86 rfl rfl (by first | rfl | assumption) rfl ?_
  refine g_callV [] dX4_pipe_96 mc_X4_57 mi_Jx4a65c_size_8abf5 se_Jx4a65c_size_8abf5 (c_size2 hlt w) (w.k (by first | rfl | assumption)) rfl rfl (Nat.le_of_ble_eq_true rfl) (am_rm hR (by decide)) (fun _ _ z => z) (fun v hx9 hq hE => ?_)
  obtain ⟨rfl, rfl⟩ := hq
  refine g_istore dX4_pipe_99 (by decide) rfl ?_
  refine g_aload_n dX4_pipe_101 rfl ?_
  refine w_getR w dX4_pipe_102 fl_X4_19 rfl rfl (by first | rfl | assumption) rfl ?_
  refine w_getR w dX4_pipe_105 fl_X4_86 rfl rfl (by first | rfl | assumption) rfl ?_
  refine g_new dX4_pipe_108 cl_X3 kl_X4_91 (by rw [hR]; exact Nat.le_of_ble_eq_true rfl) (by rw [hR]; exact Nat.le_of_ble_eq_true rfl) (fun d1 hd9 => ?_)
  have hd0 : am_K hx9 d1 = 0 := am_new0 hd9
  refine g_dup dX4_pipe_111 rfl ?_
  refine g_iload_n dX4_pipe_112 rfl ?_
  refine g_iconst (v := 1) dX4_pipe_113 (by decide) ?_
  refine g_iadd dX4_pipe_114 ?_
  rw [nI_1]
  refine g_iload_n dX4_pipe_115 rfl ?_
  refine g_iconst (v := 1) dX4_pipe_116 (by decide) ?_
  refine g_iadd dX4_pipe_117 ?_
  rw [nI_1]
  refine g_iload_n dX4_pipe_118 rfl ?_
  refine g_callI [_, _, _] dX4_pipe_119 mc_X4_93 mi_X3_init rfl (c_X3_init hlt (f := (nI (i + 1))) (t := nI (j + 1)) (l1 := lim) (by rw [am_K_nw, if_pos rfl])) rfl (Nat.le_of_ble_eq_true rfl) (am_rm hR (by decide)) (fun _ _ z => z) (fun v hx9 hq hE => ?_)
  obtain ⟨rfl, rfl⟩ := hq
  have hold : ∀ q, am_K hx9 q ≠ 0 → am_same hx9 (hP (am_nw hx9 d1 4 0) d1 (nI (i + 1)) (nI (j + 1)) lim) q := fun q hq => by
    have q1 : q ≠ d1 := fun z => hq (by rw [z]; exact hd0)
    exact ((((am_same_nw q1).tr (am_same_sI q1)).tr (am_same_sI q1)).tr (am_same_sI q1)).tr (am_same_sI q1)
  have w2 := w.same hold
  have hkd : am_K (hP (am_nw hx9 d1 4 0) d1 (nI (i + 1)) (nI (j + 1)) lim) d1 = 4 := by show am_K (am_nw hx9 d1 4 0) d1 = 4; rw [am_K_nw, if_pos rfl]
  refine g_callV [_] dX4_pipe_122 mc_X4_71 mi_Jx4a65c_add_9ea2d se_Jx4a65c_add_9ea2d (c_add9 hlt (w2.la (t := 2) (by decide)) (x := d1) (Or.inr hkd)) ((w2.k (c := 6) (i := 2) rfl)) rfl rfl (Nat.le_of_ble_eq_true rfl) (am_rm hR (by decide)) (fun _ _ z => z) (fun v hx9 hq hE => ?_)
  obtain ⟨rfl, z, g, g1, g2, hAD⟩ := hq
  obtain ⟨b', hLU⟩ := hAD.lu (w2.la (t := 2) (by decide))
  have eln : (wls n p ord 2).length = p := List.length_range
  rw [eln] at hLU g1 g2
  have w3 := w.addP hp hd0 hLU g1 g2
  refine g_pop dX4_pipe_125 rfl ?_
  refine g_iload dX4_pipe_126 rfl ?_
  rw [hQ]
  refine g_iret dX4_pipe_128 rfl rfl (by decide) (by decide) ?_
  refine ⟨rfl, lP L p b' d1, fun c i hi => ?_, w3⟩
  unfold lP
  have h7 : ¬ (c = 7 ∧ i = 2) := fun z => by rw [z.1] at hi; cases hi
  rw [if_neg h7, if_neg (fun z => by rw [z.1, z.2] at hi; exact absurd (of_decide_eq_true hi) (Nat.lt_irrefl _))]
