set_option maxRecDepth 100000 in
set_option maxHeartbeats 4000000 in
theorem c_X2_init {l : Launch} (hlt : l.stackTraces = false) {h : am_H} {z N m : Nat} {xs : Nat → Int32} {L : Nat → Nat → Nat} (w0 : PW [(3, 0), (6, 0), (5, 0), (15, 0)] [(400, 5, 0, 6, 0), (601, 6, 0, 7, 0)] z N xs L h) (hm0 : L 3 0 = m)  : am_Con l yX2_init (.code yX2_init cX2_init 1 none) 4 14 120 [.ref m] h (fun v h' => v = none ∧ ∃ L' : Nat → Nat → Nat, PW [(10, 2), (10, 1), (10, 0), (8, 0), (9, 0), (9, 1), (9, 2), (9, 3), (9, 4), (9, 5), (9, 6), (9, 7), (9, 8), (6, 2), (3, 0), (6, 0), (5, 0), (15, 0)] [(206, 3, 0, 10, 2), (205, 3, 0, 10, 1), (204, 3, 0, 10, 0), (203, 3, 0, 8, 0), (200, 3, 0, 6, 2), (601, 6, 2, 7, 2), (400, 5, 0, 6, 0), (601, 6, 0, 7, 0)] z N xs L' h' ∧ ∀ q ∈ ([(3, 0), (6, 0), (5, 0), (15, 0)] : List (Nat × Nat)), L' q.1 q.2 = L q.1 q.2) (fun _ _ => False) := by
  refine am_body hlt (by decide +kernel) (Nat.le_of_ble_eq_true rfl) (fun k hl hR h0 hno => ?_)
  subst hl
  obtain ⟨Qf, hQ⟩ : ∃ Qf, Qf = am_Q k 14 120 (fun v h' => v = none ∧ ∃ L' : Nat → Nat → Nat, PW [(10, 2), (10, 1), (10, 0), (8, 0), (9, 0), (9, 1), (9, 2), (9, 3), (9, 4), (9, 5), (9, 6), (9, 7), (9, 8), (6, 2), (3, 0), (6, 0), (5, 0), (15, 0)] [(206, 3, 0, 10, 2), (205, 3, 0, 10, 1), (204, 3, 0, 10, 0), (203, 3, 0, 8, 0), (200, 3, 0, 6, 2), (601, 6, 2, 7, 2), (400, 5, 0, 6, 0), (601, 6, 0, 7, 0)] z N xs L' h' ∧ ∀ q ∈ ([(3, 0), (6, 0), (5, 0), (15, 0)] : List (Nat × Nat)), L' q.1 q.2 = L q.1 q.2) (fun _ _ => False) := ⟨_, rfl⟩
  rw [← hQ]
  refine g_aload_n dX2_init_0 rfl ?_
  refine g_objInit dX2_init_1 oi_X2 oi_i oi_c (by rw [hR]; exact Nat.le_of_ble_eq_true rfl) (by rw [hR]; exact Nat.le_of_ble_eq_true rfl) ?_
  refine g_aload_n dX2_init_4 rfl ?_
  refine g_new dX2_init_5 cl_AL kl_X2_9 (by rw [hR]; exact Nat.le_of_ble_eq_true rfl) (by rw [hR]; exact Nat.le_of_ble_eq_true rfl) (fun a1 ha1 => ?_)
  obtain ⟨L1, w1, e1, k1⟩ := w0.new (c := 6) (i := 2) (k := 7) (n := 0) ha1 (by decide) rfl (by decide) rfl (by decide)
  have q1_3_0 := (k1 (3, 0) (by decide)).trans hm0
  generalize am_nw _ a1 7 0 = g1 at w1 ⊢
  skip
  refine g_dup dX2_init_8 rfl ?_
  refine g_callI [] dX2_init_9 mc_X2_11 mi_Jx4a65c_init_da8c8 rfl (c_AL_init hlt (w1.k (by decide) e1)) rfl (Nat.le_of_ble_eq_true rfl) (am_rm hR (by decide)) (fun _ _ z => z) (fun v9 hx9 hq hE => ?_)
  obtain ⟨rfl, z9, hz9, hu9, rfl⟩ := hq
  replace w1 := w1.al (t := 2) (by decide) e1 hu9 (by decide)
  generalize am_sR _ 601 _ _ = g1_9 at w1 ⊢
  skip
  refine g_putRs dX2_init_12 fl_X2_12 rfl (fun q hq => by cases hq; first | exact Or.inl rfl | exact Or.inr ⟨rfl, rfl, rfl⟩) (w1.k (by decide) q1_3_0) rfl rfl ?_
  replace w1 := w1.putR (f := 200) (c := 3) (i := 0) (c' := 6) (i' := 2) (by decide) (Or.inl (by decide)) q1_3_0 e1 (by decide)
  generalize am_sR _ 200 _ _ = g1_12 at w1 ⊢
  skip
  refine g_aload_n dX2_init_15 rfl ?_
  refine g_iconst (v := 0) dX2_init_16 (by decide) ?_
  refine g_putI dX2_init_17 fl_X2_18 rfl (fun q hq => by cases hq; first | exact Or.inl rfl | exact Or.inr ⟨rfl, rfl, rfl⟩) (w1.k (by decide) q1_3_0) rfl rfl ?_
  replace w1 := w1.putI (f := 201) (a := m)
  generalize am_sI _ 201 _ 0 = g1_17 at w1 ⊢
  skip
  refine g_aload_n dX2_init_20 rfl ?_
  refine g_iconst (v := 0) dX2_init_21 (by decide) ?_
  refine g_putI dX2_init_22 fl_X2_22 rfl (fun q hq => by cases hq; first | exact Or.inl rfl | exact Or.inr ⟨rfl, rfl, rfl⟩) (w1.k (by decide) q1_3_0) rfl rfl ?_
  replace w1 := w1.putI (f := 202) (a := m)
  generalize am_sI _ 202 _ 0 = g1_22 at w1 ⊢
  skip
  refine g_aload_n dX2_init_25 rfl ?_
  refine g_bipush (v := 9) dX2_init_26 (by decide) ?_
  refine g_bipush (v := 9) dX2_init_28 (by decide) ?_
  refine g_newII dX2_init_30 kl_X2_25 aw_int (by decide) (by decide) (show _ = 9 by decide) (show _ = 9 by decide) (by decide) (by decide) (by decide) (by rw [hR]; exact Nat.le_of_ble_eq_true rfl) (by rw [hR]; exact Nat.le_of_ble_eq_true rfl) (fun a8 ha8 => ?_)
  obtain ⟨L2, w2, e2, k2⟩ := w1.mna ha8 (by decide)
  have q2_3_0 := (k2 (3, 0) (by decide)).trans q1_3_0
  have q2_6_2 := (k2 (6, 2) (by decide)).trans e1
  change PW [(8, 0), (9, 0), (9, 1), (9, 2), (9, 3), (9, 4), (9, 5), (9, 6), (9, 7), (9, 8), (6, 2), (3, 0), (6, 0), (5, 0), (15, 0)] [(200, 3, 0, 6, 2), (601, 6, 2, 7, 2), (400, 5, 0, 6, 0), (601, 6, 0, 7, 0)] z N xs L2 _ at w2
  generalize am_mna _ a8 9 9 = g2 at w2 ⊢
  skip
  refine g_putRs dX2_init_34 fl_X2_27 rfl (fun q hq => by cases hq; first | exact Or.inl rfl | exact Or.inr ⟨rfl, rfl, rfl⟩) (w2.k (by decide) q2_3_0) rfl rfl ?_
  replace w2 := w2.putR (f := 203) (c := 3) (i := 0) (c' := 8) (i' := 0) (by decide) (Or.inl (by decide)) q2_3_0 e2 (by decide)
  generalize am_sR _ 203 _ _ = g2_34 at w2 ⊢
  skip
  refine g_aload_n dX2_init_37 rfl ?_
  refine g_bipush (v := 9) dX2_init_38 (by decide) ?_
  refine g_newI dX2_init_40 aw_int (by decide) (show _ = 9 by decide) (by decide) (by rw [hR]; exact Nat.le_of_ble_eq_true rfl) (by rw [hR]; exact Nat.le_of_ble_eq_true rfl) (fun b0 hb0 => ?_)
  obtain ⟨L3, w3, e3, k3⟩ := w2.new (c := 10) (i := 0) (k := 11) (n := 9) hb0 (by decide) rfl (by decide) rfl (by decide)
  have q3_3_0 := (k3 (3, 0) (by decide)).trans q2_3_0
  have q3_6_2 := (k3 (6, 2) (by decide)).trans q2_6_2
  have q3_8_0 := (k3 (8, 0) (by decide)).trans e2
  generalize am_nw _ b0 11 9 = g3 at w3 ⊢
  skip
  refine g_putRs dX2_init_42 fl_X2_30 rfl (fun q hq => by cases hq; first | exact Or.inl rfl | exact Or.inr ⟨rfl, rfl, rfl⟩) (w3.k (by decide) q3_3_0) rfl rfl ?_
  replace w3 := w3.putR (f := 204) (c := 3) (i := 0) (c' := 10) (i' := 0) (by decide) (Or.inl (by decide)) q3_3_0 e3 (by decide)
  generalize am_sR _ 204 _ _ = g3_42 at w3 ⊢
  skip
  refine g_aload_n dX2_init_45 rfl ?_
  refine g_bipush (v := 9) dX2_init_46 (by decide) ?_
  refine g_newI dX2_init_48 aw_int (by decide) (show _ = 9 by decide) (by decide) (by rw [hR]; exact Nat.le_of_ble_eq_true rfl) (by rw [hR]; exact Nat.le_of_ble_eq_true rfl) (fun b1 hb1 => ?_)
  obtain ⟨L4, w4, e4, k4⟩ := w3.new (c := 10) (i := 1) (k := 11) (n := 9) hb1 (by decide) rfl (by decide) rfl (by decide)
  have q4_3_0 := (k4 (3, 0) (by decide)).trans q3_3_0
  have q4_6_2 := (k4 (6, 2) (by decide)).trans q3_6_2
  have q4_8_0 := (k4 (8, 0) (by decide)).trans q3_8_0
  have q4_10_0 := (k4 (10, 0) (by decide)).trans e3
  generalize am_nw _ b1 11 9 = g4 at w4 ⊢
  skip
  refine g_putRs dX2_init_50 fl_X2_34 rfl (fun q hq => by cases hq; first | exact Or.inl rfl | exact Or.inr ⟨rfl, rfl, rfl⟩) (w4.k (by decide) q4_3_0) rfl rfl ?_
  replace w4 := w4.putR (f := 205) (c := 3) (i := 0) (c' := 10) (i' := 1) (by decide) (Or.inl (by decide)) q4_3_0 e4 (by decide)
  generalize am_sR _ 205 _ _ = g4_50 at w4 ⊢
  skip
  refine g_aload_n dX2_init_53 rfl ?_
  refine g_bipush (v := 9) dX2_init_54 (by decide) ?_
  refine g_newI dX2_init_56 aw_int (by decide) (show _ = 9 by decide) (by decide) (by rw [hR]; exact Nat.le_of_ble_eq_true rfl) (by rw [hR]; exact Nat.le_of_ble_eq_true rfl) (fun b2 hb2 => ?_)
  obtain ⟨L5, w5, e5, k5⟩ := w4.new (c := 10) (i := 2) (k := 11) (n := 9) hb2 (by decide) rfl (by decide) rfl (by decide)
  have q5_3_0 := (k5 (3, 0) (by decide)).trans q4_3_0
  have q5_6_2 := (k5 (6, 2) (by decide)).trans q4_6_2
  have q5_8_0 := (k5 (8, 0) (by decide)).trans q4_8_0
  have q5_10_0 := (k5 (10, 0) (by decide)).trans q4_10_0
  have q5_10_1 := (k5 (10, 1) (by decide)).trans e4
  generalize am_nw _ b2 11 9 = g5 at w5 ⊢
  skip
  refine g_putRs dX2_init_58 fl_X2_37 rfl (fun q hq => by cases hq; first | exact Or.inl rfl | exact Or.inr ⟨rfl, rfl, rfl⟩) (w5.k (by decide) q5_3_0) rfl rfl ?_
  replace w5 := w5.putR (f := 206) (c := 3) (i := 0) (c' := 10) (i' := 2) (by decide) (Or.inl (by decide)) q5_3_0 e5 (by decide)
  generalize am_sR _ 206 _ _ = g5_58 at w5 ⊢
  skip
  rw [hQ]
  refine g_vret dX2_init_61 rfl (by decide) (by decide) ?_
  exact ⟨rfl, L5, w5, fun q hq => by rw [k5 q (by revert hq; revert q; decide), k4 q (by revert hq; revert q; decide), k3 q (by revert hq; revert q; decide), k2 q (by revert hq; revert q; decide), k1 q (by revert hq; revert q; decide)]⟩
set_option maxRecDepth 100000 in
set_option maxHeartbeats 4000000 in
theorem c_X4_init {l : Launch} (hlt : l.stackTraces = false) {h : am_H} {z N m : Nat} {xs : Nat → Int32} {L : Nat → Nat → Nat} (w0 : PW [(5, 0), (15, 0)] [] z N xs L h) (hm0 : L 5 0 = m)  : am_Con l yX4_init (.code yX4_init cX4_init 1 none) 5 17 133 [.ref m] h (fun v h' => v = none ∧ ∃ L' : Nat → Nat → Nat, PW [(6, 1), (10, 2), (10, 1), (10, 0), (8, 0), (9, 0), (9, 1), (9, 2), (9, 3), (9, 4), (9, 5), (9, 6), (9, 7), (9, 8), (6, 2), (3, 0), (6, 0), (5, 0), (15, 0)] [(402, 5, 0, 6, 1), (601, 6, 1, 7, 1), (401, 5, 0, 3, 0), (206, 3, 0, 10, 2), (205, 3, 0, 10, 1), (204, 3, 0, 10, 0), (203, 3, 0, 8, 0), (200, 3, 0, 6, 2), (601, 6, 2, 7, 2), (400, 5, 0, 6, 0), (601, 6, 0, 7, 0)] z N xs L' h' ∧ ∀ q ∈ ([(5, 0), (15, 0)] : List (Nat × Nat)), L' q.1 q.2 = L q.1 q.2) (fun _ _ => False) := by
  refine am_body hlt (by decide +kernel) (Nat.le_of_ble_eq_true rfl) (fun k hl hR h0 hno => ?_)
  subst hl
  obtain ⟨Qf, hQ⟩ : ∃ Qf, Qf = am_Q k 17 133 (fun v h' => v = none ∧ ∃ L' : Nat → Nat → Nat, PW [(6, 1), (10, 2), (10, 1), (10, 0), (8, 0), (9, 0), (9, 1), (9, 2), (9, 3), (9, 4), (9, 5), (9, 6), (9, 7), (9, 8), (6, 2), (3, 0), (6, 0), (5, 0), (15, 0)] [(402, 5, 0, 6, 1), (601, 6, 1, 7, 1), (401, 5, 0, 3, 0), (206, 3, 0, 10, 2), (205, 3, 0, 10, 1), (204, 3, 0, 10, 0), (203, 3, 0, 8, 0), (200, 3, 0, 6, 2), (601, 6, 2, 7, 2), (400, 5, 0, 6, 0), (601, 6, 0, 7, 0)] z N xs L' h' ∧ ∀ q ∈ ([(5, 0), (15, 0)] : List (Nat × Nat)), L' q.1 q.2 = L q.1 q.2) (fun _ _ => False) := ⟨_, rfl⟩
  rw [← hQ]
  refine g_aload_n dX4_init_0 rfl ?_
  refine g_objInit dX4_init_1 oi_X4 oi_i oi_c (by rw [hR]; exact Nat.le_of_ble_eq_true rfl) (by rw [hR]; exact Nat.le_of_ble_eq_true rfl) ?_
  refine g_aload_n dX4_init_4 rfl ?_
  refine g_new dX4_init_5 cl_AL kl_X4_9 (by rw [hR]; exact Nat.le_of_ble_eq_true rfl) (by rw [hR]; exact Nat.le_of_ble_eq_true rfl) (fun a1 ha1 => ?_)
  obtain ⟨L1, w1, e1, k1⟩ := w0.new (c := 6) (i := 0) (k := 7) (n := 0) ha1 (by decide) rfl (by decide) rfl (by decide)
  have q1_5_0 := (k1 (5, 0) (by decide)).trans hm0
  generalize am_nw _ a1 7 0 = g1 at w1 ⊢
  skip
  refine g_dup dX4_init_8 rfl ?_
  refine g_callI [] dX4_init_9 mc_X4_11 mi_Jx4a65c_init_da8c8 rfl (c_AL_init hlt (w1.k (by decide) e1)) rfl (Nat.le_of_ble_eq_true rfl) (am_rm hR (by decide)) (fun _ _ z => z) (fun v9 hx9 hq hE => ?_)
  obtain ⟨rfl, z9, hz9, hu9, rfl⟩ := hq
  replace w1 := w1.al (t := 0) (by decide) e1 hu9 (by decide)
  generalize am_sR _ 601 _ _ = g1_9 at w1 ⊢
  skip
  refine g_putRs dX4_init_12 fl_X4_12 rfl (fun q hq => by cases hq; first | exact Or.inl rfl | exact Or.inr ⟨rfl, rfl, rfl⟩) (w1.k (by decide) q1_5_0) rfl rfl ?_
  replace w1 := w1.putR (f := 400) (c := 5) (i := 0) (c' := 6) (i' := 0) (by decide) (Or.inl (by decide)) q1_5_0 e1 (by decide)
  generalize am_sR _ 400 _ _ = g1_12 at w1 ⊢
  skip
  refine g_aload_n dX4_init_15 rfl ?_
  refine g_new dX4_init_16 cl_X2 kl_X4_16 (by rw [hR]; exact Nat.le_of_ble_eq_true rfl) (by rw [hR]; exact Nat.le_of_ble_eq_true rfl) (fun a2 ha2 => ?_)
  obtain ⟨L2, w2, e2, k2⟩ := w1.new (c := 3) (i := 0) (k := 3) (n := 0) ha2 (by decide) rfl (by decide) rfl (by decide)
  have q2_5_0 := (k2 (5, 0) (by decide)).trans q1_5_0
  have q2_6_0 := (k2 (6, 0) (by decide)).trans e1
  generalize am_nw _ a2 3 0 = g2 at w2 ⊢
  skip
  refine g_dup dX4_init_19 rfl ?_
  refine g_callIN [] dX4_init_20 (fun U hU => hU.2.1) cw_X2 cl_X2.2.2.2.2.2 (by decide) rfl mi_X2_init rfl (c_X2_init hlt w2 e2) rfl (Nat.le_of_ble_eq_true rfl) (am_rm hR (by decide)) (fun _ _ z => z) (fun v20 hx20 hq hE => ?_)
  obtain ⟨rfl, L3, w3, k3⟩ := hq
  have q3_5_0 := (k3 (5, 0) (by decide)).trans q2_5_0
  have q3_6_0 := (k3 (6, 0) (by decide)).trans q2_6_0
  have q3_3_0 := (k3 (3, 0) (by decide)).trans e2
  skip
  refine g_putRs dX4_init_23 fl_X4_19 rfl (fun q hq => by cases hq; first | exact Or.inl rfl | exact Or.inr ⟨rfl, rfl, rfl⟩) (w3.k (by decide) q3_5_0) rfl rfl ?_
  replace w3 := w3.putR (f := 401) (c := 5) (i := 0) (c' := 3) (i' := 0) (by decide) (Or.inl (by decide)) q3_5_0 q3_3_0 (by decide)
  generalize am_sR _ 401 _ _ = g3_23 at w3 ⊢
  skip
  refine g_aload_n dX4_init_26 rfl ?_
  refine g_new dX4_init_27 cl_AL kl_X4_9 (by rw [hR]; exact Nat.le_of_ble_eq_true rfl) (by rw [hR]; exact Nat.le_of_ble_eq_true rfl) (fun a3 ha3 => ?_)
  obtain ⟨L4, w4, e4, k4⟩ := w3.new (c := 6) (i := 1) (k := 7) (n := 0) ha3 (by decide) rfl (by decide) rfl (by decide)
  have q4_5_0 := (k4 (5, 0) (by decide)).trans q3_5_0
  have q4_6_0 := (k4 (6, 0) (by decide)).trans q3_6_0
  have q4_3_0 := (k4 (3, 0) (by decide)).trans q3_3_0
  generalize am_nw _ a3 7 0 = g4 at w4 ⊢
  skip
  refine g_dup dX4_init_30 rfl ?_
  refine g_callI [] dX4_init_31 mc_X4_11 mi_Jx4a65c_init_da8c8 rfl (c_AL_init hlt (w4.k (by decide) e4)) rfl (Nat.le_of_ble_eq_true rfl) (am_rm hR (by decide)) (fun _ _ z => z) (fun v31 hx31 hq hE => ?_)
  obtain ⟨rfl, z31, hz31, hu31, rfl⟩ := hq
  replace w4 := w4.al (t := 1) (by decide) e4 hu31 (by decide)
  generalize am_sR _ 601 _ _ = g4_31 at w4 ⊢
  skip
  refine g_putRs dX4_init_34 fl_X4_23 rfl (fun q hq => by cases hq; first | exact Or.inl rfl | exact Or.inr ⟨rfl, rfl, rfl⟩) (w4.k (by decide) q4_5_0) rfl rfl ?_
  replace w4 := w4.putR (f := 402) (c := 5) (i := 0) (c' := 6) (i' := 1) (by decide) (Or.inl (by decide)) q4_5_0 e4 (by decide)
  generalize am_sR _ 402 _ _ = g4_34 at w4 ⊢
  skip
  refine g_aload_n dX4_init_37 rfl ?_
  refine g_iconst (v := 0) dX4_init_38 (by decide) ?_
  refine g_putI dX4_init_39 fl_X4_26 rfl (fun q hq => by cases hq; first | exact Or.inl rfl | exact Or.inr ⟨rfl, rfl, rfl⟩) (w4.k (by decide) q4_5_0) rfl rfl ?_
  replace w4 := w4.putI (f := 403) (a := m)
  generalize am_sI _ 403 _ 0 = g4_39 at w4 ⊢
  skip
  refine g_aload_n dX4_init_42 rfl ?_
  refine g_iconst (v := 0) dX4_init_43 (by decide) ?_
  refine g_putI dX4_init_44 fl_X4_30 rfl (fun q hq => by cases hq; first | exact Or.inl rfl | exact Or.inr ⟨rfl, rfl, rfl⟩) (w4.k (by decide) q4_5_0) rfl rfl ?_
  replace w4 := w4.putI (f := 404) (a := m)
  generalize am_sI _ 404 _ 0 = g4_44 at w4 ⊢
  skip
  refine g_aload_n dX4_init_47 rfl ?_
  refine g_iconst (v := 0) dX4_init_48 (by decide) ?_
  refine g_putI dX4_init_49 fl_X4_33 rfl (fun q hq => by cases hq; first | exact Or.inl rfl | exact Or.inr ⟨rfl, rfl, rfl⟩) (w4.k (by decide) q4_5_0) rfl rfl ?_
  replace w4 := w4.putI (f := 405) (a := m)
  generalize am_sI _ 405 _ 0 = g4_49 at w4 ⊢
  skip
  refine g_aload_n dX4_init_52 rfl ?_
  refine g_iconst (v := 0) dX4_init_53 (by decide) ?_
  refine g_putI dX4_init_54 fl_X4_37 rfl (fun q hq => by cases hq; first | exact Or.inl rfl | exact Or.inr ⟨rfl, rfl, rfl⟩) (w4.k (by decide) q4_5_0) rfl rfl ?_
  replace w4 := w4.putI (f := 406) (a := m)
  generalize am_sI _ 406 _ 0 = g4_54 at w4 ⊢
  skip
  refine g_aload_n dX4_init_57 rfl ?_
  refine g_iconst (v := 0) dX4_init_58 (by decide) ?_
  refine g_putI dX4_init_59 fl_X4_40 rfl (fun q hq => by cases hq; first | exact Or.inl rfl | exact Or.inr ⟨rfl, rfl, rfl⟩) (w4.k (by decide) q4_5_0) rfl rfl ?_
  replace w4 := w4.putI (f := 407) (a := m)
  generalize am_sI _ 407 _ 0 = g4_59 at w4 ⊢
  skip
  refine g_aload_n dX4_init_62 rfl ?_
  refine g_iconst (v := 0) dX4_init_63 (by decide) ?_
  refine g_putI dX4_init_64 fl_X4_43 rfl (fun q hq => by cases hq; first | exact Or.inl rfl | exact Or.inr ⟨rfl, rfl, rfl⟩) (w4.k (by decide) q4_5_0) rfl rfl ?_
  replace w4 := w4.putI (f := 408) (a := m)
  generalize am_sI _ 408 _ 0 = g4_64 at w4 ⊢
  skip
  rw [hQ]
  refine g_vret dX4_init_67 rfl (by decide) (by decide) ?_
  exact ⟨rfl, L4, w4, fun q hq => by rw [k4 q (by revert hq; revert q; decide), k3 q (by revert hq; revert q; decide), k2 q (by revert hq; revert q; decide), k1 q (by revert hq; revert q; decide)]⟩
