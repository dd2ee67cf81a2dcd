set_option maxRecDepth 100000 in
set_option maxHeartbeats 4000000 in
theorem c_X2_init {l : Launch} (hlt : l.stackTraces = false) {h : am_H} {z N m : Nat} {xs : Nat → Int32} {L : Nat → Nat → Nat} (w0 : PW [(3, 0), (6, 0), (5, 0), (15, 0)] [(400, 5, 0, 6, 0), (601, 6, 0, 7, 0)] z N xs L h) (hm0 : L 3 0 = m)  : am_Con l yX2_init (.code yX2_init cX2_init 1 none) 4 14 120 [.ref m] h (fun v h' => v = none ∧ ∃ L' : Nat → Nat → Nat, PW [(10, 2), (10, 1), (10, 0), (8, 0), (9, 0), (9, 1), (9, 2), (9, 3), (9, 4), (9, 5), (9, 6), (9, 7), (9, 8), (6, 2), (3, 0), (6, 0), (5, 0), (15, 0)] [(206, 3, 0, 10, 2), (205, 3, 0, 10, 1), (204, 3, 0, 10, 0), (203, 3, 0, 8, 0), (200, 3, 0, 6, 2), (601, 6, 2, 7, 2), (400, 5, 0, 6, 0), (601, 6, 0, 7, 0)] z N xs L' h' ∧ ∀ q ∈ ([(3, 0), (6, 0), (5, 0), (15, 0)] : List (Nat × Nat)), L' q.1 q.2 = L q.1 q.2) (fun _ _ => False) := by
  refine am_body hlt (by decide +kernel) (Nat.le_of_ble_eq_true rfl) (fun k hl hR h0 hno => ?_)
  subst hl
  obtain ⟨Qf, hQ⟩ : ∃ Qf, Qf = am_Q k 14 120 (fun v h' => v = none ∧ ∃ L' : Nat → Nat → Nat, PW [(10, 2), (10, 1), (10, 0), (8, 0), (9, 0), (9, 1), (9, 2), (9, 3), (9, 4), (9, 5), (9, 6), (9, 7), (9, 8), (6, 2), (3, 0), (6, 0), (5, 0), (15, 0)] [(206, 3, 0, 10, 2), (205, 3, 0, 10, 1), (204, 3, 0, 10, 0), (203, 3, 0, 8, 0), (200, 3, 0, 6, 2), (601, 6, 2, 7, 2), (400, 5, 0, 6, 0), (601, 6, 0, 7, 0)] z N xs L' h' ∧ ∀ q ∈ ([(3, 0), (6, 0), (5, 0), (15, 0)] : List (Nat × Nat)), L' q.1 q.2 = L q.1 q.2) (fun _ _ => False) := ⟨_, rfl⟩
  rw [← hQ]
  refine g_aload_n dX2_init_0 rfl ?_
  refine g_objInit dX2_init_1 oi_X2 oi_i oi_c (by rw [hR]; exact Nat.le_of_ble_eq_true rfl) (by rw [hR]; exact Nat.le_of_ble_eq_true rfl) ?_
  refine g_aload_n dX2_init_4 rfl ?_
  refine g_new dX2_init_5 cl_AL kl_X2_9 (by rw [hR]; exact Nat.le_of_ble_eq_true rfl) (by rw [hR]; exact Nat.le_of_ble_eq_true rfl) (fun a1 ha1 => ?_)
  obtain ⟨L1, w1, e1, k1⟩ := w0.new (c := 6) (i := 2) (k := 7) (n := 0) ha1 (by decide) rfl (by decide) rfl (by decide)
  have q1_3_0 := (k1 (3, 0) (by decide)).trans hm0
  generalize am_nw _ a1 7 0 = g1 at w1 ⊢
  skip
  refine g_dup dX2_init_8 rfl ?_
  refine g_callI [] dX2_init_9 mc_X2_11 mi_Jx4a65c_init_da8c8 rfl (c_AL_init hlt (w1.k (by decide) e1)) rfl (Nat.le_of_ble_eq_true rfl) (am_rm hR (by decide)) (fun _ _ z => z) (fun v9 hx9 hq hE => ?_)
  obtain ⟨rfl, z9, hz9, hu9, rfl⟩ := hq
  replace w1 := w1.al (t := 2) (by decide) e1 hu9 (by decide)
  generalize am_sR _ 601 _ _ = g1_9 at w1 ⊢
  skip
  refine g_putRs dX2_init_12 fl_X2_12 rfl (fun q hq => by cases hq; first | exact Or.inl rfl | exact Or.inr ⟨rfl, rfl, rfl⟩) (w1.k (by decide) q1_3_0) rfl rfl ?_
  replace w1 := w1.putR (f := 200) (c := 3) (i := 0) (c' := 6) (i' := 2) (by decide) (Or.inl (by decide)) q1_3_0 e1 (by decide)
  generalize am_sR _ 200 _ _ = g1_12 at w1 ⊢
  skip
  refine g_aload_n dX2_init_15 rfl ?_
  refine g_iconst (v := 0) dX2_init_16 (by decide) ?_
  refine g_putI dX2_init_17 fl_X2_18 rfl (fun q hq => by cases hq; first | exact Or.inl rfl | exact Or.inr ⟨rfl, rfl, rfl⟩) (w1.k (by decide) q1_3_0) rfl rfl ?_
  replace w1 := w1.putI (f := 201) (a := m)
  generalize am_sI _ 201 _ 0 = g1_17 at w1 ⊢
  skip
  refine g_aload_n dX2_init_20 rfl ?_
  refine g_iconst (v := 0) dX2_init_21 (by decide) ?_
  refine g_putI dX2_init_22 fl_X2_22 rfl (fun q hq => by cases hq; first | exact Or.inl rfl | exact Or.inr ⟨rfl, rfl, rfl⟩) (w1.k (by decide) q1_3_0) rfl rfl ?_
  replace w1 := w1.putI (f := 202) (a := m)
  generalize am_sI _ 202 _ 0 = g1_22 at w1 ⊢
  skip
  refine g_aload_n dX2_init_25 rfl ?_
  refine g_bipush (v := 9) dX2_init_26 (by decide) ?_
  refine g_bipush (v := 9) dX2_init_28 (by decide) ?_
  refine g_newII dX2_init_30 kl_X2_25 aw_int (by decide) (by decide) (show _ = 9 by decide) (show _ = 9 by decide) (by decide) (by decide) (by decide) (by rw [hR]; exact Nat.le_of_ble_eq_true rfl) (by rw [hR]; exact Nat.le_of_ble_eq_true rfl) (fun a8 ha8 => ?_)
  obtain ⟨L2, w2, e2, k2⟩ := w1.mna ha8 (by decide)
  have q2_3_0 := (k2 (3, 0) (by decide)).trans q1_3_0
  have q2_6_2 := (k2 (6, 2) (by decide)).trans e1
  change PW [(8, 0), (9, 0), (9, 1), (9, 2), (9, 3), (9, 4), (9, 5), (9, 6), (9, 7), (9, 8), (6, 2), (3, 0), (6, 0), (5, 0), (15, 0)] [(200, 3, 0, 6, 2), (601, 6, 2, 7, 2), (400, 5, 0, 6, 0), (601, 6, 0, 7, 0)] z N xs L2 _ at w2
  generalize am_mna _ a8 9 9 = g2 at w2 ⊢
  skip
  refine g_putRs dX2_init_34 fl_X2_27 rfl (fun q hq => by cases hq; first | exact Or.inl rfl | exact Or.inr ⟨rfl, rfl, rfl⟩) (w2.k (by decide) q2_3_0) rfl rfl ?_
  replace w2 := w2.putR (f := 203) (c := 3) (i := 0) (c' := 8) (i' := 0) (by decide) (Or.inl (by decide)) q2_3_0 e2 (by decide)
  generalize am_sR _ 203 _ _ = g2_34 at w2 ⊢
  skip
  refine g_aload_n dX2_init_37 rfl ?_
  refine g_bipush (v := 9) dX2_init_38 (by decide) ?_
  refine g_newI dX2_init_40 aw_int (by decide) (show _ = 9 by decide) (by decide) (by rw [hR]; exact Nat.le_of_ble_eq_true rfl) (by rw [hR]; exact Nat.le_of_ble_eq_true rfl) (fun b0 hb0 => ?_)
  obtain ⟨L3, w3, e3, k3⟩ := w2.new (c := 10) (i := 0) (k := 11) (n := 9) hb0 (by decide) rfl (by decide) rfl (by decide)
  have q3_3_0 := (k3 (3, 0) (by decide)).trans q2_3_0
  have q3_6_2 := (k3 (6, 2) (by decide)).trans q2_6_2
  have q3_8_0 := (k3 (8, 0) (by decide)).trans e2
  generalize am_nw _ b0 11 9 = g3 at w3 ⊢
  skip
  refine g_putRs dX2_init_42 fl_X2_30 rfl (fun q hq => by cases hq; first | exact Or.inl rfl | exact Or.inr ⟨rfl, rfl, rfl⟩) (w3.k (by decide) q3_3_0) rfl rfl ?_
  replace w3 := w3.putR (f := 204) (c := 3) (i := 0) (c' := 10) (i' := 0) (by decide) (Or.inl (by decide)) q3_3_0 e3 (by decide)
  generalize am_sR _ 204 _ _ = g3_42 at w3 ⊢
  skip
  refine g_aload_n dX2_init_45 rfl ?_
  refine g_bipush (v := 9) dX2_init_46 (by decide) ?_
  refine g_newI dX2_init_48 aw_int (by decide) (show _ = 9 by decide) (by decide) (by rw [hR]; exact Nat.le_of_ble_eq_true rfl) (by rw [hR]; exact Nat.le_of_ble_eq_true rfl) (fun b1 hb1 => ?_)
  obtain ⟨L4, w4, e4, k4⟩ := w3.new (c := 10) (i := 1) (k := 11) (n := 9) hb1 (by decide) rfl (by decide) rfl (by decide)
  have q4_3_0 := (k4 (3, 0) (by decide)).trans q3_3_0
  have q4_6_2 := (k4 (6, 2) (by decide)).trans q3_6_2
  have q4_8_0 := (k4 (8, 0) (by decide)).trans q3_8_0
  have q4_10_0 := (k4 (10, 0) (by decide)).trans e3
  generalize am_nw _ b1 11 9 = g4 at w4 ⊢
  skip
  refine g_putRs dX2_init_50 fl_X2_34 rfl (fun q hq => by cases hq; first | exact Or.inl rfl | exact Or.inr ⟨rfl, rfl, rfl⟩) (w4.k (by decide) q4_3_0) rfl rfl ?_
  replace w4 := w4.putR (f := 205) (c := 3) (i := 0) (c' := 10) (i' := 1) (by decide) (Or.inl (by decide)) q4_3_0 e4 (by decide)
  generalize am_sR _ 205 _ _ = g4_50 at w4 ⊢
  skip
  refine g_aload_n dX2_init_53 rfl ?_
  refine g_bipush (v := 9) dX2_init_54 (by decide) ?_
  refine g_newI dX2_init_56 aw_int (by decide) (show _ = 9 by decide) (by decide) (by rw [hR]; exact Nat.le_of_ble_eq_true rfl) (by rw [hR]; exact Nat.le_of_ble_eq_true rfl) (fun b2 hb2 => ?_)
  obtain ⟨L5, w5, e5, k5⟩ := w4.new (c := 10) (i := 2) (k := 11) (n := 9) hb2 (by decide) rfl (by decide) rfl (by decide)
  have q5_3_0 := (k5 (3, 0) (by decide)).trans q4_3_0
  have q5_6_2 := (k5 (6, 2) (by decide)).trans q4_6_2
  have q5_8_0 := (k5 (8, 0) (by decide)).trans q4_8_0
  have q5_10_0 := (k5 (10, 0) (by decide)).trans q4_10_0
  have q5_10_1 := (k5 (10, 1) (by decide)).trans e4
  generalize am_nw _ b2 11 9 = g5 at w5 ⊢
  skip
  refine g_putRs dX2_init_58 fl_X2_37 rfl (fun q hq => by cases hq; first | exact Or.inl rfl | exact Or.inr ⟨rfl, rfl, rfl⟩) (w5.k (by decide) q5_3_0) rfl rfl ?_
  replace w5 := w5.putR (f := 206) (c := 3) (i := 0) (c' := 10) (i' := 2) (by decide) (Or.inl (by decide)) q5_3_0 e5 (by decide)
  generalize am_sR _ 206 _ _ = g5_58 at w5 ⊢
  skip
  rw [hQ]
  refine g_vret dX2_init_61 rfl (by decide) (by decide) ?_
  exact ⟨rfl, L5, w5, fun q hq => by rw [k5 q (by revert hq; revert q; decide), k4 q (by revert hq; revert q; decide), k3 q (by revert hq; revert q; decide), k2 q (by revert hq; revert q; decide), k1 q (by revert hq; revert q; decide)]⟩
set_option maxRecDepth 100000 in
set_option maxHeartbeats 4000000 in
theorem c_X4_init {l : Launch} (hlt : l.stackTraces = false) {h : am_H} {z N m : Nat} {xs : Nat → Int32} {L : Nat → Nat → Nat} (w0 : PW [(5, 0), (15, 0)] [] z N xs L h) (hm0 : L 5 0 = m)  : am_Con l yX4_init (.code yX4_init cX4_init 1 none) 5 17 133 [.ref m] h (fun v h' => v = none ∧ ∃ L' : Nat → Nat → Nat, PW [(6, 1), (10, 2), (10, 1), (10, 0), (8, 0), (9, 0), (9, 1), (9, 2), (9, 3), (9, 4), (9, 5), (9, 6), (9, 7), (9, 8), (6, 2), (3, 0), (6, 0), (5, 0), (15, 0)] [(402, 5, 0, 6, 1), (601, 6, 1, 7, 1), (401, 5, 0, 3, 0), (206, 3, 0, 10, 2), (205, 3, 0, 10, 1), (204, 3, 0, 10, 0), (203, 3, 0, 8, 0), (200, 3, 0, 6, 2), (601, 6, 2, 7, 2), (400, 5, 0, 6, 0), (601, 6, 0, 7, 0)] z N xs L' h' ∧ ∀ q ∈ ([(5, 0), (15, 0)] : List (Nat × Nat)), L' q.1 q.2 = L q.1 q.2) (fun _ _ => False) := by
  refine am_body hlt (by decide +kernel) (Nat.le_of_ble_eq_true rfl) (fun k hl hR h0 hno => ?_)
  subst hl
  obtain ⟨Qf, hQ⟩ : ∃ Qf, Qf = am_Q k 17 133 (fun v h' => v = none ∧ ∃ L' : Nat → Nat → Nat, PW [(6, 1), (10, 2), (10, 1), (10, 0), (8, 0), (9, 0), (9, 1), (9, 2), (9, 3), (9, 4), (9, 5), (9, 6), (9, 7), (9, 8), (6, 2), (3, 0), (6, 0), (5, 0), (15, 0)] [(402, 5, 0, 6, 1), (601, 6, 1, 7, 1), (401, 5, 0, 3, 0), (206, 3, 0, 10, 2), (205, 3, 0, 10, 1), (204, 3, 0, 10, 0), (203, 3, 0, 8, 0), (200, 3, 0, 6, 2), (601, 6, 2, 7, 2), (400, 5, 0, 6, 0), (601, 6, 0, 7, 0)] z N xs L' h' ∧ ∀ q ∈ ([(5, 0), (15, 0)] : List (Nat × Nat)), L' q.1 q.2 = L q.1 q.2) (fun _ _ => False) := ⟨_, rfl⟩
  rw [← hQ]
  refine g_aload_n dX4_init_0 rfl ?_
  refine g_objInit dX4_init_1 oi_X4 oi_i oi_c (by rw [hR]; exact Nat.le_of_ble_eq_true rfl) (by rw [hR]; exact Nat.le_of_ble_eq_true rfl) ?_
  refine g_aload_n dX4_init_4 rfl ?_
  refine g_new dX4_init_5 cl_AL kl_X4_9 (by rw [hR]; exact Nat.le_of_ble_eq_true rfl) (by rw [hR]; exact Nat.le_of_ble_eq_true rfl) (fun a1 ha1 => ?_)
  obtain ⟨L1, w1, e1, k1⟩ := w0.new (c := 6) (i := 0) (k := 7) (n := 0) ha1 (by decide) rfl (by decide) rfl (by decide)
  have q1_5_0 := (k1 (5, 0) (by decide)).trans hm0
  generalize am_nw _ a1 7 0 = g1 at w1 ⊢
  skip
  refine g_dup dX4_init_8 rfl ?_
  refine g_callI [] dX4_init_9 mc_X4_11 mi_Jx4a65c_init_da8c8 rfl (c_AL_init hlt (w1.k (by decide) e1)) rfl (Nat.le_of_ble_eq_true rfl) (am_rm hR (by decide)) (fun _ _ z => z) (fun v9 hx9 hq hE => ?_)
  obtain ⟨rfl, z9, hz9, hu9, rfl⟩ := hq
  replace w1 := w1.al (t := 0) (by decide) e1 hu9 (by decide)
  generalize am_sR _ 601 _ _ = g1_9 at w1 ⊢
  skip
  refine g_putRs dX4_init_12 fl_X4_12 rfl (fun q hq => by cases hq; first | exact Or.inl rfl | exact Or.inr ⟨rfl, rfl, rfl⟩) (w1.k (by decide) q1_5_0) rfl rfl ?_
  replace w1 := w1.putR (f := 400) (c := 5) (i := 0) (c' := 6) (i' := 0) (by decide) (Or.inl (by decide)) q1_5_0 e1 (by decide)
  generalize am_sR _ 400 _ _ = g1_12 at w1 ⊢
  skip
  refine g_aload_n dX4_init_15 rfl ?_
  refine g_new dX4_init_16 cl_X2 kl_X4_16 (by rw [hR]; exact Nat.le_of_ble_eq_true rfl) (by rw [hR]; exact Nat.le_of_ble_eq_true rfl) (fun a2 ha2 => ?_)
  obtain ⟨L2, w2, e2, k2⟩ := w1.new (c := 3) (i := 0) (k := 3) (n := 0) ha2 (by decide) rfl (by decide) rfl (by decide)
  have q2_5_0 := (k2 (5, 0) (by decide)).trans q1_5_0
  have q2_6_0 := (k2 (6, 0) (by decide)).trans e1
  generalize am_nw _ a2 3 0 = g2 at w2 ⊢
  skip
  refine g_dup dX4_init_19 rfl ?_
  refine g_callIN [] dX4_init_20 (fun U hU => hU.2.1) cw_X2 cl_X2.2.2.2.2.2 (by decide) rfl mi_X2_init rfl (c_X2_init hlt w2 e2) rfl (Nat.le_of_ble_eq_true rfl) (am_rm hR (by decide)) (fun _ _ z => z) (fun v20 hx20 hq hE => ?_)
  obtain ⟨rfl, L3, w3, k3⟩ := hq
  have q3_5_0 := (k3 (5, 0) (by decide)).trans q2_5_0
  have q3_6_0 := (k3 (6, 0) (by decide)).trans q2_6_0
  have q3_3_0 := (k3 (3, 0) (by decide)).trans e2
  skip
  refine g_putRs dX4_init_23 fl_X4_19 rfl (fun q hq => by cases hq; first | exact Or.inl rfl | exact Or.inr ⟨rfl, rfl, rfl⟩) (w3.k (by decide) q3_5_0) rfl rfl ?_
  replace w3 := w3.putR (f := 401) (c := 5) (i := 0) (c' := 3) (i' := 0) (by decide) (Or.inl (by decide)) q3_5_0 q3_3_0 (by decide)
  generalize am_sR _ 401 _ _ = g3_23 at w3 ⊢
  skip
  refine g_aload_n dX4_init_26 rfl ?_
  refine g_new dX4_init_27 cl_AL kl_X4_9 (by rw [hR]; exact Nat.le_of_ble_eq_true rfl) (by rw [hR]; exact Nat.le_of_ble_eq_true rfl) (fun a3 ha3 => ?_)
  obtain ⟨L4, w4, e4, k4⟩ := w3.new (c := 6) (i := 1) (k := 7) (n := 0) ha3 (by decide) rfl (by decide) rfl (by decide)
  have q4_5_0 := (k4 (5, 0) (by decide)).trans q3_5_0
  have q4_6_0 := (k4 (6, 0) (by decide)).trans q3_6_0
  have q4_3_0 := (k4 (3, 0) (by decide)).trans q3_3_0
  generalize am_nw _ a3 7 0 = g4 at w4 ⊢
  skip
  refine g_dup dX4_init_30 rfl ?_
  refine g_callI [] dX4_init_31 mc_X4_11 mi_Jx4a65c_init_da8c8 rfl (c_AL_init hlt (w4.k (by decide) e4)) rfl (Nat.le_of_ble_eq_true rfl) (am_rm hR (by decide)) (fun _ _ z => z) (fun v31 hx31 hq hE => ?_)
  obtain ⟨rfl, z31, hz31, hu31, rfl⟩ := hq
  replace w4 := w4.al (t := 1) (by decide) e4 hu31 (by decide)
  generalize am_sR _ 601 _ _ = g4_31 at w4 ⊢
  skip
  refine g_putRs dX4_init_34 fl_X4_23 rfl (fun q hq => by cases hq; first | exact Or.inl rfl | exact Or.inr ⟨rfl, rfl, rfl⟩) (w4.k (by decide) q4_5_0) rfl rfl ?_
  replace w4 := w4.putR (f := 402) (c := 5) (i := 0) (c' := 6) (i' := 1) (by decide) (Or.inl (by decide)) q4_5_0 e4 (by decide)
  generalize am_sR _ 402 _ _ = g4_34 at w4 ⊢
  skip
  refine g_aload_n dX4_init_37 rfl ?_
  refine g_iconst (v := 0) dX4_init_38 (by decide) ?_
  refine g_putI dX4_init_39 fl_X4_26 rfl (fun q hq => by cases hq; first | exact Or.inl rfl | exact Or.inr ⟨rfl, rfl, rfl⟩) (w4.k (by decide) q4_5_0) rfl rfl ?_
  replace w4 := w4.putI (f := 403) (a := m)
  generalize am_sI _ 403 _ 0 = g4_39 at w4 ⊢
  skip
  refine g_aload_n dX4_init_42 rfl ?_
  refine g_iconst (v := 0) dX4_init_43 (by decide) ?_
  refine g_putI dX4_init_44 fl_X4_30 rfl (fun q hq => by cases hq; first | exact Or.inl rfl | exact Or.inr ⟨rfl, rfl, rfl⟩) (w4.k (by decide) q4_5_0) rfl rfl ?_
  replace w4 := w4.putI (f := 404) (a := m)
  generalize am_sI _ 404 _ 0 = g4_44 at w4 ⊢
  skip
  refine g_aload_n dX4_init_47 rfl ?_
  refine g_iconst (v := 0) dX4_init_48 (by decide) ?_
  refine g_putI dX4_init_49 fl_X4_33 rfl (fun q hq => by cases hq; first | exact Or.inl rfl | exact Or.inr ⟨rfl, rfl, rfl⟩) (w4.k (by decide) q4_5_0) rfl rfl ?_
  replace w4 := w4.putI (f := 405) (a := m)
  generalize am_sI _ 405 _ 0 = g4_49 at w4 ⊢
  skip
  refine g_aload_n dX4_init_52 rfl ?_
  refine g_iconst (v := 0) dX4_init_53 (by decide) ?_
  refine g_putI dX4_init_54 fl_X4_37 rfl (fun q hq => by cases hq; first | exact Or.inl rfl | exact Or.inr ⟨rfl, rfl, rfl⟩) (w4.k (by decide) q4_5_0) rfl rfl ?_
  replace w4 := w4.putI (f := 406) (a := m)
  generalize am_sI _ 406 _ 0 = g4_54 at w4 ⊢
  skip
  refine g_aload_n dX4_init_57 rfl ?_
  refine g_iconst (v := 0) dX4_init_58 (by decide) ?_
  refine g_putI dX4_init_59 fl_X4_40 rfl (fun q hq => by cases hq; first | exact Or.inl rfl | exact Or.inr ⟨rfl, rfl, rfl⟩) (w4.k (by decide) q4_5_0) rfl rfl ?_
  replace w4 := w4.putI (f := 407) (a := m)
  generalize am_sI _ 407 _ 0 = g4_59 at w4 ⊢
  skip
  refine g_aload_n dX4_init_62 rfl ?_
  refine g_iconst (v := 0) dX4_init_63 (by decide) ?_
  refine g_putI dX4_init_64 fl_X4_43 rfl (fun q hq => by cases hq; first | exact Or.inl rfl | exact Or.inr ⟨rfl, rfl, rfl⟩) (w4.k (by decide) q4_5_0) rfl rfl ?_
  replace w4 := w4.putI (f := 408) (a := m)
  generalize am_sI _ 408 _ 0 = g4_64 at w4 ⊢
  skip
  rw [hQ]
  refine g_vret dX4_init_67 rfl (by decide) (by decide) ?_
  exact ⟨rfl, L4, w4, fun q hq => by rw [k4 q (by revert hq; revert q; decide), k3 q (by revert hq; revert q; decide), k2 q (by revert hq; revert q; decide), k1 q (by revert hq; revert q; decide)]⟩
set_option maxRecDepth 100000 in
set_option maxHeartbeats 4000000 in
theorem c_X5_init {l : Launch} (hlt : l.stackTraces = false) {h : am_H} {z N m : Nat} {xs : Nat → Int32} {L : Nat → Nat → Nat} (w0 : PW [(11, 0), (6, 1), (10, 2), (10, 1), (10, 0), (8, 0), (9, 0), (9, 1), (9, 2), (9, 3), (9, 4), (9, 5), (9, 6), (9, 7), (9, 8), (6, 2), (3, 0), (6, 0), (5, 0), (15, 0)] [(402, 5, 0, 6, 1), (601, 6, 1, 7, 1), (401, 5, 0, 3, 0), (206, 3, 0, 10, 2), (205, 3, 0, 10, 1), (204, 3, 0, 10, 0), (203, 3, 0, 8, 0), (200, 3, 0, 6, 2), (601, 6, 2, 7, 2), (400, 5, 0, 6, 0), (601, 6, 0, 7, 0)] z N xs L h) (hm0 : L 11 0 = m)  : am_Con l yX5_init (.code yX5_init cX5_init 1 none) 1 26 290 [.ref m] h (fun v h' => v = none ∧ ∃ L' : Nat → Nat → Nat, PW [(12, 33), (12, 32), (12, 31), (12, 29), (13, 28), (12, 27), (12, 26), (12, 25), (12, 22), (12, 21), (12, 20), (12, 19), (12, 18), (12, 17), (13, 15), (13, 14), (12, 13), (12, 12), (12, 11), (13, 10), (12, 9), (12, 8), (12, 7), (12, 6), (12, 5), (12, 4), (11, 0), (6, 1), (10, 2), (10, 1), (10, 0), (8, 0), (9, 0), (9, 1), (9, 2), (9, 3), (9, 4), (9, 5), (9, 6), (9, 7), (9, 8), (6, 2), (3, 0), (6, 0), (5, 0), (15, 0)] [(533, 11, 0, 12, 33), (532, 11, 0, 12, 32), (531, 11, 0, 12, 31), (529, 11, 0, 12, 29), (528, 11, 0, 13, 28), (527, 11, 0, 12, 27), (526, 11, 0, 12, 26), (525, 11, 0, 12, 25), (522, 11, 0, 12, 22), (521, 11, 0, 12, 21), (520, 11, 0, 12, 20), (519, 11, 0, 12, 19), (518, 11, 0, 12, 18), (517, 11, 0, 12, 17), (515, 11, 0, 13, 15), (514, 11, 0, 13, 14), (513, 11, 0, 12, 13), (512, 11, 0, 12, 12), (511, 11, 0, 12, 11), (510, 11, 0, 13, 10), (509, 11, 0, 12, 9), (508, 11, 0, 12, 8), (507, 11, 0, 12, 7), (506, 11, 0, 12, 6), (505, 11, 0, 12, 5), (504, 11, 0, 12, 4), (402, 5, 0, 6, 1), (601, 6, 1, 7, 1), (401, 5, 0, 3, 0), (206, 3, 0, 10, 2), (205, 3, 0, 10, 1), (204, 3, 0, 10, 0), (203, 3, 0, 8, 0), (200, 3, 0, 6, 2), (601, 6, 2, 7, 2), (400, 5, 0, 6, 0), (601, 6, 0, 7, 0)] z N xs L' h' ∧ ∀ q ∈ ([(11, 0), (6, 1), (10, 2), (10, 1), (10, 0), (8, 0), (9, 0), (9, 1), (9, 2), (9, 3), (9, 4), (9, 5), (9, 6), (9, 7), (9, 8), (6, 2), (3, 0), (6, 0), (5, 0), (15, 0)] : List (Nat × Nat)), L' q.1 q.2 = L q.1 q.2) (fun _ _ => False) := by
  refine am_body hlt (by decide +kernel) (Nat.le_of_ble_eq_true rfl) (fun k hl hR h0 hno => ?_)
  subst hl
  obtain ⟨Qf, hQ⟩ : ∃ Qf, Qf = am_Q k 26 290 (fun v h' => v = none ∧ ∃ L' : Nat → Nat → Nat, PW [(12, 33), (12, 32), (12, 31), (12, 29), (13, 28), (12, 27), (12, 26), (12, 25), (12, 22), (12, 21), (12, 20), (12, 19), (12, 18), (12, 17), (13, 15), (13, 14), (12, 13), (12, 12), (12, 11), (13, 10), (12, 9), (12, 8), (12, 7), (12, 6), (12, 5), (12, 4), (11, 0), (6, 1), (10, 2), (10, 1), (10, 0), (8, 0), (9, 0), (9, 1), (9, 2), (9, 3), (9, 4), (9, 5), (9, 6), (9, 7), (9, 8), (6, 2), (3, 0), (6, 0), (5, 0), (15, 0)] [(533, 11, 0, 12, 33), (532, 11, 0, 12, 32), (531, 11, 0, 12, 31), (529, 11, 0, 12, 29), (528, 11, 0, 13, 28), (527, 11, 0, 12, 27), (526, 11, 0, 12, 26), (525, 11, 0, 12, 25), (522, 11, 0, 12, 22), (521, 11, 0, 12, 21), (520, 11, 0, 12, 20), (519, 11, 0, 12, 19), (518, 11, 0, 12, 18), (517, 11, 0, 12, 17), (515, 11, 0, 13, 15), (514, 11, 0, 13, 14), (513, 11, 0, 12, 13), (512, 11, 0, 12, 12), (511, 11, 0, 12, 11), (510, 11, 0, 13, 10), (509, 11, 0, 12, 9), (508, 11, 0, 12, 8), (507, 11, 0, 12, 7), (506, 11, 0, 12, 6), (505, 11, 0, 12, 5), (504, 11, 0, 12, 4), (402, 5, 0, 6, 1), (601, 6, 1, 7, 1), (401, 5, 0, 3, 0), (206, 3, 0, 10, 2), (205, 3, 0, 10, 1), (204, 3, 0, 10, 0), (203, 3, 0, 8, 0), (200, 3, 0, 6, 2), (601, 6, 2, 7, 2), (400, 5, 0, 6, 0), (601, 6, 0, 7, 0)] z N xs L' h' ∧ ∀ q ∈ ([(11, 0), (6, 1), (10, 2), (10, 1), (10, 0), (8, 0), (9, 0), (9, 1), (9, 2), (9, 3), (9, 4), (9, 5), (9, 6), (9, 7), (9, 8), (6, 2), (3, 0), (6, 0), (5, 0), (15, 0)] : List (Nat × Nat)), L' q.1 q.2 = L q.1 q.2) (fun _ _ => False) := ⟨_, rfl⟩
  rw [← hQ]
  refine g_aload_n dX5_init_0 rfl ?_
  refine g_objInit dX5_init_1 oi_X5 oi_i oi_c (by rw [hR]; exact Nat.le_of_ble_eq_true rfl) (by rw [hR]; exact Nat.le_of_ble_eq_true rfl) ?_
  refine g_aload_n dX5_init_4 rfl ?_
  refine g_bipush (v := 8) dX5_init_5 (by decide) ?_
  refine g_newI dX5_init_7 aw_int (by decide) (show _ = 8 by decide) (by decide) (by rw [hR]; exact Nat.le_of_ble_eq_true rfl) (by rw [hR]; exact Nat.le_of_ble_eq_true rfl) (fun r4 hr4 => ?_)
  obtain ⟨L1, w1, e1, k1⟩ := w0.new (c := 12) (i := 4) (k := 11) (n := 8) hr4 (by decide) rfl (by decide) rfl (by decide)
  have q1_11_0 := (k1 (11, 0) (by decide)).trans hm0
  generalize am_nw _ r4 11 8 = g1 at w1 ⊢
  skip
  refine g_putRs dX5_init_9 fl_X5_7 rfl (fun q hq => by cases hq; first | exact Or.inl rfl | exact Or.inr ⟨rfl, rfl, rfl⟩) (w1.k (by decide) q1_11_0) rfl rfl ?_
  replace w1 := w1.putR (f := 504) (c := 11) (i := 0) (c' := 12) (i' := 4) (by decide) (Or.inl (by decide)) q1_11_0 e1 (by decide)
  generalize am_sR _ 504 _ _ = g1_9 at w1 ⊢
  skip
  refine g_aload_n dX5_init_12 rfl ?_
  refine g_bipush (v := 8) dX5_init_13 (by decide) ?_
  refine g_newI dX5_init_15 aw_int (by decide) (show _ = 8 by decide) (by decide) (by rw [hR]; exact Nat.le_of_ble_eq_true rfl) (by rw [hR]; exact Nat.le_of_ble_eq_true rfl) (fun r5 hr5 => ?_)
  obtain ⟨L2, w2, e2, k2⟩ := w1.new (c := 12) (i := 5) (k := 11) (n := 8) hr5 (by decide) rfl (by decide) rfl (by decide)
  have q2_11_0 := (k2 (11, 0) (by decide)).trans q1_11_0
  have q2_12_4 := (k2 (12, 4) (by decide)).trans e1
  generalize am_nw _ r5 11 8 = g2 at w2 ⊢
  skip
  refine g_putRs dX5_init_17 fl_X5_13 rfl (fun q hq => by cases hq; first | exact Or.inl rfl | exact Or.inr ⟨rfl, rfl, rfl⟩) (w2.k (by decide) q2_11_0) rfl rfl ?_
  replace w2 := w2.putR (f := 505) (c := 11) (i := 0) (c' := 12) (i' := 5) (by decide) (Or.inl (by decide)) q2_11_0 e2 (by decide)
  generalize am_sR _ 505 _ _ = g2_17 at w2 ⊢
  skip
  refine g_aload_n dX5_init_20 rfl ?_
  refine g_bipush (v := 8) dX5_init_21 (by decide) ?_
  refine g_newI dX5_init_23 aw_int (by decide) (show _ = 8 by decide) (by decide) (by rw [hR]; exact Nat.le_of_ble_eq_true rfl) (by rw [hR]; exact Nat.le_of_ble_eq_true rfl) (fun r6 hr6 => ?_)
  obtain ⟨L3, w3, e3, k3⟩ := w2.new (c := 12) (i := 6) (k := 11) (n := 8) hr6 (by decide) rfl (by decide) rfl (by decide)
  have q3_11_0 := (k3 (11, 0) (by decide)).trans q2_11_0
  have q3_12_4 := (k3 (12, 4) (by decide)).trans q2_12_4
  have q3_12_5 := (k3 (12, 5) (by decide)).trans e2
  generalize am_nw _ r6 11 8 = g3 at w3 ⊢
  skip
  refine g_putRs dX5_init_25 fl_X5_16 rfl (fun q hq => by cases hq; first | exact Or.inl rfl | exact Or.inr ⟨rfl, rfl, rfl⟩) (w3.k (by decide) q3_11_0) rfl rfl ?_
  replace w3 := w3.putR (f := 506) (c := 11) (i := 0) (c' := 12) (i' := 6) (by decide) (Or.inl (by decide)) q3_11_0 e3 (by decide)
  generalize am_sR _ 506 _ _ = g3_25 at w3 ⊢
  skip
  refine g_aload_n dX5_init_28 rfl ?_
  refine g_bipush (v := 8) dX5_init_29 (by decide) ?_
  refine g_newI dX5_init_31 aw_int (by decide) (show _ = 8 by decide) (by decide) (by rw [hR]; exact Nat.le_of_ble_eq_true rfl) (by rw [hR]; exact Nat.le_of_ble_eq_true rfl) (fun r7 hr7 => ?_)
  obtain ⟨L4, w4, e4, k4⟩ := w3.new (c := 12) (i := 7) (k := 11) (n := 8) hr7 (by decide) rfl (by decide) rfl (by decide)
  have q4_11_0 := (k4 (11, 0) (by decide)).trans q3_11_0
  have q4_12_4 := (k4 (12, 4) (by decide)).trans q3_12_4
  have q4_12_5 := (k4 (12, 5) (by decide)).trans q3_12_5
  have q4_12_6 := (k4 (12, 6) (by decide)).trans e3
  generalize am_nw _ r7 11 8 = g4 at w4 ⊢
  skip
  refine g_putRs dX5_init_33 fl_X5_19 rfl (fun q hq => by cases hq; first | exact Or.inl rfl | exact Or.inr ⟨rfl, rfl, rfl⟩) (w4.k (by decide) q4_11_0) rfl rfl ?_
  replace w4 := w4.putR (f := 507) (c := 11) (i := 0) (c' := 12) (i' := 7) (by decide) (Or.inl (by decide)) q4_11_0 e4 (by decide)
  generalize am_sR _ 507 _ _ = g4_33 at w4 ⊢
  skip
  refine g_aload_n dX5_init_36 rfl ?_
  refine g_bipush (v := 8) dX5_init_37 (by decide) ?_
  refine g_newI dX5_init_39 aw_int (by decide) (show _ = 8 by decide) (by decide) (by rw [hR]; exact Nat.le_of_ble_eq_true rfl) (by rw [hR]; exact Nat.le_of_ble_eq_true rfl) (fun r8 hr8 => ?_)
  obtain ⟨L5, w5, e5, k5⟩ := w4.new (c := 12) (i := 8) (k := 11) (n := 8) hr8 (by decide) rfl (by decide) rfl (by decide)
  have q5_11_0 := (k5 (11, 0) (by decide)).trans q4_11_0
  have q5_12_4 := (k5 (12, 4) (by decide)).trans q4_12_4
  have q5_12_5 := (k5 (12, 5) (by decide)).trans q4_12_5
  have q5_12_6 := (k5 (12, 6) (by decide)).trans q4_12_6
  have q5_12_7 := (k5 (12, 7) (by decide)).trans e4
  generalize am_nw _ r8 11 8 = g5 at w5 ⊢
  skip
  refine g_putRs dX5_init_41 fl_X5_22 rfl (fun q hq => by cases hq; first | exact Or.inl rfl | exact Or.inr ⟨rfl, rfl, rfl⟩) (w5.k (by decide) q5_11_0) rfl rfl ?_
  replace w5 := w5.putR (f := 508) (c := 11) (i := 0) (c' := 12) (i' := 8) (by decide) (Or.inl (by decide)) q5_11_0 e5 (by decide)
  generalize am_sR _ 508 _ _ = g5_41 at w5 ⊢
  skip
  refine g_aload_n dX5_init_44 rfl ?_
  refine g_bipush (v := 8) dX5_init_45 (by decide) ?_
  refine g_newI dX5_init_47 aw_int (by decide) (show _ = 8 by decide) (by decide) (by rw [hR]; exact Nat.le_of_ble_eq_true rfl) (by rw [hR]; exact Nat.le_of_ble_eq_true rfl) (fun r9 hr9 => ?_)
  obtain ⟨L6, w6, e6, k6⟩ := w5.new (c := 12) (i := 9) (k := 11) (n := 8) hr9 (by decide) rfl (by decide) rfl (by decide)
  have q6_11_0 := (k6 (11, 0) (by decide)).trans q5_11_0
  have q6_12_4 := (k6 (12, 4) (by decide)).trans q5_12_4
  have q6_12_5 := (k6 (12, 5) (by decide)).trans q5_12_5
  have q6_12_6 := (k6 (12, 6) (by decide)).trans q5_12_6
  have q6_12_7 := (k6 (12, 7) (by decide)).trans q5_12_7
  have q6_12_8 := (k6 (12, 8) (by decide)).trans e5
  generalize am_nw _ r9 11 8 = g6 at w6 ⊢
  skip
  refine g_putRs dX5_init_49 fl_X5_25 rfl (fun q hq => by cases hq; first | exact Or.inl rfl | exact Or.inr ⟨rfl, rfl, rfl⟩) (w6.k (by decide) q6_11_0) rfl rfl ?_
  replace w6 := w6.putR (f := 509) (c := 11) (i := 0) (c' := 12) (i' := 9) (by decide) (Or.inl (by decide)) q6_11_0 e6 (by decide)
  generalize am_sR _ 509 _ _ = g6_49 at w6 ⊢
  skip
  refine g_aload_n dX5_init_52 rfl ?_
  refine g_bipush (v := 8) dX5_init_53 (by decide) ?_
  refine g_newZ dX5_init_55 aw_boolean (by decide) (show _ = 8 by decide) (by decide) (by rw [hR]; exact Nat.le_of_ble_eq_true rfl) (by rw [hR]; exact Nat.le_of_ble_eq_true rfl) (fun r10 hr10 => ?_)
  obtain ⟨L7, w7, e7, k7⟩ := w6.new (c := 13) (i := 10) (k := 12) (n := 8) hr10 (by decide) rfl (by decide) rfl (by decide)
  have q7_11_0 := (k7 (11, 0) (by decide)).trans q6_11_0
  have q7_12_4 := (k7 (12, 4) (by decide)).trans q6_12_4
  have q7_12_5 := (k7 (12, 5) (by decide)).trans q6_12_5
  have q7_12_6 := (k7 (12, 6) (by decide)).trans q6_12_6
  have q7_12_7 := (k7 (12, 7) (by decide)).trans q6_12_7
  have q7_12_8 := (k7 (12, 8) (by decide)).trans q6_12_8
  have q7_12_9 := (k7 (12, 9) (by decide)).trans e6
  generalize am_nw _ r10 12 8 = g7 at w7 ⊢
  skip
  refine g_putRs dX5_init_57 fl_X5_28 rfl (fun q hq => by cases hq; first | exact Or.inl rfl | exact Or.inr ⟨rfl, rfl, rfl⟩) (w7.k (by decide) q7_11_0) rfl rfl ?_
  replace w7 := w7.putR (f := 510) (c := 11) (i := 0) (c' := 13) (i' := 10) (by decide) (Or.inl (by decide)) q7_11_0 e7 (by decide)
  generalize am_sR _ 510 _ _ = g7_57 at w7 ⊢
  skip
  refine g_aload_n dX5_init_60 rfl ?_
  refine g_bipush (v := 8) dX5_init_61 (by decide) ?_
  refine g_newI dX5_init_63 aw_int (by decide) (show _ = 8 by decide) (by decide) (by rw [hR]; exact Nat.le_of_ble_eq_true rfl) (by rw [hR]; exact Nat.le_of_ble_eq_true rfl) (fun r11 hr11 => ?_)
  obtain ⟨L8, w8, e8, k8⟩ := w7.new (c := 12) (i := 11) (k := 11) (n := 8) hr11 (by decide) rfl (by decide) rfl (by decide)
  have q8_11_0 := (k8 (11, 0) (by decide)).trans q7_11_0
  have q8_12_4 := (k8 (12, 4) (by decide)).trans q7_12_4
  have q8_12_5 := (k8 (12, 5) (by decide)).trans q7_12_5
  have q8_12_6 := (k8 (12, 6) (by decide)).trans q7_12_6
  have q8_12_7 := (k8 (12, 7) (by decide)).trans q7_12_7
  have q8_12_8 := (k8 (12, 8) (by decide)).trans q7_12_8
  have q8_12_9 := (k8 (12, 9) (by decide)).trans q7_12_9
  have q8_13_10 := (k8 (13, 10) (by decide)).trans e7
  generalize am_nw _ r11 11 8 = g8 at w8 ⊢
  skip
  refine g_putRs dX5_init_65 fl_X5_32 rfl (fun q hq => by cases hq; first | exact Or.inl rfl | exact Or.inr ⟨rfl, rfl, rfl⟩) (w8.k (by decide) q8_11_0) rfl rfl ?_
  replace w8 := w8.putR (f := 511) (c := 11) (i := 0) (c' := 12) (i' := 11) (by decide) (Or.inl (by decide)) q8_11_0 e8 (by decide)
  generalize am_sR _ 511 _ _ = g8_65 at w8 ⊢
  skip
  refine g_aload_n dX5_init_68 rfl ?_
  refine g_bipush (v := 8) dX5_init_69 (by decide) ?_
  refine g_newI dX5_init_71 aw_int (by decide) (show _ = 8 by decide) (by decide) (by rw [hR]; exact Nat.le_of_ble_eq_true rfl) (by rw [hR]; exact Nat.le_of_ble_eq_true rfl) (fun r12 hr12 => ?_)
  obtain ⟨L9, w9, e9, k9⟩ := w8.new (c := 12) (i := 12) (k := 11) (n := 8) hr12 (by decide) rfl (by decide) rfl (by decide)
  have q9_11_0 := (k9 (11, 0) (by decide)).trans q8_11_0
  have q9_12_4 := (k9 (12, 4) (by decide)).trans q8_12_4
  have q9_12_5 := (k9 (12, 5) (by decide)).trans q8_12_5
  have q9_12_6 := (k9 (12, 6) (by decide)).trans q8_12_6
  have q9_12_7 := (k9 (12, 7) (by decide)).trans q8_12_7
  have q9_12_8 := (k9 (12, 8) (by decide)).trans q8_12_8
  have q9_12_9 := (k9 (12, 9) (by decide)).trans q8_12_9
  have q9_13_10 := (k9 (13, 10) (by decide)).trans q8_13_10
  have q9_12_11 := (k9 (12, 11) (by decide)).trans e8
  generalize am_nw _ r12 11 8 = g9 at w9 ⊢
  skip
  refine g_putRs dX5_init_73 fl_X5_35 rfl (fun q hq => by cases hq; first | exact Or.inl rfl | exact Or.inr ⟨rfl, rfl, rfl⟩) (w9.k (by decide) q9_11_0) rfl rfl ?_
  replace w9 := w9.putR (f := 512) (c := 11) (i := 0) (c' := 12) (i' := 12) (by decide) (Or.inl (by decide)) q9_11_0 e9 (by decide)
  generalize am_sR _ 512 _ _ = g9_73 at w9 ⊢
  skip
  refine g_aload_n dX5_init_76 rfl ?_
  refine g_bipush (v := 8) dX5_init_77 (by decide) ?_
  refine g_newI dX5_init_79 aw_int (by decide) (show _ = 8 by decide) (by decide) (by rw [hR]; exact Nat.le_of_ble_eq_true rfl) (by rw [hR]; exact Nat.le_of_ble_eq_true rfl) (fun r13 hr13 => ?_)
  obtain ⟨L10, w10, e10, k10⟩ := w9.new (c := 12) (i := 13) (k := 11) (n := 8) hr13 (by decide) rfl (by decide) rfl (by decide)
  have q10_11_0 := (k10 (11, 0) (by decide)).trans q9_11_0
  have q10_12_4 := (k10 (12, 4) (by decide)).trans q9_12_4
  have q10_12_5 := (k10 (12, 5) (by decide)).trans q9_12_5
  have q10_12_6 := (k10 (12, 6) (by decide)).trans q9_12_6
  have q10_12_7 := (k10 (12, 7) (by decide)).trans q9_12_7
  have q10_12_8 := (k10 (12, 8) (by decide)).trans q9_12_8
  have q10_12_9 := (k10 (12, 9) (by decide)).trans q9_12_9
  have q10_13_10 := (k10 (13, 10) (by decide)).trans q9_13_10
  have q10_12_11 := (k10 (12, 11) (by decide)).trans q9_12_11
  have q10_12_12 := (k10 (12, 12) (by decide)).trans e9
  generalize am_nw _ r13 11 8 = g10 at w10 ⊢
  skip
  refine g_putRs dX5_init_81 fl_X5_38 rfl (fun q hq => by cases hq; first | exact Or.inl rfl | exact Or.inr ⟨rfl, rfl, rfl⟩) (w10.k (by decide) q10_11_0) rfl rfl ?_
  replace w10 := w10.putR (f := 513) (c := 11) (i := 0) (c' := 12) (i' := 13) (by decide) (Or.inl (by decide)) q10_11_0 e10 (by decide)
  generalize am_sR _ 513 _ _ = g10_81 at w10 ⊢
  skip
  refine g_aload_n dX5_init_84 rfl ?_
  refine g_bipush (v := 8) dX5_init_85 (by decide) ?_
  refine g_newZ dX5_init_87 aw_boolean (by decide) (show _ = 8 by decide) (by decide) (by rw [hR]; exact Nat.le_of_ble_eq_true rfl) (by rw [hR]; exact Nat.le_of_ble_eq_true rfl) (fun r14 hr14 => ?_)
  obtain ⟨L11, w11, e11, k11⟩ := w10.new (c := 13) (i := 14) (k := 12) (n := 8) hr14 (by decide) rfl (by decide) rfl (by decide)
  have q11_11_0 := (k11 (11, 0) (by decide)).trans q10_11_0
  have q11_12_4 := (k11 (12, 4) (by decide)).trans q10_12_4
  have q11_12_5 := (k11 (12, 5) (by decide)).trans q10_12_5
  have q11_12_6 := (k11 (12, 6) (by decide)).trans q10_12_6
  have q11_12_7 := (k11 (12, 7) (by decide)).trans q10_12_7
  have q11_12_8 := (k11 (12, 8) (by decide)).trans q10_12_8
  have q11_12_9 := (k11 (12, 9) (by decide)).trans q10_12_9
  have q11_13_10 := (k11 (13, 10) (by decide)).trans q10_13_10
  have q11_12_11 := (k11 (12, 11) (by decide)).trans q10_12_11
  have q11_12_12 := (k11 (12, 12) (by decide)).trans q10_12_12
  have q11_12_13 := (k11 (12, 13) (by decide)).trans e10
  generalize am_nw _ r14 12 8 = g11 at w11 ⊢
  skip
  refine g_putRs dX5_init_89 fl_X5_41 rfl (fun q hq => by cases hq; first | exact Or.inl rfl | exact Or.inr ⟨rfl, rfl, rfl⟩) (w11.k (by decide) q11_11_0) rfl rfl ?_
  replace w11 := w11.putR (f := 514) (c := 11) (i := 0) (c' := 13) (i' := 14) (by decide) (Or.inl (by decide)) q11_11_0 e11 (by decide)
  generalize am_sR _ 514 _ _ = g11_89 at w11 ⊢
  skip
  refine g_aload_n dX5_init_92 rfl ?_
  refine g_bipush (v := 8) dX5_init_93 (by decide) ?_
  refine g_newZ dX5_init_95 aw_boolean (by decide) (show _ = 8 by decide) (by decide) (by rw [hR]; exact Nat.le_of_ble_eq_true rfl) (by rw [hR]; exact Nat.le_of_ble_eq_true rfl) (fun r15 hr15 => ?_)
  obtain ⟨L12, w12, e12, k12⟩ := w11.new (c := 13) (i := 15) (k := 12) (n := 8) hr15 (by decide) rfl (by decide) rfl (by decide)
  have q12_11_0 := (k12 (11, 0) (by decide)).trans q11_11_0
  have q12_12_4 := (k12 (12, 4) (by decide)).trans q11_12_4
  have q12_12_5 := (k12 (12, 5) (by decide)).trans q11_12_5
  have q12_12_6 := (k12 (12, 6) (by decide)).trans q11_12_6
  have q12_12_7 := (k12 (12, 7) (by decide)).trans q11_12_7
  have q12_12_8 := (k12 (12, 8) (by decide)).trans q11_12_8
  have q12_12_9 := (k12 (12, 9) (by decide)).trans q11_12_9
  have q12_13_10 := (k12 (13, 10) (by decide)).trans q11_13_10
  have q12_12_11 := (k12 (12, 11) (by decide)).trans q11_12_11
  have q12_12_12 := (k12 (12, 12) (by decide)).trans q11_12_12
  have q12_12_13 := (k12 (12, 13) (by decide)).trans q11_12_13
  have q12_13_14 := (k12 (13, 14) (by decide)).trans e11
  generalize am_nw _ r15 12 8 = g12 at w12 ⊢
  skip
  refine g_putRs dX5_init_97 fl_X5_44 rfl (fun q hq => by cases hq; first | exact Or.inl rfl | exact Or.inr ⟨rfl, rfl, rfl⟩) (w12.k (by decide) q12_11_0) rfl rfl ?_
  replace w12 := w12.putR (f := 515) (c := 11) (i := 0) (c' := 13) (i' := 15) (by decide) (Or.inl (by decide)) q12_11_0 e12 (by decide)
  generalize am_sR _ 515 _ _ = g12_97 at w12 ⊢
  skip
  refine g_aload_n dX5_init_100 rfl ?_
  refine g_bipush (v := 8) dX5_init_101 (by decide) ?_
  refine g_newI dX5_init_103 aw_int (by decide) (show _ = 8 by decide) (by decide) (by rw [hR]; exact Nat.le_of_ble_eq_true rfl) (by rw [hR]; exact Nat.le_of_ble_eq_true rfl) (fun r17 hr17 => ?_)
  obtain ⟨L13, w13, e13, k13⟩ := w12.new (c := 12) (i := 17) (k := 11) (n := 8) hr17 (by decide) rfl (by decide) rfl (by decide)
  have q13_11_0 := (k13 (11, 0) (by decide)).trans q12_11_0
  have q13_12_4 := (k13 (12, 4) (by decide)).trans q12_12_4
  have q13_12_5 := (k13 (12, 5) (by decide)).trans q12_12_5
  have q13_12_6 := (k13 (12, 6) (by decide)).trans q12_12_6
  have q13_12_7 := (k13 (12, 7) (by decide)).trans q12_12_7
  have q13_12_8 := (k13 (12, 8) (by decide)).trans q12_12_8
  have q13_12_9 := (k13 (12, 9) (by decide)).trans q12_12_9
  have q13_13_10 := (k13 (13, 10) (by decide)).trans q12_13_10
  have q13_12_11 := (k13 (12, 11) (by decide)).trans q12_12_11
  have q13_12_12 := (k13 (12, 12) (by decide)).trans q12_12_12
  have q13_12_13 := (k13 (12, 13) (by decide)).trans q12_12_13
  have q13_13_14 := (k13 (13, 14) (by decide)).trans q12_13_14
  have q13_13_15 := (k13 (13, 15) (by decide)).trans e12
  generalize am_nw _ r17 11 8 = g13 at w13 ⊢
  skip
  refine g_putRs dX5_init_105 fl_X5_47 rfl (fun q hq => by cases hq; first | exact Or.inl rfl | exact Or.inr ⟨rfl, rfl, rfl⟩) (w13.k (by decide) q13_11_0) rfl rfl ?_
  replace w13 := w13.putR (f := 517) (c := 11) (i := 0) (c' := 12) (i' := 17) (by decide) (Or.inl (by decide)) q13_11_0 e13 (by decide)
  generalize am_sR _ 517 _ _ = g13_105 at w13 ⊢
  skip
  refine g_aload_n dX5_init_108 rfl ?_
  refine g_bipush (v := 8) dX5_init_109 (by decide) ?_
  refine g_newI dX5_init_111 aw_int (by decide) (show _ = 8 by decide) (by decide) (by rw [hR]; exact Nat.le_of_ble_eq_true rfl) (by rw [hR]; exact Nat.le_of_ble_eq_true rfl) (fun r18 hr18 => ?_)
  obtain ⟨L14, w14, e14, k14⟩ := w13.new (c := 12) (i := 18) (k := 11) (n := 8) hr18 (by decide) rfl (by decide) rfl (by decide)
  have q14_11_0 := (k14 (11, 0) (by decide)).trans q13_11_0
  have q14_12_4 := (k14 (12, 4) (by decide)).trans q13_12_4
  have q14_12_5 := (k14 (12, 5) (by decide)).trans q13_12_5
  have q14_12_6 := (k14 (12, 6) (by decide)).trans q13_12_6
  have q14_12_7 := (k14 (12, 7) (by decide)).trans q13_12_7
  have q14_12_8 := (k14 (12, 8) (by decide)).trans q13_12_8
  have q14_12_9 := (k14 (12, 9) (by decide)).trans q13_12_9
  have q14_13_10 := (k14 (13, 10) (by decide)).trans q13_13_10
  have q14_12_11 := (k14 (12, 11) (by decide)).trans q13_12_11
  have q14_12_12 := (k14 (12, 12) (by decide)).trans q13_12_12
  have q14_12_13 := (k14 (12, 13) (by decide)).trans q13_12_13
  have q14_13_14 := (k14 (13, 14) (by decide)).trans q13_13_14
  have q14_13_15 := (k14 (13, 15) (by decide)).trans q13_13_15
  have q14_12_17 := (k14 (12, 17) (by decide)).trans e13
  generalize am_nw _ r18 11 8 = g14 at w14 ⊢
  skip
  refine g_putRs dX5_init_113 fl_X5_50 rfl (fun q hq => by cases hq; first | exact Or.inl rfl | exact Or.inr ⟨rfl, rfl, rfl⟩) (w14.k (by decide) q14_11_0) rfl rfl ?_
  replace w14 := w14.putR (f := 518) (c := 11) (i := 0) (c' := 12) (i' := 18) (by decide) (Or.inl (by decide)) q14_11_0 e14 (by decide)
  generalize am_sR _ 518 _ _ = g14_113 at w14 ⊢
  skip
  refine g_aload_n dX5_init_116 rfl ?_
  refine g_bipush (v := 8) dX5_init_117 (by decide) ?_
  refine g_newI dX5_init_119 aw_int (by decide) (show _ = 8 by decide) (by decide) (by rw [hR]; exact Nat.le_of_ble_eq_true rfl) (by rw [hR]; exact Nat.le_of_ble_eq_true rfl) (fun r19 hr19 => ?_)
  obtain ⟨L15, w15, e15, k15⟩ := w14.new (c := 12) (i := 19) (k := 11) (n := 8) hr19 (by decide) rfl (by decide) rfl (by decide)
  have q15_11_0 := (k15 (11, 0) (by decide)).trans q14_11_0
  have q15_12_4 := (k15 (12, 4) (by decide)).trans q14_12_4
  have q15_12_5 := (k15 (12, 5) (by decide)).trans q14_12_5
  have q15_12_6 := (k15 (12, 6) (by decide)).trans q14_12_6
  have q15_12_7 := (k15 (12, 7) (by decide)).trans q14_12_7
  have q15_12_8 := (k15 (12, 8) (by decide)).trans q14_12_8
  have q15_12_9 := (k15 (12, 9) (by decide)).trans q14_12_9
  have q15_13_10 := (k15 (13, 10) (by decide)).trans q14_13_10
  have q15_12_11 := (k15 (12, 11) (by decide)).trans q14_12_11
  have q15_12_12 := (k15 (12, 12) (by decide)).trans q14_12_12
  have q15_12_13 := (k15 (12, 13) (by decide)).trans q14_12_13
  have q15_13_14 := (k15 (13, 14) (by decide)).trans q14_13_14
  have q15_13_15 := (k15 (13, 15) (by decide)).trans q14_13_15
  have q15_12_17 := (k15 (12, 17) (by decide)).trans q14_12_17
  have q15_12_18 := (k15 (12, 18) (by decide)).trans e14
  generalize am_nw _ r19 11 8 = g15 at w15 ⊢
  skip
  refine g_putRs dX5_init_121 fl_X5_53 rfl (fun q hq => by cases hq; first | exact Or.inl rfl | exact Or.inr ⟨rfl, rfl, rfl⟩) (w15.k (by decide) q15_11_0) rfl rfl ?_
  replace w15 := w15.putR (f := 519) (c := 11) (i := 0) (c' := 12) (i' := 19) (by decide) (Or.inl (by decide)) q15_11_0 e15 (by decide)
  generalize am_sR _ 519 _ _ = g15_121 at w15 ⊢
  skip
  refine g_aload_n dX5_init_124 rfl ?_
  refine g_bipush (v := 8) dX5_init_125 (by decide) ?_
  refine g_newI dX5_init_127 aw_int (by decide) (show _ = 8 by decide) (by decide) (by rw [hR]; exact Nat.le_of_ble_eq_true rfl) (by rw [hR]; exact Nat.le_of_ble_eq_true rfl) (fun r20 hr20 => ?_)
  obtain ⟨L16, w16, e16, k16⟩ := w15.new (c := 12) (i := 20) (k := 11) (n := 8) hr20 (by decide) rfl (by decide) rfl (by decide)
  have q16_11_0 := (k16 (11, 0) (by decide)).trans q15_11_0
  have q16_12_4 := (k16 (12, 4) (by decide)).trans q15_12_4
  have q16_12_5 := (k16 (12, 5) (by decide)).trans q15_12_5
  have q16_12_6 := (k16 (12, 6) (by decide)).trans q15_12_6
  have q16_12_7 := (k16 (12, 7) (by decide)).trans q15_12_7
  have q16_12_8 := (k16 (12, 8) (by decide)).trans q15_12_8
  have q16_12_9 := (k16 (12, 9) (by decide)).trans q15_12_9
  have q16_13_10 := (k16 (13, 10) (by decide)).trans q15_13_10
  have q16_12_11 := (k16 (12, 11) (by decide)).trans q15_12_11
  have q16_12_12 := (k16 (12, 12) (by decide)).trans q15_12_12
  have q16_12_13 := (k16 (12, 13) (by decide)).trans q15_12_13
  have q16_13_14 := (k16 (13, 14) (by decide)).trans q15_13_14
  have q16_13_15 := (k16 (13, 15) (by decide)).trans q15_13_15
  have q16_12_17 := (k16 (12, 17) (by decide)).trans q15_12_17
  have q16_12_18 := (k16 (12, 18) (by decide)).trans q15_12_18
  have q16_12_19 := (k16 (12, 19) (by decide)).trans e15
  generalize am_nw _ r20 11 8 = g16 at w16 ⊢
  skip
  refine g_putRs dX5_init_129 fl_X5_56 rfl (fun q hq => by cases hq; first | exact Or.inl rfl | exact Or.inr ⟨rfl, rfl, rfl⟩) (w16.k (by decide) q16_11_0) rfl rfl ?_
  replace w16 := w16.putR (f := 520) (c := 11) (i := 0) (c' := 12) (i' := 20) (by decide) (Or.inl (by decide)) q16_11_0 e16 (by decide)
  generalize am_sR _ 520 _ _ = g16_129 at w16 ⊢
  skip
  refine g_aload_n dX5_init_132 rfl ?_
  refine g_bipush (v := 8) dX5_init_133 (by decide) ?_
  refine g_newI dX5_init_135 aw_int (by decide) (show _ = 8 by decide) (by decide) (by rw [hR]; exact Nat.le_of_ble_eq_true rfl) (by rw [hR]; exact Nat.le_of_ble_eq_true rfl) (fun r21 hr21 => ?_)
  obtain ⟨L17, w17, e17, k17⟩ := w16.new (c := 12) (i := 21) (k := 11) (n := 8) hr21 (by decide) rfl (by decide) rfl (by decide)
  have q17_11_0 := (k17 (11, 0) (by decide)).trans q16_11_0
  have q17_12_4 := (k17 (12, 4) (by decide)).trans q16_12_4
  have q17_12_5 := (k17 (12, 5) (by decide)).trans q16_12_5
  have q17_12_6 := (k17 (12, 6) (by decide)).trans q16_12_6
  have q17_12_7 := (k17 (12, 7) (by decide)).trans q16_12_7
  have q17_12_8 := (k17 (12, 8) (by decide)).trans q16_12_8
  have q17_12_9 := (k17 (12, 9) (by decide)).trans q16_12_9
  have q17_13_10 := (k17 (13, 10) (by decide)).trans q16_13_10
  have q17_12_11 := (k17 (12, 11) (by decide)).trans q16_12_11
  have q17_12_12 := (k17 (12, 12) (by decide)).trans q16_12_12
  have q17_12_13 := (k17 (12, 13) (by decide)).trans q16_12_13
  have q17_13_14 := (k17 (13, 14) (by decide)).trans q16_13_14
  have q17_13_15 := (k17 (13, 15) (by decide)).trans q16_13_15
  have q17_12_17 := (k17 (12, 17) (by decide)).trans q16_12_17
  have q17_12_18 := (k17 (12, 18) (by decide)).trans q16_12_18
  have q17_12_19 := (k17 (12, 19) (by decide)).trans q16_12_19
  have q17_12_20 := (k17 (12, 20) (by decide)).trans e16
  generalize am_nw _ r21 11 8 = g17 at w17 ⊢
  skip
  refine g_putRs dX5_init_137 fl_X5_59 rfl (fun q hq => by cases hq; first | exact Or.inl rfl | exact Or.inr ⟨rfl, rfl, rfl⟩) (w17.k (by decide) q17_11_0) rfl rfl ?_
  replace w17 := w17.putR (f := 521) (c := 11) (i := 0) (c' := 12) (i' := 21) (by decide) (Or.inl (by decide)) q17_11_0 e17 (by decide)
  generalize am_sR _ 521 _ _ = g17_137 at w17 ⊢
  skip
  refine g_aload_n dX5_init_140 rfl ?_
  refine g_bipush (v := 8) dX5_init_141 (by decide) ?_
  refine g_newI dX5_init_143 aw_int (by decide) (show _ = 8 by decide) (by decide) (by rw [hR]; exact Nat.le_of_ble_eq_true rfl) (by rw [hR]; exact Nat.le_of_ble_eq_true rfl) (fun r22 hr22 => ?_)
  obtain ⟨L18, w18, e18, k18⟩ := w17.new (c := 12) (i := 22) (k := 11) (n := 8) hr22 (by decide) rfl (by decide) rfl (by decide)
  have q18_11_0 := (k18 (11, 0) (by decide)).trans q17_11_0
  have q18_12_4 := (k18 (12, 4) (by decide)).trans q17_12_4
  have q18_12_5 := (k18 (12, 5) (by decide)).trans q17_12_5
  have q18_12_6 := (k18 (12, 6) (by decide)).trans q17_12_6
  have q18_12_7 := (k18 (12, 7) (by decide)).trans q17_12_7
  have q18_12_8 := (k18 (12, 8) (by decide)).trans q17_12_8
  have q18_12_9 := (k18 (12, 9) (by decide)).trans q17_12_9
  have q18_13_10 := (k18 (13, 10) (by decide)).trans q17_13_10
  have q18_12_11 := (k18 (12, 11) (by decide)).trans q17_12_11
  have q18_12_12 := (k18 (12, 12) (by decide)).trans q17_12_12
  have q18_12_13 := (k18 (12, 13) (by decide)).trans q17_12_13
  have q18_13_14 := (k18 (13, 14) (by decide)).trans q17_13_14
  have q18_13_15 := (k18 (13, 15) (by decide)).trans q17_13_15
  have q18_12_17 := (k18 (12, 17) (by decide)).trans q17_12_17
  have q18_12_18 := (k18 (12, 18) (by decide)).trans q17_12_18
  have q18_12_19 := (k18 (12, 19) (by decide)).trans q17_12_19
  have q18_12_20 := (k18 (12, 20) (by decide)).trans q17_12_20
  have q18_12_21 := (k18 (12, 21) (by decide)).trans e17
  generalize am_nw _ r22 11 8 = g18 at w18 ⊢
  skip
  refine g_putRs dX5_init_145 fl_X5_62 rfl (fun q hq => by cases hq; first | exact Or.inl rfl | exact Or.inr ⟨rfl, rfl, rfl⟩) (w18.k (by decide) q18_11_0) rfl rfl ?_
  replace w18 := w18.putR (f := 522) (c := 11) (i := 0) (c' := 12) (i' := 22) (by decide) (Or.inl (by decide)) q18_11_0 e18 (by decide)
  generalize am_sR _ 522 _ _ = g18_145 at w18 ⊢
  skip
  refine g_aload_n dX5_init_148 rfl ?_
  refine g_bipush (v := 24) dX5_init_149 (by decide) ?_
  refine g_newI dX5_init_151 aw_int (by decide) (show _ = 24 by decide) (by decide) (by rw [hR]; exact Nat.le_of_ble_eq_true rfl) (by rw [hR]; exact Nat.le_of_ble_eq_true rfl) (fun r25 hr25 => ?_)
  obtain ⟨L19, w19, e19, k19⟩ := w18.new (c := 12) (i := 25) (k := 11) (n := 24) hr25 (by decide) rfl (by decide) rfl (by decide)
  have q19_11_0 := (k19 (11, 0) (by decide)).trans q18_11_0
  have q19_12_4 := (k19 (12, 4) (by decide)).trans q18_12_4
  have q19_12_5 := (k19 (12, 5) (by decide)).trans q18_12_5
  have q19_12_6 := (k19 (12, 6) (by decide)).trans q18_12_6
  have q19_12_7 := (k19 (12, 7) (by decide)).trans q18_12_7
  have q19_12_8 := (k19 (12, 8) (by decide)).trans q18_12_8
  have q19_12_9 := (k19 (12, 9) (by decide)).trans q18_12_9
  have q19_13_10 := (k19 (13, 10) (by decide)).trans q18_13_10
  have q19_12_11 := (k19 (12, 11) (by decide)).trans q18_12_11
  have q19_12_12 := (k19 (12, 12) (by decide)).trans q18_12_12
  have q19_12_13 := (k19 (12, 13) (by decide)).trans q18_12_13
  have q19_13_14 := (k19 (13, 14) (by decide)).trans q18_13_14
  have q19_13_15 := (k19 (13, 15) (by decide)).trans q18_13_15
  have q19_12_17 := (k19 (12, 17) (by decide)).trans q18_12_17
  have q19_12_18 := (k19 (12, 18) (by decide)).trans q18_12_18
  have q19_12_19 := (k19 (12, 19) (by decide)).trans q18_12_19
  have q19_12_20 := (k19 (12, 20) (by decide)).trans q18_12_20
  have q19_12_21 := (k19 (12, 21) (by decide)).trans q18_12_21
  have q19_12_22 := (k19 (12, 22) (by decide)).trans e18
  generalize am_nw _ r25 11 24 = g19 at w19 ⊢
  skip
  refine g_putRs dX5_init_153 fl_X5_65 rfl (fun q hq => by cases hq; first | exact Or.inl rfl | exact Or.inr ⟨rfl, rfl, rfl⟩) (w19.k (by decide) q19_11_0) rfl rfl ?_
  replace w19 := w19.putR (f := 525) (c := 11) (i := 0) (c' := 12) (i' := 25) (by decide) (Or.inl (by decide)) q19_11_0 e19 (by decide)
  generalize am_sR _ 525 _ _ = g19_153 at w19 ⊢
  skip
  refine g_aload_n dX5_init_156 rfl ?_
  refine g_bipush (v := 24) dX5_init_157 (by decide) ?_
  refine g_newI dX5_init_159 aw_int (by decide) (show _ = 24 by decide) (by decide) (by rw [hR]; exact Nat.le_of_ble_eq_true rfl) (by rw [hR]; exact Nat.le_of_ble_eq_true rfl) (fun r26 hr26 => ?_)
  obtain ⟨L20, w20, e20, k20⟩ := w19.new (c := 12) (i := 26) (k := 11) (n := 24) hr26 (by decide) rfl (by decide) rfl (by decide)
  have q20_11_0 := (k20 (11, 0) (by decide)).trans q19_11_0
  have q20_12_4 := (k20 (12, 4) (by decide)).trans q19_12_4
  have q20_12_5 := (k20 (12, 5) (by decide)).trans q19_12_5
  have q20_12_6 := (k20 (12, 6) (by decide)).trans q19_12_6
  have q20_12_7 := (k20 (12, 7) (by decide)).trans q19_12_7
  have q20_12_8 := (k20 (12, 8) (by decide)).trans q19_12_8
  have q20_12_9 := (k20 (12, 9) (by decide)).trans q19_12_9
  have q20_13_10 := (k20 (13, 10) (by decide)).trans q19_13_10
  have q20_12_11 := (k20 (12, 11) (by decide)).trans q19_12_11
  have q20_12_12 := (k20 (12, 12) (by decide)).trans q19_12_12
  have q20_12_13 := (k20 (12, 13) (by decide)).trans q19_12_13
  have q20_13_14 := (k20 (13, 14) (by decide)).trans q19_13_14
  have q20_13_15 := (k20 (13, 15) (by decide)).trans q19_13_15
  have q20_12_17 := (k20 (12, 17) (by decide)).trans q19_12_17
  have q20_12_18 := (k20 (12, 18) (by decide)).trans q19_12_18
  have q20_12_19 := (k20 (12, 19) (by decide)).trans q19_12_19
  have q20_12_20 := (k20 (12, 20) (by decide)).trans q19_12_20
  have q20_12_21 := (k20 (12, 21) (by decide)).trans q19_12_21
  have q20_12_22 := (k20 (12, 22) (by decide)).trans q19_12_22
  have q20_12_25 := (k20 (12, 25) (by decide)).trans e19
  generalize am_nw _ r26 11 24 = g20 at w20 ⊢
  skip
  refine g_putRs dX5_init_161 fl_X5_68 rfl (fun q hq => by cases hq; first | exact Or.inl rfl | exact Or.inr ⟨rfl, rfl, rfl⟩) (w20.k (by decide) q20_11_0) rfl rfl ?_
  replace w20 := w20.putR (f := 526) (c := 11) (i := 0) (c' := 12) (i' := 26) (by decide) (Or.inl (by decide)) q20_11_0 e20 (by decide)
  generalize am_sR _ 526 _ _ = g20_161 at w20 ⊢
  skip
  refine g_aload_n dX5_init_164 rfl ?_
  refine g_bipush (v := 24) dX5_init_165 (by decide) ?_
  refine g_newI dX5_init_167 aw_int (by decide) (show _ = 24 by decide) (by decide) (by rw [hR]; exact Nat.le_of_ble_eq_true rfl) (by rw [hR]; exact Nat.le_of_ble_eq_true rfl) (fun r27 hr27 => ?_)
  obtain ⟨L21, w21, e21, k21⟩ := w20.new (c := 12) (i := 27) (k := 11) (n := 24) hr27 (by decide) rfl (by decide) rfl (by decide)
  have q21_11_0 := (k21 (11, 0) (by decide)).trans q20_11_0
  have q21_12_4 := (k21 (12, 4) (by decide)).trans q20_12_4
  have q21_12_5 := (k21 (12, 5) (by decide)).trans q20_12_5
  have q21_12_6 := (k21 (12, 6) (by decide)).trans q20_12_6
  have q21_12_7 := (k21 (12, 7) (by decide)).trans q20_12_7
  have q21_12_8 := (k21 (12, 8) (by decide)).trans q20_12_8
  have q21_12_9 := (k21 (12, 9) (by decide)).trans q20_12_9
  have q21_13_10 := (k21 (13, 10) (by decide)).trans q20_13_10
  have q21_12_11 := (k21 (12, 11) (by decide)).trans q20_12_11
  have q21_12_12 := (k21 (12, 12) (by decide)).trans q20_12_12
  have q21_12_13 := (k21 (12, 13) (by decide)).trans q20_12_13
  have q21_13_14 := (k21 (13, 14) (by decide)).trans q20_13_14
  have q21_13_15 := (k21 (13, 15) (by decide)).trans q20_13_15
  have q21_12_17 := (k21 (12, 17) (by decide)).trans q20_12_17
  have q21_12_18 := (k21 (12, 18) (by decide)).trans q20_12_18
  have q21_12_19 := (k21 (12, 19) (by decide)).trans q20_12_19
  have q21_12_20 := (k21 (12, 20) (by decide)).trans q20_12_20
  have q21_12_21 := (k21 (12, 21) (by decide)).trans q20_12_21
  have q21_12_22 := (k21 (12, 22) (by decide)).trans q20_12_22
  have q21_12_25 := (k21 (12, 25) (by decide)).trans q20_12_25
  have q21_12_26 := (k21 (12, 26) (by decide)).trans e20
  generalize am_nw _ r27 11 24 = g21 at w21 ⊢
  skip
  refine g_putRs dX5_init_169 fl_X5_71 rfl (fun q hq => by cases hq; first | exact Or.inl rfl | exact Or.inr ⟨rfl, rfl, rfl⟩) (w21.k (by decide) q21_11_0) rfl rfl ?_
  replace w21 := w21.putR (f := 527) (c := 11) (i := 0) (c' := 12) (i' := 27) (by decide) (Or.inl (by decide)) q21_11_0 e21 (by decide)
  generalize am_sR _ 527 _ _ = g21_169 at w21 ⊢
  skip
  refine g_aload_n dX5_init_172 rfl ?_
  refine g_bipush (v := 24) dX5_init_173 (by decide) ?_
  refine g_newZ dX5_init_175 aw_boolean (by decide) (show _ = 24 by decide) (by decide) (by rw [hR]; exact Nat.le_of_ble_eq_true rfl) (by rw [hR]; exact Nat.le_of_ble_eq_true rfl) (fun r28 hr28 => ?_)
  obtain ⟨L22, w22, e22, k22⟩ := w21.new (c := 13) (i := 28) (k := 12) (n := 24) hr28 (by decide) rfl (by decide) rfl (by decide)
  have q22_11_0 := (k22 (11, 0) (by decide)).trans q21_11_0
  have q22_12_4 := (k22 (12, 4) (by decide)).trans q21_12_4
  have q22_12_5 := (k22 (12, 5) (by decide)).trans q21_12_5
  have q22_12_6 := (k22 (12, 6) (by decide)).trans q21_12_6
  have q22_12_7 := (k22 (12, 7) (by decide)).trans q21_12_7
  have q22_12_8 := (k22 (12, 8) (by decide)).trans q21_12_8
  have q22_12_9 := (k22 (12, 9) (by decide)).trans q21_12_9
  have q22_13_10 := (k22 (13, 10) (by decide)).trans q21_13_10
  have q22_12_11 := (k22 (12, 11) (by decide)).trans q21_12_11
  have q22_12_12 := (k22 (12, 12) (by decide)).trans q21_12_12
  have q22_12_13 := (k22 (12, 13) (by decide)).trans q21_12_13
  have q22_13_14 := (k22 (13, 14) (by decide)).trans q21_13_14
  have q22_13_15 := (k22 (13, 15) (by decide)).trans q21_13_15
  have q22_12_17 := (k22 (12, 17) (by decide)).trans q21_12_17
  have q22_12_18 := (k22 (12, 18) (by decide)).trans q21_12_18
  have q22_12_19 := (k22 (12, 19) (by decide)).trans q21_12_19
  have q22_12_20 := (k22 (12, 20) (by decide)).trans q21_12_20
  have q22_12_21 := (k22 (12, 21) (by decide)).trans q21_12_21
  have q22_12_22 := (k22 (12, 22) (by decide)).trans q21_12_22
  have q22_12_25 := (k22 (12, 25) (by decide)).trans q21_12_25
  have q22_12_26 := (k22 (12, 26) (by decide)).trans q21_12_26
  have q22_12_27 := (k22 (12, 27) (by decide)).trans e21
  generalize am_nw _ r28 12 24 = g22 at w22 ⊢
  skip
  refine g_putRs dX5_init_177 fl_X5_74 rfl (fun q hq => by cases hq; first | exact Or.inl rfl | exact Or.inr ⟨rfl, rfl, rfl⟩) (w22.k (by decide) q22_11_0) rfl rfl ?_
  replace w22 := w22.putR (f := 528) (c := 11) (i := 0) (c' := 13) (i' := 28) (by decide) (Or.inl (by decide)) q22_11_0 e22 (by decide)
  generalize am_sR _ 528 _ _ = g22_177 at w22 ⊢
  skip
  refine g_aload_n dX5_init_180 rfl ?_
  refine g_bipush (v := 24) dX5_init_181 (by decide) ?_
  refine g_newI dX5_init_183 aw_int (by decide) (show _ = 24 by decide) (by decide) (by rw [hR]; exact Nat.le_of_ble_eq_true rfl) (by rw [hR]; exact Nat.le_of_ble_eq_true rfl) (fun r29 hr29 => ?_)
  obtain ⟨L23, w23, e23, k23⟩ := w22.new (c := 12) (i := 29) (k := 11) (n := 24) hr29 (by decide) rfl (by decide) rfl (by decide)
  have q23_11_0 := (k23 (11, 0) (by decide)).trans q22_11_0
  have q23_12_4 := (k23 (12, 4) (by decide)).trans q22_12_4
  have q23_12_5 := (k23 (12, 5) (by decide)).trans q22_12_5
  have q23_12_6 := (k23 (12, 6) (by decide)).trans q22_12_6
  have q23_12_7 := (k23 (12, 7) (by decide)).trans q22_12_7
  have q23_12_8 := (k23 (12, 8) (by decide)).trans q22_12_8
  have q23_12_9 := (k23 (12, 9) (by decide)).trans q22_12_9
  have q23_13_10 := (k23 (13, 10) (by decide)).trans q22_13_10
  have q23_12_11 := (k23 (12, 11) (by decide)).trans q22_12_11
  have q23_12_12 := (k23 (12, 12) (by decide)).trans q22_12_12
  have q23_12_13 := (k23 (12, 13) (by decide)).trans q22_12_13
  have q23_13_14 := (k23 (13, 14) (by decide)).trans q22_13_14
  have q23_13_15 := (k23 (13, 15) (by decide)).trans q22_13_15
  have q23_12_17 := (k23 (12, 17) (by decide)).trans q22_12_17
  have q23_12_18 := (k23 (12, 18) (by decide)).trans q22_12_18
  have q23_12_19 := (k23 (12, 19) (by decide)).trans q22_12_19
  have q23_12_20 := (k23 (12, 20) (by decide)).trans q22_12_20
  have q23_12_21 := (k23 (12, 21) (by decide)).trans q22_12_21
  have q23_12_22 := (k23 (12, 22) (by decide)).trans q22_12_22
  have q23_12_25 := (k23 (12, 25) (by decide)).trans q22_12_25
  have q23_12_26 := (k23 (12, 26) (by decide)).trans q22_12_26
  have q23_12_27 := (k23 (12, 27) (by decide)).trans q22_12_27
  have q23_13_28 := (k23 (13, 28) (by decide)).trans e22
  generalize am_nw _ r29 11 24 = g23 at w23 ⊢
  skip
  refine g_putRs dX5_init_185 fl_X5_77 rfl (fun q hq => by cases hq; first | exact Or.inl rfl | exact Or.inr ⟨rfl, rfl, rfl⟩) (w23.k (by decide) q23_11_0) rfl rfl ?_
  replace w23 := w23.putR (f := 529) (c := 11) (i := 0) (c' := 12) (i' := 29) (by decide) (Or.inl (by decide)) q23_11_0 e23 (by decide)
  generalize am_sR _ 529 _ _ = g23_185 at w23 ⊢
  skip
  refine g_aload_n dX5_init_188 rfl ?_
  refine g_bipush (v := 9) dX5_init_189 (by decide) ?_
  refine g_newI dX5_init_191 aw_int (by decide) (show _ = 9 by decide) (by decide) (by rw [hR]; exact Nat.le_of_ble_eq_true rfl) (by rw [hR]; exact Nat.le_of_ble_eq_true rfl) (fun r31 hr31 => ?_)
  obtain ⟨L24, w24, e24, k24⟩ := w23.new (c := 12) (i := 31) (k := 11) (n := 9) hr31 (by decide) rfl (by decide) rfl (by decide)
  have q24_11_0 := (k24 (11, 0) (by decide)).trans q23_11_0
  have q24_12_4 := (k24 (12, 4) (by decide)).trans q23_12_4
  have q24_12_5 := (k24 (12, 5) (by decide)).trans q23_12_5
  have q24_12_6 := (k24 (12, 6) (by decide)).trans q23_12_6
  have q24_12_7 := (k24 (12, 7) (by decide)).trans q23_12_7
  have q24_12_8 := (k24 (12, 8) (by decide)).trans q23_12_8
  have q24_12_9 := (k24 (12, 9) (by decide)).trans q23_12_9
  have q24_13_10 := (k24 (13, 10) (by decide)).trans q23_13_10
  have q24_12_11 := (k24 (12, 11) (by decide)).trans q23_12_11
  have q24_12_12 := (k24 (12, 12) (by decide)).trans q23_12_12
  have q24_12_13 := (k24 (12, 13) (by decide)).trans q23_12_13
  have q24_13_14 := (k24 (13, 14) (by decide)).trans q23_13_14
  have q24_13_15 := (k24 (13, 15) (by decide)).trans q23_13_15
  have q24_12_17 := (k24 (12, 17) (by decide)).trans q23_12_17
  have q24_12_18 := (k24 (12, 18) (by decide)).trans q23_12_18
  have q24_12_19 := (k24 (12, 19) (by decide)).trans q23_12_19
  have q24_12_20 := (k24 (12, 20) (by decide)).trans q23_12_20
  have q24_12_21 := (k24 (12, 21) (by decide)).trans q23_12_21
  have q24_12_22 := (k24 (12, 22) (by decide)).trans q23_12_22
  have q24_12_25 := (k24 (12, 25) (by decide)).trans q23_12_25
  have q24_12_26 := (k24 (12, 26) (by decide)).trans q23_12_26
  have q24_12_27 := (k24 (12, 27) (by decide)).trans q23_12_27
  have q24_13_28 := (k24 (13, 28) (by decide)).trans q23_13_28
  have q24_12_29 := (k24 (12, 29) (by decide)).trans e23
  generalize am_nw _ r31 11 9 = g24 at w24 ⊢
  skip
  refine g_putRs dX5_init_193 fl_X5_80 rfl (fun q hq => by cases hq; first | exact Or.inl rfl | exact Or.inr ⟨rfl, rfl, rfl⟩) (w24.k (by decide) q24_11_0) rfl rfl ?_
  replace w24 := w24.putR (f := 531) (c := 11) (i := 0) (c' := 12) (i' := 31) (by decide) (Or.inl (by decide)) q24_11_0 e24 (by decide)
  generalize am_sR _ 531 _ _ = g24_193 at w24 ⊢
  skip
  refine g_aload_n dX5_init_196 rfl ?_
  refine g_bipush (v := 9) dX5_init_197 (by decide) ?_
  refine g_newI dX5_init_199 aw_int (by decide) (show _ = 9 by decide) (by decide) (by rw [hR]; exact Nat.le_of_ble_eq_true rfl) (by rw [hR]; exact Nat.le_of_ble_eq_true rfl) (fun r32 hr32 => ?_)
  obtain ⟨L25, w25, e25, k25⟩ := w24.new (c := 12) (i := 32) (k := 11) (n := 9) hr32 (by decide) rfl (by decide) rfl (by decide)
  have q25_11_0 := (k25 (11, 0) (by decide)).trans q24_11_0
  have q25_12_4 := (k25 (12, 4) (by decide)).trans q24_12_4
  have q25_12_5 := (k25 (12, 5) (by decide)).trans q24_12_5
  have q25_12_6 := (k25 (12, 6) (by decide)).trans q24_12_6
  have q25_12_7 := (k25 (12, 7) (by decide)).trans q24_12_7
  have q25_12_8 := (k25 (12, 8) (by decide)).trans q24_12_8
  have q25_12_9 := (k25 (12, 9) (by decide)).trans q24_12_9
  have q25_13_10 := (k25 (13, 10) (by decide)).trans q24_13_10
  have q25_12_11 := (k25 (12, 11) (by decide)).trans q24_12_11
  have q25_12_12 := (k25 (12, 12) (by decide)).trans q24_12_12
  have q25_12_13 := (k25 (12, 13) (by decide)).trans q24_12_13
  have q25_13_14 := (k25 (13, 14) (by decide)).trans q24_13_14
  have q25_13_15 := (k25 (13, 15) (by decide)).trans q24_13_15
  have q25_12_17 := (k25 (12, 17) (by decide)).trans q24_12_17
  have q25_12_18 := (k25 (12, 18) (by decide)).trans q24_12_18
  have q25_12_19 := (k25 (12, 19) (by decide)).trans q24_12_19
  have q25_12_20 := (k25 (12, 20) (by decide)).trans q24_12_20
  have q25_12_21 := (k25 (12, 21) (by decide)).trans q24_12_21
  have q25_12_22 := (k25 (12, 22) (by decide)).trans q24_12_22
  have q25_12_25 := (k25 (12, 25) (by decide)).trans q24_12_25
  have q25_12_26 := (k25 (12, 26) (by decide)).trans q24_12_26
  have q25_12_27 := (k25 (12, 27) (by decide)).trans q24_12_27
  have q25_13_28 := (k25 (13, 28) (by decide)).trans q24_13_28
  have q25_12_29 := (k25 (12, 29) (by decide)).trans q24_12_29
  have q25_12_31 := (k25 (12, 31) (by decide)).trans e24
  generalize am_nw _ r32 11 9 = g25 at w25 ⊢
  skip
  refine g_putRs dX5_init_201 fl_X5_83 rfl (fun q hq => by cases hq; first | exact Or.inl rfl | exact Or.inr ⟨rfl, rfl, rfl⟩) (w25.k (by decide) q25_11_0) rfl rfl ?_
  replace w25 := w25.putR (f := 532) (c := 11) (i := 0) (c' := 12) (i' := 32) (by decide) (Or.inl (by decide)) q25_11_0 e25 (by decide)
  generalize am_sR _ 532 _ _ = g25_201 at w25 ⊢
  skip
  refine g_aload_n dX5_init_204 rfl ?_
  refine g_bipush (v := 8) dX5_init_205 (by decide) ?_
  refine g_newI dX5_init_207 aw_int (by decide) (show _ = 8 by decide) (by decide) (by rw [hR]; exact Nat.le_of_ble_eq_true rfl) (by rw [hR]; exact Nat.le_of_ble_eq_true rfl) (fun r33 hr33 => ?_)
  obtain ⟨L26, w26, e26, k26⟩ := w25.new (c := 12) (i := 33) (k := 11) (n := 8) hr33 (by decide) rfl (by decide) rfl (by decide)
  have q26_11_0 := (k26 (11, 0) (by decide)).trans q25_11_0
  have q26_12_4 := (k26 (12, 4) (by decide)).trans q25_12_4
  have q26_12_5 := (k26 (12, 5) (by decide)).trans q25_12_5
  have q26_12_6 := (k26 (12, 6) (by decide)).trans q25_12_6
  have q26_12_7 := (k26 (12, 7) (by decide)).trans q25_12_7
  have q26_12_8 := (k26 (12, 8) (by decide)).trans q25_12_8
  have q26_12_9 := (k26 (12, 9) (by decide)).trans q25_12_9
  have q26_13_10 := (k26 (13, 10) (by decide)).trans q25_13_10
  have q26_12_11 := (k26 (12, 11) (by decide)).trans q25_12_11
  have q26_12_12 := (k26 (12, 12) (by decide)).trans q25_12_12
  have q26_12_13 := (k26 (12, 13) (by decide)).trans q25_12_13
  have q26_13_14 := (k26 (13, 14) (by decide)).trans q25_13_14
  have q26_13_15 := (k26 (13, 15) (by decide)).trans q25_13_15
  have q26_12_17 := (k26 (12, 17) (by decide)).trans q25_12_17
  have q26_12_18 := (k26 (12, 18) (by decide)).trans q25_12_18
  have q26_12_19 := (k26 (12, 19) (by decide)).trans q25_12_19
  have q26_12_20 := (k26 (12, 20) (by decide)).trans q25_12_20
  have q26_12_21 := (k26 (12, 21) (by decide)).trans q25_12_21
  have q26_12_22 := (k26 (12, 22) (by decide)).trans q25_12_22
  have q26_12_25 := (k26 (12, 25) (by decide)).trans q25_12_25
  have q26_12_26 := (k26 (12, 26) (by decide)).trans q25_12_26
  have q26_12_27 := (k26 (12, 27) (by decide)).trans q25_12_27
  have q26_13_28 := (k26 (13, 28) (by decide)).trans q25_13_28
  have q26_12_29 := (k26 (12, 29) (by decide)).trans q25_12_29
  have q26_12_31 := (k26 (12, 31) (by decide)).trans q25_12_31
  have q26_12_32 := (k26 (12, 32) (by decide)).trans e25
  generalize am_nw _ r33 11 8 = g26 at w26 ⊢
  skip
  refine g_putRs dX5_init_209 fl_X5_86 rfl (fun q hq => by cases hq; first | exact Or.inl rfl | exact Or.inr ⟨rfl, rfl, rfl⟩) (w26.k (by decide) q26_11_0) rfl rfl ?_
  replace w26 := w26.putR (f := 533) (c := 11) (i := 0) (c' := 12) (i' := 33) (by decide) (Or.inl (by decide)) q26_11_0 e26 (by decide)
  generalize am_sR _ 533 _ _ = g26_209 at w26 ⊢
  skip
  rw [hQ]
  refine g_vret dX5_init_212 rfl (by decide) (by decide) ?_
  exact ⟨rfl, L26, w26, fun q hq => by rw [k26 q (by revert hq; revert q; decide), k25 q (by revert hq; revert q; decide), k24 q (by revert hq; revert q; decide), k23 q (by revert hq; revert q; decide), k22 q (by revert hq; revert q; decide), k21 q (by revert hq; revert q; decide), k20 q (by revert hq; revert q; decide), k19 q (by revert hq; revert q; decide), k18 q (by revert hq; revert q; decide), k17 q (by revert hq; revert q; decide), k16 q (by revert hq; revert q; decide), k15 q (by revert hq; revert q; decide), k14 q (by revert hq; revert q; decide), k13 q (by revert hq; revert q; decide), k12 q (by revert hq; revert q; decide), k11 q (by revert hq; revert q; decide), k10 q (by revert hq; revert q; decide), k9 q (by revert hq; revert q; decide), k8 q (by revert hq; revert q; decide), k7 q (by revert hq; revert q; decide), k6 q (by revert hq; revert q; decide), k5 q (by revert hq; revert q; decide), k4 q (by revert hq; revert q; decide), k3 q (by revert hq; revert q; decide), k2 q (by revert hq; revert q; decide), k1 q (by revert hq; revert q; decide)]⟩
