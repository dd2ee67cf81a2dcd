theorem J_district {l : Launch} (hlt : l.stackTraces = false) {N n p T : Nat} {A B : Nat → Nat} {ord : List Nat} {L : Nat → Nat → Nat} {Γ : Nat → Nat → Nat → Int32} {o : Int64} {h : am_H} (w : WI N n p ord L Γ o h) (hr : RI T n p A B ord Γ) (a c : Int32) : JJ l N T L Γ yL_district (.codeWith yL_district cL_district 5 (some .int) [(0, 10, 13, 13), (0, 10, 17, 15)]) [.ref (L 5 0), .int a, .int c, .ref (L 14 0)] yX5_district (.code yX5_district cX5_district 4 (some .int)) [.ref (L 11 0), .int a, .int c] JI JPi h := by
  by_cases c1 : a < 0 ∨ ¬ a ≤ 9999
  · exact JJ.fault w hr (cL_district_IAE hlt w (c_X4_district_1a hlt w c1)) (c_X5_district_f hlt w (K := 1) (by unfold sp_mdf; rw [sp_in0 c1, if_pos rfl]) (by decide)) (fun z => absurd z (by decide))
  obtain ⟨a1, a2⟩ := rg c1
  have i1 : ¬ sp_in a 0 9999 = 0 := by rw [sp_in1 a1 a2]; decide
  by_cases c2 : c < 0 ∨ ¬ c ≤ 999
  · exact JJ.fault w hr (cL_district_IAE hlt w (c_X4_district_1b hlt w a1 a2 c2)) (c_X5_district_f hlt w (K := 1) (by unfold sp_mdf; rw [if_neg i1, sp_in0 c2, if_pos rfl]) (by decide)) (fun z => absurd z (by decide))
  obtain ⟨b1, b2⟩ := rg c2
  have i2 : ¬ sp_in c 0 999 = 0 := by rw [sp_in1 b1 b2]; decide
  have hn8 := w.1.1
  have e8 : ∀ G : Nat → Nat → Nat → Int32, G 11 0 3 = nI n → (G 11 0 3 = 8 ↔ n = 8) := fun G e => by
    rw [e]
    exact nI_eq (b := 8) (by omega) (by omega)
  by_cases c3 : n < 8
  · have hm : ∀ c' i j, 3 ≤ c' → sp_cdist n a c Γ c' i j = Γ c' i j := fun c' i j z => if_neg (by omega)
    refine JJ.good (by decide) (by decide) (cL_district_0 hlt w (Rr := fun i' n' p' ord' L' Γ' => nI n = i' ∧ n + 1 = n' ∧ p = p' ∧ ord = ord' ∧ LEd n p L L' ∧ sp_cdist n a c Γ = Γ') ((c_X4_district_0 hlt w a1 a2 b1 b2 c3).mono fun v h' q => by obtain ⟨q1, L', q2, q3⟩ := q; exact ⟨_, n + 1, p, ord, L', _, q1, q2 _ _ rfl, q3, rfl, rfl, rfl, rfl, q2, rfl⟩)) (fun i' n' p' ord' L' Γ' h1 q w1 => ?_)
    obtain ⟨rfl, rfl, rfl, rfl, q2, rfl⟩ := q
    have hsm := sm.ofd q2
    have en : sp_cdist n a c Γ 11 0 3 = nI n := by rw [hm _ _ _ (by omega)]; exact hr.en
    have hc := c_X5_district_0 hlt w1 c3 en (a := a) (c := c) (by unfold sp_mdf; rw [if_neg i1, if_neg i2, if_neg (fun z => by have := (e8 _ en).mp z; omega)])
    rw [hsm.2.1] at hc
    refine ⟨hsm, fun j => hm _ _ _ (by omega), hc.mono fun v h' q => ⟨_, q.1, T, n + 1, p, A, B, ord, L', _, _, Nat.le_succ T, q.2, keep_district hr (rgI c1) (rgI c2), hsm, fun j => ?_, ?_, fun _ => rfl⟩⟩
    · rw [u3_n (by omega), u3_n (by omega), u3_n (by omega), u3_n (by omega), hm _ _ _ (by omega)]
    · rw [u3_n (by omega), u3_n (by omega), u3_n (by omega), u3_s]
  · exact JJ.fault w hr (cL_district_ISE hlt w (c_X4_district_2 hlt w a1 a2 b1 b2 c3)) (c_X5_district_f hlt w (K := 2) (by unfold sp_mdf; rw [if_neg i1, if_neg i2, if_pos ((e8 Γ hr.en).mpr (by omega))]) (by decide)) (fun z => absurd z (by decide))
theorem J_pipe {l : Launch} (hlt : l.stackTraces = false) {N n p T : Nat} {A B : Nat → Nat} {ord : List Nat} {L : Nat → Nat → Nat} {Γ : Nat → Nat → Nat → Int32} {o : Int64} {h : am_H} (w : WI N n p ord L Γ o h) (hr : RI T n p A B ord Γ) (f t lim : Int32) : JJ l N T L Γ yL_pipe (.codeWith yL_pipe cL_pipe 6 (some .int) [(0, 12, 15, 21), (0, 12, 19, 13), (0, 12, 23, 15)]) [.ref (L 5 0), .int f, .int t, .int lim, .ref (L 14 0)] yX5_pipe (.code yX5_pipe cX5_pipe 6 (some .int)) [.ref (L 11 0), .int f, .int t, .int lim] JI JPi h := by
  have hn8 := w.1.1
  have hp24 := w.1.2.1
  have e24 : Γ 11 0 24 = 24 ↔ p = 24 := by
    rw [hr.ep]
    exact nI_eq (b := 24) (by omega) (by omega)
  by_cases m : f = -1
  · subst m
    by_cases c2 : t < 0 ∨ nI n ≤ t
    · exact JJ.fault w hr (cL_pipe_IOB hlt w (c_X4_pipe_1bm hlt w c2)) (c_X5_pipe_f hlt w (K := 1) (by unfold sp_mpf; rw [hr.en]; simp [sp_inD0 (show n ≤ 1000 by omega) c2]) (by decide)) (fun z => absurd z (by decide))
    obtain ⟨j, hj, rfl⟩ := ix (by omega) c2
    have i2 := sp_inD1 hj (show n ≤ 1000 by omega)
    have ne1 : ¬ (-1 : Int32) = nI j := fun z => by
      have := congrArg Int32.toInt z
      rw [nI_toInt (by omega), show ((-1 : Int32)).toInt = -1 from rfl] at this
      omega
    by_cases c3 : lim < 1 ∨ ¬ lim ≤ 999
    · exact JJ.fault w hr (cL_pipe_IAE hlt w (c_X4_pipe_2bm hlt w hj c3)) (c_X5_pipe_f hlt w (K := 2) (by unfold sp_mpf; rw [hr.en]; simp [i2, ne1, sp_in0 c3]) (by decide)) (fun z => absurd z (by decide))
    obtain ⟨l1, l2⟩ := rg c3
    have i3 := sp_in1 l1 l2
    by_cases c4 : p < 24
    case neg => exact JJ.fault w hr (cL_pipe_ISE hlt w (c_X4_pipe_3am hlt w hj l1 l2 c4)) (c_X5_pipe_f hlt w (K := 3) (by unfold sp_mpf; rw [hr.en]; simp [i2, ne1, i3, e24.mpr (show p = 24 by omega)]) (by decide)) (fun z => absurd z (by decide))
    have e24n : ¬ Γ 11 0 24 = 24 := fun z => by have := e24.mp z; omega
    by_cases c5 : Γ 5 0 5 = 0
    case neg => exact JJ.fault w hr (cL_pipe_ISE hlt w (c_X4_pipe_3bm hlt w hj l1 l2 c4 c5)) (c_X5_pipe_f hlt w (K := 3) (by unfold sp_mpf; rw [hr.en]; simp [i2, ne1, i3, e24n, hr.fl.mpr c5]) (by decide)) (fun z => absurd z (by decide))
    have efn : ¬ Γ 11 0 1 = -1 := fun z => hr.fl.mp z c5
    refine JJ.good (by decide) (by decide) (cL_pipe_0 hlt w (Rr := fun i' n' p' ord' L' Γ' => nI p = i' ∧ n = n' ∧ p + 1 = p' ∧ ord = ord' ∧ LEd n p L L' ∧ sp_cpipe p (nI 0) (nI (j + 1)) lim Γ = Γ') ((c_X4_pipe_0m hlt w hj l1 l2 c4 c5).mono fun v h' q => by obtain ⟨q1, L', q2, q3⟩ := q; exact ⟨_, n, p + 1, ord, L', _, q1, q2 _ _ rfl, q3, rfl, rfl, rfl, rfl, q2, rfl⟩)) (fun i' n' p' ord' L' Γ' h1 q w1 => ?_)
    obtain ⟨rfl, rfl, rfl, rfl, q2, rfl⟩ := q
    have hsm := sm.ofd q2
    have hm : ∀ c' i'' j', 5 ≤ c' → sp_cpipe p (nI 0) (nI (j + 1)) lim Γ c' i'' j' = Γ c' i'' j' := fun c' i'' j' z => if_neg (by omega)
    have hc := c_X5_pipe_0 hlt w1 c4 (by rw [hm _ _ _ (by omega)]; exact hr.ep) (ft := -1) (t := nI j) (lim := lim) (by
      unfold sp_mpf
      rw [hm _ _ _ (by omega), hm _ _ _ (by omega), hm _ _ _ (by omega), hr.en]
      simp [i2, ne1, i3, e24n, efn])
    rw [hsm.2.1, if_pos rfl] at hc
    have kp := keep_pipe (fa := 8) (tb := j) (lim := lim) hr c5 (by omega) (by omega) (by omega) (rgI c3)
    rw [show nu 8 = 0 from rfl, show nu j = j + 1 from if_neg (by omega)] at kp
    refine ⟨hsm, fun j => hm _ _ _ (by omega), hc.mono fun v h' q => ⟨_, q.1, T, n, p + 1, _, _, ord, L', _, _, Nat.le_succ T, q.2, kp, hsm, fun j => ?_, ?_, fun _ => rfl⟩⟩
    · rw [u3_n (by omega), u3_n (by omega), u3_n (by omega), u3_n (by omega), u3_n (by omega), hm _ _ _ (by omega)]
    · rw [u3_n (by omega), u3_n (by omega), u3_n (by omega), u3_n (by omega), u3_s]
  · by_cases c1 : f < 0 ∨ nI n ≤ f
    · exact JJ.fault w hr (cL_pipe_IOB hlt w (c_X4_pipe_1a hlt w m c1)) (c_X5_pipe_f hlt w (K := 1) (by unfold sp_mpf; rw [hr.en]; simp [m, sp_inD0 (show n ≤ 1000 by omega) c1]) (by decide)) (fun z => absurd z (by decide))
    obtain ⟨i, hi, rfl⟩ := ix (by omega) c1
    have i1 := sp_inD1 hi (show n ≤ 1000 by omega)
    by_cases c2 : t < 0 ∨ nI n ≤ t
    · exact JJ.fault w hr (cL_pipe_IOB hlt w (c_X4_pipe_1bn hlt w hi c2)) (c_X5_pipe_f hlt w (K := 1) (by unfold sp_mpf; rw [hr.en]; simp [m, i1, sp_inD0 (show n ≤ 1000 by omega) c2]) (by decide)) (fun z => absurd z (by decide))
    obtain ⟨j, hj, rfl⟩ := ix (by omega) c2
    have i2 := sp_inD1 hj (show n ≤ 1000 by omega)
    by_cases hij : i = j
    · subst hij
      exact JJ.fault w hr (cL_pipe_IAE hlt w (c_X4_pipe_2an hlt w hi)) (c_X5_pipe_f hlt w (K := 2) (by unfold sp_mpf; rw [hr.en]; simp [m, i1, i2]) (by decide)) (fun z => absurd z (by decide))
    have ne1 : ¬ nI i = nI j := fun z => hij ((nI_eq (by omega) (by omega)).mp z)
    by_cases c3 : lim < 1 ∨ ¬ lim ≤ 999
    · exact JJ.fault w hr (cL_pipe_IAE hlt w (c_X4_pipe_2bn hlt w hi hj hij c3)) (c_X5_pipe_f hlt w (K := 2) (by unfold sp_mpf; rw [hr.en]; simp [m, i1, i2, ne1, sp_in0 c3]) (by decide)) (fun z => absurd z (by decide))
    obtain ⟨l1, l2⟩ := rg c3
    have i3 := sp_in1 l1 l2
    by_cases c4 : p < 24
    case neg => exact JJ.fault w hr (cL_pipe_ISE hlt w (c_X4_pipe_3an hlt w hi hj hij l1 l2 c4)) (c_X5_pipe_f hlt w (K := 3) (by unfold sp_mpf; rw [hr.en]; simp [m, i1, i2, ne1, i3, e24.mpr (show p = 24 by omega)]) (by decide)) (fun z => absurd z (by decide))
    have e24n : ¬ Γ 11 0 24 = 24 := fun z => by have := e24.mp z; omega
    by_cases c5 : Γ 5 0 5 = 0
    case neg => exact JJ.fault w hr (cL_pipe_ISE hlt w (c_X4_pipe_3bn hlt w hi hj hij l1 l2 c4 c5)) (c_X5_pipe_f hlt w (K := 3) (by unfold sp_mpf; rw [hr.en]; simp [m, i1, i2, ne1, i3, e24n, hr.fl.mpr c5]) (by decide)) (fun z => absurd z (by decide))
    have efn : ¬ Γ 11 0 1 = -1 := fun z => hr.fl.mp z c5
    refine JJ.good (by decide) (by decide) (cL_pipe_0 hlt w (Rr := fun i' n' p' ord' L' Γ' => nI p = i' ∧ n = n' ∧ p + 1 = p' ∧ ord = ord' ∧ LEd n p L L' ∧ sp_cpipe p (nI (i + 1)) (nI (j + 1)) lim Γ = Γ') ((c_X4_pipe_0n hlt w hi hj hij l1 l2 c4 c5).mono fun v h' q => by obtain ⟨q1, L', q2, q3⟩ := q; exact ⟨_, n, p + 1, ord, L', _, q1, q2 _ _ rfl, q3, rfl, rfl, rfl, rfl, q2, rfl⟩)) (fun i' n' p' ord' L' Γ' h1 q w1 => ?_)
    obtain ⟨rfl, rfl, rfl, rfl, q2, rfl⟩ := q
    have hsm := sm.ofd q2
    have hm : ∀ c' i'' j', 5 ≤ c' → sp_cpipe p (nI (i + 1)) (nI (j + 1)) lim Γ c' i'' j' = Γ c' i'' j' := fun c' i'' j' z => if_neg (by omega)
    have hc := c_X5_pipe_0 hlt w1 c4 (by rw [hm _ _ _ (by omega)]; exact hr.ep) (ft := nI i) (t := nI j) (lim := lim) (by
      unfold sp_mpf
      rw [hm _ _ _ (by omega), hm _ _ _ (by omega), hm _ _ _ (by omega), hr.en]
      simp [m, i1, i2, ne1, i3, e24n, efn])
    rw [hsm.2.1, if_neg m] at hc
    have kp := keep_pipe (fa := i) (tb := j) (lim := lim) hr c5 (by omega) (by omega) (by omega) (rgI c3)
    rw [show nu i = i + 1 from if_neg (by omega), show nu j = j + 1 from if_neg (by omega)] at kp
    refine ⟨hsm, fun j => hm _ _ _ (by omega), hc.mono fun v h' q => ⟨_, q.1, T, n, p + 1, _, _, ord, L', _, _, Nat.le_succ T, q.2, kp, hsm, fun j => ?_, ?_, fun _ => rfl⟩⟩
    · rw [u3_n (by omega), u3_n (by omega), u3_n (by omega), u3_n (by omega), u3_n (by omega), hm _ _ _ (by omega)]
    · rw [u3_n (by omega), u3_n (by omega), u3_n (by omega), u3_n (by omega), u3_s]
