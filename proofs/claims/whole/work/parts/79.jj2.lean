theorem J_ofDistrict {l : Launch} (hlt : l.stackTraces = false) {N n p T : Nat} {A B : Nat → Nat} {ord : List Nat} {L : Nat → Nat → Nat} {Γ : Nat → Nat → Nat → Int32} {o : Int64} {h : am_H} (w : WI N n p ord L Γ o h) (hr : RI T n p A B ord Γ) (a b : Int32) : JJ l N T L Γ yL_ofDistrict (.codeWith yL_ofDistrict cL_ofDistrict 5 (some .int) [(0, 10, 13, 21)]) [.ref (L 5 0), .int a, .int b, .ref (L 14 0)] yX5_ofDistrict (.code yX5_ofDistrict cX5_ofDistrict 3 (some .int)) [.ref (L 11 0), .int a, .int b] JI JPi h := by
  by_cases c1 : a < 0 ∨ nI n ≤ a
  · exact JJ.fault w hr (cL_ofDistrict_IOB hlt w (c_X4_of_1 hlt w c1)) (c_X5_of_1 hlt w w.1.1 hr.en c1) (fun z => absurd z (by decide))
  obtain ⟨i, hi, rfl⟩ := ix (Nat.le_trans w.1.1 (by decide)) c1
  obtain ⟨⟨a0, a1, a2, a3, a4, a5, a6, a7, a8, a9⟩, ⟨b1, -⟩, b2, -⟩ := hr.2.1 i hi
  by_cases c2 : b < 0 ∨ nI 9 ≤ b
  · refine JJ.fault w hr (cL_ofDistrict_IOB hlt w (c_X4_of_2 hlt w hi c2)) (c_X5_of_2 hlt w w.1.1 hr.en hi ?_) (fun z => absurd z (by decide))
    rcases c2 with z | z
    · exact Or.inl z
    · right
      rw [Int32.le_iff_toInt_le] at z ⊢
      rw [nI_toInt (by omega)] at z
      show ¬ b.toInt ≤ 8
      omega
  obtain ⟨k, hk, rfl⟩ := ix (by decide) c2
  rcases k with _ | _ | _ | _ | _ | _ | _ | _ | _ | k
  · refine JJ.good (by decide) (by decide) (cL_ofDistrict_0 hlt w (Rr := fun i' n' p' ord' L' Γ' => Γ 2 i 3 = i' ∧ n = n' ∧ p = p' ∧ ord = ord' ∧ L = L' ∧ Γ = Γ') ((c_X4_of_0_0 hlt w hi).mono fun v h' q => ⟨_, n, p, ord, L, Γ, q.1, rfl, by rw [q.2]; exact w, rfl, rfl, rfl, rfl, rfl, rfl⟩)) (fun i' n' p' ord' L' Γ' h1 q w1 => ?_)
    obtain ⟨rfl, rfl, rfl, rfl, rfl, rfl⟩ := q
    refine ⟨sm.rf, fun j => rfl, (c_X5_of_0_0 hlt w1 w.1.1 hr.en hi).mono fun v h' q => ⟨_, q.1, T, n, p, A, B, ord, L, _, _, Nat.le_succ T, q.2, hr.thrown 0, sm.rf, fun j => u3_n (by omega), u3_s, fun _ => ?_⟩⟩
    rw [a3]
  · refine JJ.good (by decide) (by decide) (cL_ofDistrict_0 hlt w (Rr := fun i' n' p' ord' L' Γ' => (if Γ 0 i 0 = 0 then -1 else Γ 0 i 1) = i' ∧ n = n' ∧ p = p' ∧ ord = ord' ∧ L = L' ∧ Γ = Γ') ((c_X4_of_0_1 hlt w hi).mono fun v h' q => ⟨_, n, p, ord, L, Γ, q.1, rfl, by rw [q.2]; exact w, rfl, rfl, rfl, rfl, rfl, rfl⟩)) (fun i' n' p' ord' L' Γ' h1 q w1 => ?_)
    obtain ⟨rfl, rfl, rfl, rfl, rfl, rfl⟩ := q
    refine ⟨sm.rf, fun j => rfl, (c_X5_of_0_1 hlt w1 w.1.1 hr.en hi).mono fun v h' q => ⟨_, q.1, T, n, p, A, B, ord, L, _, _, Nat.le_succ T, q.2, hr.thrown 0, sm.rf, fun j => u3_n (by omega), u3_s, fun _ => ?_⟩⟩
    by_cases z : Γ 0 i 0 = 0
    · rw [if_pos z, if_pos (b1.mpr z)]
    · rw [if_neg z, if_neg (fun y => z (b1.mp y)), (b2 z).1]
  · refine JJ.good (by decide) (by decide) (cL_ofDistrict_0 hlt w (Rr := fun i' n' p' ord' L' Γ' => (if Γ 0 i 0 = 0 then -1 else Γ 0 i 2) = i' ∧ n = n' ∧ p = p' ∧ ord = ord' ∧ L = L' ∧ Γ = Γ') ((c_X4_of_0_2 hlt w hi).mono fun v h' q => ⟨_, n, p, ord, L, Γ, q.1, rfl, by rw [q.2]; exact w, rfl, rfl, rfl, rfl, rfl, rfl⟩)) (fun i' n' p' ord' L' Γ' h1 q w1 => ?_)
    obtain ⟨rfl, rfl, rfl, rfl, rfl, rfl⟩ := q
    refine ⟨sm.rf, fun j => rfl, (c_X5_of_0_2 hlt w1 w.1.1 hr.en hi).mono fun v h' q => ⟨_, q.1, T, n, p, A, B, ord, L, _, _, Nat.le_succ T, q.2, hr.thrown 0, sm.rf, fun j => u3_n (by omega), u3_s, fun _ => ?_⟩⟩
    by_cases z : Γ 0 i 0 = 0
    · rw [if_pos z, if_pos (b1.mpr z)]
    · rw [if_neg z, if_neg (fun y => z (b1.mp y)), (b2 z).2.1]
  · refine JJ.good (by decide) (by decide) (cL_ofDistrict_0 hlt w (Rr := fun i' n' p' ord' L' Γ' => Γ 2 i 8 = i' ∧ n = n' ∧ p = p' ∧ ord = ord' ∧ L = L' ∧ Γ = Γ') ((c_X4_of_0_3 hlt w hi).mono fun v h' q => ⟨_, n, p, ord, L, Γ, q.1, rfl, by rw [q.2]; exact w, rfl, rfl, rfl, rfl, rfl, rfl⟩)) (fun i' n' p' ord' L' Γ' h1 q w1 => ?_)
    obtain ⟨rfl, rfl, rfl, rfl, rfl, rfl⟩ := q
    refine ⟨sm.rf, fun j => rfl, (c_X5_of_0_3 hlt w1 w.1.1 hr.en hi).mono fun v h' q => ⟨_, q.1, T, n, p, A, B, ord, L, _, _, Nat.le_succ T, q.2, hr.thrown 0, sm.rf, fun j => u3_n (by omega), u3_s, fun _ => ?_⟩⟩
    rw [a4]
  · refine JJ.good (by decide) (by decide) (cL_ofDistrict_0 hlt w (Rr := fun i' n' p' ord' L' Γ' => Γ 2 i 9 = i' ∧ n = n' ∧ p = p' ∧ ord = ord' ∧ L = L' ∧ Γ = Γ') ((c_X4_of_0_4 hlt w hi).mono fun v h' q => ⟨_, n, p, ord, L, Γ, q.1, rfl, by rw [q.2]; exact w, rfl, rfl, rfl, rfl, rfl, rfl⟩)) (fun i' n' p' ord' L' Γ' h1 q w1 => ?_)
    obtain ⟨rfl, rfl, rfl, rfl, rfl, rfl⟩ := q
    refine ⟨sm.rf, fun j => rfl, (c_X5_of_0_4 hlt w1 w.1.1 hr.en hi).mono fun v h' q => ⟨_, q.1, T, n, p, A, B, ord, L, _, _, Nat.le_succ T, q.2, hr.thrown 0, sm.rf, fun j => u3_n (by omega), u3_s, fun _ => ?_⟩⟩
    rw [a5]
  · refine JJ.good (by decide) (by decide) (cL_ofDistrict_0 hlt w (Rr := fun i' n' p' ord' L' Γ' => Γ 2 i 10 = i' ∧ n = n' ∧ p = p' ∧ ord = ord' ∧ L = L' ∧ Γ = Γ') ((c_X4_of_0_5 hlt w hi).mono fun v h' q => ⟨_, n, p, ord, L, Γ, q.1, rfl, by rw [q.2]; exact w, rfl, rfl, rfl, rfl, rfl, rfl⟩)) (fun i' n' p' ord' L' Γ' h1 q w1 => ?_)
    obtain ⟨rfl, rfl, rfl, rfl, rfl, rfl⟩ := q
    refine ⟨sm.rf, fun j => rfl, (c_X5_of_0_5 hlt w1 w.1.1 hr.en hi).mono fun v h' q => ⟨_, q.1, T, n, p, A, B, ord, L, _, _, Nat.le_succ T, q.2, hr.thrown 0, sm.rf, fun j => u3_n (by omega), u3_s, fun _ => ?_⟩⟩
    rw [a6]
  · refine JJ.good (by decide) (by decide) (cL_ofDistrict_0 hlt w (Rr := fun i' n' p' ord' L' Γ' => Γ 2 i 11 = i' ∧ n = n' ∧ p = p' ∧ ord = ord' ∧ L = L' ∧ Γ = Γ') ((c_X4_of_0_6 hlt w hi).mono fun v h' q => ⟨_, n, p, ord, L, Γ, q.1, rfl, by rw [q.2]; exact w, rfl, rfl, rfl, rfl, rfl, rfl⟩)) (fun i' n' p' ord' L' Γ' h1 q w1 => ?_)
    obtain ⟨rfl, rfl, rfl, rfl, rfl, rfl⟩ := q
    refine ⟨sm.rf, fun j => rfl, (c_X5_of_0_6 hlt w1 w.1.1 hr.en hi).mono fun v h' q => ⟨_, q.1, T, n, p, A, B, ord, L, _, _, Nat.le_succ T, q.2, hr.thrown 0, sm.rf, fun j => u3_n (by omega), u3_s, fun _ => ?_⟩⟩
    rw [a7]
  · refine JJ.good (by decide) (by decide) (cL_ofDistrict_0 hlt w (Rr := fun i' n' p' ord' L' Γ' => Γ 2 i 12 = i' ∧ n = n' ∧ p = p' ∧ ord = ord' ∧ L = L' ∧ Γ = Γ') ((c_X4_of_0_7 hlt w hi).mono fun v h' q => ⟨_, n, p, ord, L, Γ, q.1, rfl, by rw [q.2]; exact w, rfl, rfl, rfl, rfl, rfl, rfl⟩)) (fun i' n' p' ord' L' Γ' h1 q w1 => ?_)
    obtain ⟨rfl, rfl, rfl, rfl, rfl, rfl⟩ := q
    refine ⟨sm.rf, fun j => rfl, (c_X5_of_0_7 hlt w1 w.1.1 hr.en hi).mono fun v h' q => ⟨_, q.1, T, n, p, A, B, ord, L, _, _, Nat.le_succ T, q.2, hr.thrown 0, sm.rf, fun j => u3_n (by omega), u3_s, fun _ => ?_⟩⟩
    rw [a8]
  · refine JJ.good (by decide) (by decide) (cL_ofDistrict_0 hlt w (Rr := fun i' n' p' ord' L' Γ' => Γ 2 i 13 = i' ∧ n = n' ∧ p = p' ∧ ord = ord' ∧ L = L' ∧ Γ = Γ') ((c_X4_of_0_8 hlt w hi).mono fun v h' q => ⟨_, n, p, ord, L, Γ, q.1, rfl, by rw [q.2]; exact w, rfl, rfl, rfl, rfl, rfl, rfl⟩)) (fun i' n' p' ord' L' Γ' h1 q w1 => ?_)
    obtain ⟨rfl, rfl, rfl, rfl, rfl, rfl⟩ := q
    refine ⟨sm.rf, fun j => rfl, (c_X5_of_0_8 hlt w1 w.1.1 hr.en hi).mono fun v h' q => ⟨_, q.1, T, n, p, A, B, ord, L, _, _, Nat.le_succ T, q.2, hr.thrown 0, sm.rf, fun j => u3_n (by omega), u3_s, fun _ => ?_⟩⟩
    rw [a9]
  · omega
theorem J_place {l : Launch} (hlt : l.stackTraces = false) {N n p T : Nat} {A B : Nat → Nat} {ord : List Nat} {L : Nat → Nat → Nat} {Γ : Nat → Nat → Nat → Int32} {o : Int64} {h : am_H} (w : WI N n p ord L Γ o h) (hr : RI T n p A B ord Γ) (a : Int32) : JJ l N T L Γ yL_place (.codeWith yL_place cL_place 4 (some .int) [(0, 9, 12, 21)]) [.ref (L 5 0), .int a, .ref (L 14 0)] yX5_place (.code yX5_place cX5_place 2 (some .int)) [.ref (L 11 0), .int a] JI JPi h := by
  by_cases c1 : a < 0 ∨ nI n ≤ a
  · exact JJ.fault w hr (cL_place_IOB hlt w (c_X4_place_1 hlt w c1)) (c_X5_place_1 hlt w w.1.1 hr.en c1) (fun z => absurd z (by decide))
  obtain ⟨i, hi, rfl⟩ := ix (Nat.le_trans w.1.1 (by decide)) c1
  have b1 := (hr.2.1 i hi).2.1.1
  refine JJ.good (by decide) (by decide) (cL_place_0 hlt w (Rr := fun i' n' p' ord' L' Γ' => (if Γ 0 i 0 = 0 then -1 else sp_sum (fun j => if sp_ahead Γ (ord.getD j 0) i = 0 then 0 else 1) ord.length) = i' ∧ n = n' ∧ p = p' ∧ ord = ord' ∧ L = L' ∧ Γ = Γ') ((c_X4_place_0 hlt w hi).mono fun v h' q => ⟨_, n, p, ord, L, Γ, q.1, rfl, by rw [q.2]; exact w, rfl, rfl, rfl, rfl, rfl, rfl⟩)) (fun i' n' p' ord' L' Γ' h1 q w1 => ?_)
  obtain ⟨rfl, rfl, rfl, rfl, rfl, rfl⟩ := q
  refine ⟨sm.rf, fun j => rfl, (c_X5_place_0 hlt w1 w.1.1 hr.en hi).mono fun v h' q => ⟨_, q.1, T, n, p, A, B, ord, L, _, _, Nat.le_succ T, q.2, hr.thrown 0, sm.rf, fun j => u3_n (by omega), u3_s, fun _ => ?_⟩⟩
  by_cases z : Γ 0 i 0 = 0
  · rw [if_pos z, if_pos (b1.mpr z)]
  · rw [if_neg z, if_neg (fun y => z (b1.mp y)), sp_place_congr (fun j => u3_n (by omega)) (fun j => u3_n (by omega)) (fun j => u3_n (by omega)), hr.rs.place hr.2.2.2.2.1 hi z, sp_ahead_cnt]
theorem sum_sub {f g : Nat → Int32} : ∀ n, sp_sum (fun j => f j - g j) n = sp_sum f n - sp_sum g n
  | 0 => by
    show (0 : Int32) = 0 - 0
    decide
  | n + 1 => by
    show sp_sum (fun j => f j - g j) n + (f n - g n) = sp_sum f n + f n - (sp_sum g n + g n)
    rw [sum_sub n]
    grind
theorem J_count {l : Launch} (hlt : l.stackTraces = false) {N n p T : Nat} {A B : Nat → Nat} {ord : List Nat} {L : Nat → Nat → Nat} {Γ : Nat → Nat → Nat → Int32} {o : Int64} {h : am_H} (w : WI N n p ord L Γ o h) (hr : RI T n p A B ord Γ) (b : Int32) : JJ l N T L Γ yL_count (.codeWith yL_count cL_count 4 (some .int) [(0, 9, 12, 13)]) [.ref (L 5 0), .int b, .ref (L 14 0)] yX5_count (.code yX5_count cX5_count 2 (some .int)) [.ref (L 11 0), .int b] JI JPi h := by
  by_cases c2 : b < 0 ∨ nI 8 ≤ b
  · refine JJ.fault w hr (cL_count_IAE hlt w (c_X4_count_1 hlt w c2)) (c_X5_count_1 hlt w ?_) (fun z => absurd z (by decide))
    rcases c2 with z | z
    · exact Or.inl z
    · right
      rw [Int32.le_iff_toInt_le] at z ⊢
      rw [nI_toInt (by omega)] at z
      show ¬ b.toInt ≤ 7
      omega
  obtain ⟨k, hk, rfl⟩ := ix (by decide) c2
  rcases k with _ | _ | _ | _ | _ | _ | _ | _ | k
  · refine JJ.good (by decide) (by decide) (cL_count_0 hlt w (Rr := fun i' n' p' ord' L' Γ' => nI n = i' ∧ n = n' ∧ p = p' ∧ ord = ord' ∧ L = L' ∧ Γ = Γ') ((c_X4_count_0_0 hlt w).mono fun v h' q => ⟨_, n, p, ord, L, Γ, q.1, rfl, by rw [q.2]; exact w, rfl, rfl, rfl, rfl, rfl, rfl⟩)) (fun i' n' p' ord' L' Γ' h1 q w1 => ?_)
    obtain ⟨rfl, rfl, rfl, rfl, rfl, rfl⟩ := q
    refine ⟨sm.rf, fun j => rfl, (c_X5_count_0_0 hlt w1 w.1.1 hr.en w.1.2.1 hr.ep).mono fun v h' q => ⟨_, q.1, T, n, p, A, B, ord, L, _, _, Nat.le_succ T, q.2, hr.thrown 0, sm.rf, fun j => u3_n (by omega), u3_s, fun _ => ?_⟩⟩
    rfl
  · refine JJ.good (by decide) (by decide) (cL_count_0 hlt w (Rr := fun i' n' p' ord' L' Γ' => nI p = i' ∧ n = n' ∧ p = p' ∧ ord = ord' ∧ L = L' ∧ Γ = Γ') ((c_X4_count_0_1 hlt w).mono fun v h' q => ⟨_, n, p, ord, L, Γ, q.1, rfl, by rw [q.2]; exact w, rfl, rfl, rfl, rfl, rfl, rfl⟩)) (fun i' n' p' ord' L' Γ' h1 q w1 => ?_)
    obtain ⟨rfl, rfl, rfl, rfl, rfl, rfl⟩ := q
    refine ⟨sm.rf, fun j => rfl, (c_X5_count_0_1 hlt w1 w.1.1 hr.en w.1.2.1 hr.ep).mono fun v h' q => ⟨_, q.1, T, n, p, A, B, ord, L, _, _, Nat.le_succ T, q.2, hr.thrown 0, sm.rf, fun j => u3_n (by omega), u3_s, fun _ => ?_⟩⟩
    rfl
  · refine JJ.good (by decide) (by decide) (cL_count_0 hlt w (Rr := fun i' n' p' ord' L' Γ' => (sp_sum (fun j => if Γ 4 j 3 = 0 then 0 else 1) p) = i' ∧ n = n' ∧ p = p' ∧ ord = ord' ∧ L = L' ∧ Γ = Γ') ((c_X4_count_0_2 hlt w).mono fun v h' q => ⟨_, n, p, ord, L, Γ, q.1, rfl, by rw [q.2]; exact w, rfl, rfl, rfl, rfl, rfl, rfl⟩)) (fun i' n' p' ord' L' Γ' h1 q w1 => ?_)
    obtain ⟨rfl, rfl, rfl, rfl, rfl, rfl⟩ := q
    refine ⟨sm.rf, fun j => rfl, (c_X5_count_0_2 hlt w1 w.1.1 hr.en w.1.2.1 hr.ep).mono fun v h' q => ⟨_, q.1, T, n, p, A, B, ord, L, _, _, Nat.le_succ T, q.2, hr.thrown 0, sm.rf, fun j => u3_n (by omega), u3_s, fun _ => ?_⟩⟩
    congr 1
    refine sp_sum_congr p fun j hj => ?_
    have q := (hr.2.2.2.1 j hj).2.2.2.2.2
    by_cases z : Γ 4 j 3 = 0
    · rw [if_pos z, if_pos (q.mpr z)]
    · rw [if_neg z, if_neg (fun y => z (q.mp y))]
  · refine JJ.good (by decide) (by decide) (cL_count_0 hlt w (Rr := fun i' n' p' ord' L' Γ' => nI ord.length = i' ∧ n = n' ∧ p = p' ∧ ord = ord' ∧ L = L' ∧ Γ = Γ') ((c_X4_count_0_3 hlt w).mono fun v h' q => ⟨_, n, p, ord, L, Γ, q.1, rfl, by rw [q.2]; exact w, rfl, rfl, rfl, rfl, rfl, rfl⟩)) (fun i' n' p' ord' L' Γ' h1 q w1 => ?_)
    obtain ⟨rfl, rfl, rfl, rfl, rfl, rfl⟩ := q
    refine ⟨sm.rf, fun j => rfl, (c_X5_count_0_3 hlt w1 w.1.1 hr.en w.1.2.1 hr.ep).mono fun v h' q => ⟨_, q.1, T, n, p, A, B, ord, L, _, _, Nat.le_succ T, q.2, hr.thrown 0, sm.rf, fun j => u3_n (by omega), u3_s, fun _ => ?_⟩⟩
    rw [hr.rs.standing hr.2.2.2.2.1]
  · refine JJ.good (by decide) (by decide) (cL_count_0 hlt w (Rr := fun i' n' p' ord' L' Γ' => (sp_sum (fun j => Γ 2 j 8) n) = i' ∧ n = n' ∧ p = p' ∧ ord = ord' ∧ L = L' ∧ Γ = Γ') ((c_X4_count_0_4 hlt w).mono fun v h' q => ⟨_, n, p, ord, L, Γ, q.1, rfl, by rw [q.2]; exact w, rfl, rfl, rfl, rfl, rfl, rfl⟩)) (fun i' n' p' ord' L' Γ' h1 q w1 => ?_)
    obtain ⟨rfl, rfl, rfl, rfl, rfl, rfl⟩ := q
    refine ⟨sm.rf, fun j => rfl, (c_X5_count_0_4 hlt w1 w.1.1 hr.en w.1.2.1 hr.ep).mono fun v h' q => ⟨_, q.1, T, n, p, A, B, ord, L, _, _, Nat.le_succ T, q.2, hr.thrown 0, sm.rf, fun j => u3_n (by omega), u3_s, fun _ => ?_⟩⟩
    congr 1
    exact sp_sum_congr n fun j hj => (hr.2.1 j hj).1.2.2.2.2.1.symm
  · refine JJ.good (by decide) (by decide) (cL_count_0 hlt w (Rr := fun i' n' p' ord' L' Γ' => (sp_sum (fun j => Γ 2 j 3) n) = i' ∧ n = n' ∧ p = p' ∧ ord = ord' ∧ L = L' ∧ Γ = Γ') ((c_X4_count_0_5 hlt w).mono fun v h' q => ⟨_, n, p, ord, L, Γ, q.1, rfl, by rw [q.2]; exact w, rfl, rfl, rfl, rfl, rfl, rfl⟩)) (fun i' n' p' ord' L' Γ' h1 q w1 => ?_)
    obtain ⟨rfl, rfl, rfl, rfl, rfl, rfl⟩ := q
    refine ⟨sm.rf, fun j => rfl, (c_X5_count_0_5 hlt w1 w.1.1 hr.en w.1.2.1 hr.ep).mono fun v h' q => ⟨_, q.1, T, n, p, A, B, ord, L, _, _, Nat.le_succ T, q.2, hr.thrown 0, sm.rf, fun j => u3_n (by omega), u3_s, fun _ => ?_⟩⟩
    congr 1
    exact sp_sum_congr n fun j hj => (hr.2.1 j hj).1.2.2.2.1.symm
  · refine JJ.good (by decide) (by decide) (cL_count_0 hlt w (Rr := fun i' n' p' ord' L' Γ' => (sp_sum (fun j => Γ 2 j 9 - Γ 2 j 10) n) = i' ∧ n = n' ∧ p = p' ∧ ord = ord' ∧ L = L' ∧ Γ = Γ') ((c_X4_count_0_6 hlt w).mono fun v h' q => ⟨_, n, p, ord, L, Γ, q.1, rfl, by rw [q.2]; exact w, rfl, rfl, rfl, rfl, rfl, rfl⟩)) (fun i' n' p' ord' L' Γ' h1 q w1 => ?_)
    obtain ⟨rfl, rfl, rfl, rfl, rfl, rfl⟩ := q
    refine ⟨sm.rf, fun j => rfl, (c_X5_count_0_6 hlt w1 w.1.1 hr.en w.1.2.1 hr.ep).mono fun v h' q => ⟨_, q.1, T, n, p, A, B, ord, L, _, _, Nat.le_succ T, q.2, hr.thrown 0, sm.rf, fun j => u3_n (by omega), u3_s, fun _ => ?_⟩⟩
    congr 1
    rw [sum_sub, sp_sum_congr n fun j hj => (hr.2.1 j hj).1.2.2.2.2.2.1.symm, sp_sum_congr n fun j hj => (hr.2.1 j hj).1.2.2.2.2.2.2.1.symm]
  · refine JJ.good (by decide) (by decide) (cL_count_0 hlt w (Rr := fun i' n' p' ord' L' Γ' => Γ 5 0 8 = i' ∧ n = n' ∧ p = p' ∧ ord = ord' ∧ L = L' ∧ Γ = Γ') ((c_X4_count_0_7 hlt w).mono fun v h' q => ⟨_, n, p, ord, L, Γ, q.1, rfl, by rw [q.2]; exact w, rfl, rfl, rfl, rfl, rfl, rfl⟩)) (fun i' n' p' ord' L' Γ' h1 q w1 => ?_)
    obtain ⟨rfl, rfl, rfl, rfl, rfl, rfl⟩ := q
    refine ⟨sm.rf, fun j => rfl, (c_X5_count_0_7 hlt w1 w.1.1 hr.en w.1.2.1 hr.ep).mono fun v h' q => ⟨_, q.1, T, n, p, A, B, ord, L, _, _, Nat.le_succ T, q.2, hr.thrown 0, sm.rf, fun j => u3_n (by omega), u3_s, fun _ => ?_⟩⟩
    rw [hr.1.2.2.2.2.2.2.2.2.1]
  · omega
theorem kg_u {Γ : Nat → Nat → Nat → Int32} {i j : Nat} {v : Int32} (h : 0 ≤ KG Γ j ∧ KG Γ j ≤ 999) (h27 : 0 ≤ (Γ 12 27 j).toInt ∧ (Γ 12 27 j).toInt ≤ 999) : 0 ≤ KG (u3 Γ 13 28 i v) j ∧ KG (u3 Γ 13 28 i v) j ≤ 999 := by
  unfold KG at *
  rw [u3_n (c' := 12) (by omega)]
  split
  · exact h27
  · omega
theorem J_burst {l : Launch} (hlt : l.stackTraces = false) {N n p T : Nat} {A B : Nat → Nat} {ord : List Nat} {L : Nat → Nat → Nat} {Γ : Nat → Nat → Nat → Int32} {o : Int64} {h : am_H} (w : WI N n p ord L Γ o h) (hr : RI T n p A B ord Γ) (a : Int32) : JJ l N T L Γ yL_burst (.codeWith yL_burst cL_burst 4 (some .int) [(0, 9, 12, 21), (0, 9, 15, 15)]) [.ref (L 5 0), .int a, .ref (L 14 0)] yX5_burst (.code yX5_burst cX5_burst 6 (some .int)) [.ref (L 11 0), .int a] JI JPi h := by
  by_cases c1 : a < 0 ∨ nI p ≤ a
  · exact JJ.fault w hr (cL_burst_IOB hlt w (c_X4_burst_1 hlt w c1)) (c_X5_burst_1 hlt w w.1.2.1 hr.ep c1) (fun z => absurd z (by decide))
  obtain ⟨i, hi, rfl⟩ := ix (Nat.le_trans w.1.2.1 (by decide)) c1
  have hb := (hr.2.2.2.1 i hi).2.2.2.2.2
  by_cases c2 : Γ 4 i 3 = 0
  case neg => exact JJ.fault w hr (cL_burst_ISE hlt w (c_X4_burst_2 hlt w hi c2)) (c_X5_burst_2 hlt w w.1.2.1 hr.ep hi (fun z => c2 (hb.mp z))) (fun z => absurd z (by decide))
  by_cases c3 : Γ 5 0 5 = 0
  · refine JJ.good (by decide) (by decide) (cL_burst_0 hlt w (Rr := fun i' n' p' ord' L' Γ' => (0 : Int32) = i' ∧ n = n' ∧ p = p' ∧ ord = ord' ∧ L = L' ∧ u3 Γ 4 i 3 1 = Γ') ((c_X4_burst_0a hlt w hi c2 c3).mono fun v h' q => ⟨_, n, p, ord, L, _, q.1, rfl, q.2, rfl, rfl, rfl, rfl, rfl, rfl⟩)) (fun i' n' p' ord' L' Γ' h1 q w1 => ?_)
    obtain ⟨rfl, rfl, rfl, rfl, rfl, rfl⟩ := q
    refine ⟨sm.rf, fun j => u3_n (by omega), (c_X5_burst_0a hlt w1 w.1.2.1 (by rw [u3_n (by omega)]; exact hr.ep) hi (by rw [u3_n (by omega)]; exact hb.mpr c2) (by rw [u3_n (by omega)]; exact fun z => hr.fl.mp z c3)).mono fun v h' q => ⟨0, q.1, T, n, p, A, B, ord, L, _, _, Nat.le_succ T, q.2, keep_pipeflag hr c3 hi 1, sm.rf, fun j => ?_, ?_, fun _ => rfl⟩⟩
    · rw [u3_n (by omega), u3_n (by omega), u3_n (by omega)]
    · rw [u3_n (by omega), u3_s]
  · have hinj := hr.2.2.2.2.1.inj
    have hsc : SC (u3 Γ 4 i 3 1) n p (nuf A) (nuf B) := by
      obtain ⟨s1, s2, s3⟩ := hr.sc
      refine ⟨fun j hj => ?_, fun d hd => by rw [u3_n (by omega)]; exact s2 d hd, by rw [u3_n (by omega)]; exact s3⟩
      have q := s1 j hj
      unfold KC at *
      rw [u3_n (j' := 0) (by omega), u3_n (j' := 1) (by omega), u3_n (j' := 2) (by omega)]
      refine ⟨q.1, q.2.1, q.2.2.1, q.2.2.2.1, ?_⟩
      by_cases z : j = i
      · subst z
        rw [u3_s, if_neg (show ¬ (1 : Int32) = 0 by decide)]
        exact ⟨by decide, by decide⟩
      · rw [u3_n (by omega)]
        exact q.2.2.2.2
    have hcap : ∀ k, k < ord.length → 0 ≤ (Γ 2 (od ord k) 8).toInt ∧ (Γ 2 (od ord k) 8).toInt ≤ 9999 := fun k hk => (hr.2.1 _ (hr.st hk).1).2.2.2.2.2.1
    refine JJ.good (by decide) (by decide) (cL_burst_0 hlt w (Rr := fun i' n' p' ord' L' Γ' => ∃ (x : Nat → Int) (G : Nat → Nat → Nat → Int32), (sp_sum (fun k => G 2 (od ord k) 7 - G 2 (od ord k) 8) ord.length) = i' ∧ n = n' ∧ p = p' ∧ ord = ord' ∧ L = L' ∧ cit 10 Fback ord ord.length G = Γ' ∧ CST (cit 7 F7g ord ord.length (u3 Γ 4 i 3 1)) G p (nuf A) (nuf B) ord x) ((c_X4_burst_0b hlt w hi c2 c3 hsc hinj hcap).mono fun v h' q => by obtain ⟨x, G, q1, q2, q3⟩ := q; exact ⟨_, n, p, ord, L, _, q1, rfl, q2, x, G, rfl, rfl, rfl, rfl, rfl, rfl, q3⟩)) (fun i' n' p' ord' L' Γ' h1 q w1 => ?_)
    obtain ⟨x, G, rfl, rfl, rfl, rfl, rfl, rfl, hC⟩ := q
    have hm : ∀ c i' j, 11 ≤ c → cit 10 Fback ord ord.length G c i' j = Γ c i' j := fun c i' j z => by rw [cst_m hC z, cit_fr (by omega), u3_n (by omega)]
    have h0 : ∀ i' j, cit 10 Fback ord ord.length G 0 i' j = Γ 0 i' j := fun i' j => by rw [cit_fr (by omega), hC.1 0 i' j (by omega) (by omega) (by omega) (by omega), cit_fr (by omega), u3_n (by omega)]
    have hsj : SJ (u3 (u3 (cit 10 Fback ord ord.length G) 11 0 34 0) 13 28 i 1) n p A B (od ord) ord.length := by
      refine sj_of (fun d hd => ?_) (hr.2.2.2.2.1.congr fun i' j _ => by rw [u3_n (by omega), u3_n (by omega), h0]) w.1.1 (hr.pj.fr (fun j => by rw [u3_n (by omega), u3_n (by omega), hm _ _ _ (by omega)]) (fun j => by rw [u3_n (by omega), u3_n (by omega), hm _ _ _ (by omega)])) (fun j hj => ?_) ?_
      · have hG : ∀ c i' j, ¬ (c = 11 ∧ j = 34) → ¬ (c = 13 ∧ i' = 28) → (u3 (u3 (cit 10 Fback ord ord.length G) 11 0 34 0) 13 28 i 1) c i' j = cit 10 Fback ord ord.length G c i' j := fun c i' j z1 z2 => by rw [u3_n (by omega), u3_n (by omega)]
        rw [hG 13 10 d (by omega) (by omega), hG 0 d 0 (by omega) (by omega), hG 12 7 d (by omega) (by omega), hG 0 d 1 (by omega) (by omega), hG 12 9 d (by omega) (by omega), hG 0 d 3 (by omega) (by omega), hm 13 10 d (by omega), hm 12 7 d (by omega), hm 12 9 d (by omega), h0, h0, h0]
        exact hr.rs d hd
      · have q := hr.2.2.2.1 j hj
        have hkg : KG (u3 (cit 10 Fback ord ord.length G) 11 0 34 0) = KG Γ := by
          funext j
          unfold KG
          rw [u3_n (by omega), u3_n (by omega), hm _ _ _ (by omega), hm _ _ _ (by omega)]
        refine kg_u (by rw [hkg]; exact (hr.kc hj).2) ?_
        rw [u3_n (by omega), hm _ _ _ (by omega), q.2.2.2.1]
        have := q.2.2.2.2.1
        omega
      · rw [u3_n (by omega), u3_n (by omega), hm _ _ _ (by omega), hr.1.2.2.2.2.2.2.2.2.2.1]
        exact hr.1.2.2.2.2.2.2.2.2.2.2.1
    refine ⟨sm.rf, fun j => hm _ _ _ (by omega), (c_X5_burst_0b hlt w1 w.1.1 (by rw [hm _ _ _ (by omega)]; exact hr.en) w.1.2.1 (by rw [hm _ _ _ (by omega)]; exact hr.ep) hi (by rw [hm _ _ _ (by omega)]; exact hb.mpr c2) (by rw [hm _ _ _ (by omega)]; exact hr.fl.mpr c3) hsj (fun k hk => (hr.st hk).1) (fun k hk => ?_)).mono fun v h' q => ?_⟩
    · rw [hm _ _ _ (by omega), (hr.2.1 _ (hr.st hk).1).1.2.2.2.2.1]
      exact hcap k hk
    · obtain ⟨y, G2, q1, q2, q3⟩ := q
      obtain ⟨k1, k2⟩ := keep_burst hr w.1.1 c3 hi hC q3
      refine ⟨_, q1, T, n, p, A, B, ord, L, _, _, Nat.le_succ T, q2, k1, sm.rf, fun j => ?_, ?_, fun _ => by rw [k2]⟩
      · rw [sp_mback_fr (by omega), q3.1 15 0 j (by omega) (by omega) (by omega), sp_m33_fr (by omega), u3_n (by omega), u3_n (by omega), hm _ _ _ (by omega)]
      · rw [sp_mback_fr (by omega), q3.1 11 0 34 (by omega) (by omega) (by omega), sp_m33_fr (by omega), u3_n (by omega), u3_s]
