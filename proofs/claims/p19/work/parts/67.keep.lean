/-! ===== bids told; districts and pipes more ===== -/
section KEEP2
variable {T n p : Nat} {A B : Nat → Nat} {ord : List Nat} {Γ : Nat → Nat → Nat → Int32}
theorem cbid_fr {i : Nat} {a c : Int32} {c' i' j' : Nat} (z1 : ¬ (c' = 1 ∧ i' = i)) (z2 : ¬ (c' = 5 ∧ (j' = 6 ∨ j' = 7))) : sp_cbid Γ i a c c' i' j' = Γ c' i' j' := by
  unfold sp_cbid
  rw [u3_n (by omega), u3_n (by omega), u3_n (by omega), u3_n (by omega), u3_n (by omega)]
  split
  · rw [u3_n (by omega)]
  · rfl
theorem keep_bid (h : CI T n p A B ord Γ) {i : Nat} (hi : i < n) (hT : T < 100000) {a c : Int32} (ha : 0 ≤ a.toInt ∧ a.toInt ≤ 99) (hc : 0 ≤ c.toInt ∧ c.toInt ≤ 999) : CI (T + 1) n p A B ord (sp_cbid Γ i a c) := by
  obtain ⟨r1, r2, r3, r4, r5, r6⟩ := h
  obtain ⟨g1, g2, g3, g4, g5, g6⟩ := id r1
  obtain ⟨G, eG⟩ : ∃ G, G = sp_cbid Γ i a c := ⟨_, rfl⟩
  have F : ∀ c' i' j', ¬ (c' = 1 ∧ i' = i) → ¬ (c' = 5 ∧ (j' = 6 ∨ j' = 7)) → G c' i' j' = Γ c' i' j' := fun c' i' j' z1 z2 => by rw [eG]; exact cbid_fr z1 z2
  have v0 : G 1 i 0 = 1 := by rw [eG]; simp [sp_cbid, u3_ap]
  have v1 : G 1 i 1 = a := by rw [eG]; simp [sp_cbid, u3_ap]
  have v2 : G 1 i 2 = c := by rw [eG]; simp [sp_cbid, u3_ap]
  have v3 : G 1 i 3 = Γ 5 0 7 := by rw [eG]; simp [sp_cbid, u3_ap]
  have t7 : G 5 0 7 = Γ 5 0 7 + 1 := by rw [eG]; simp [sp_cbid, u3_ap]
  have t6 : G 5 0 6 = if Γ 1 i 0 = 0 then Γ 5 0 6 + 1 else Γ 5 0 6 := by
    rw [eG]
    by_cases z : Γ 1 i 0 = 0 <;> simp [sp_cbid, u3_ap, z]
  rw [← eG]
  have hsum : G 5 0 6 = sp_sum (fun j => if G 1 j 0 = 0 then 0 else 1) n := by
    have hu := sp_sum_upd (f := fun j => if Γ 1 j 0 = 0 then (0 : Int32) else 1) (g := fun j => if G 1 j 0 = 0 then (0 : Int32) else 1) (i := i) n hi (fun j hj hne => by
      show (if G 1 j 0 = 0 then (0 : Int32) else 1) = _
      rw [F 1 j 0 (by omega) (by omega)])
    rw [hu, ← g6, t6]
    show _ = Γ 5 0 6 + ((if G 1 i 0 = 0 then (0 : Int32) else 1) - (if Γ 1 i 0 = 0 then 0 else 1))
    rw [v0, if_neg (show ¬ (1 : Int32) = 0 by decide)]
    by_cases z : Γ 1 i 0 = 0
    · rw [if_pos z, if_pos z]
      rfl
    · rw [if_neg z, if_neg z]
      exact (Int32.add_zero _).symm
  have i1 : (1 : Int32).toInt = 1 := by decide
  have h7 : (G 5 0 7).toInt = (Γ 5 0 7).toInt + 1 := by rw [t7, tI_add] <;> omega
  refine ⟨?_, fun d hd => ?_, fun x y hx hy hne => ?_, fun j hj => (r4 j hj).congr (fun k => F _ _ _ (by omega) (by omega)), r5.congr (fun x y _ => F _ _ _ (by omega) (by omega)), r6.congr (F _ _ _ (by omega) (by omega)) (F _ _ _ (by omega) (by omega)) (fun d j _ => F _ _ _ (by omega) (by omega)) (fun i j => F _ _ _ (by omega) (by omega))⟩
  · unfold CG
    rw [F 5 0 3 (by omega) (by omega), F 5 0 4 (by omega) (by omega), F 5 0 5 (by omega) (by omega), F 3 0 1 (by omega) (by omega), h7]
    exact ⟨by omega, g2, g3, by omega, g5, hsum⟩
  · have q := r2 d hd
    by_cases z : d = i
    · subst z
      obtain ⟨a1, a2, a3, a4, a5, a6, a7, a8, a9⟩ := q
      have E0 : ∀ j, G 0 d j = Γ 0 d j := fun j => F _ _ _ (by omega) (by omega)
      have E2 : ∀ j, G 2 d j = Γ 2 d j := fun j => F _ _ _ (by omega) (by omega)
      unfold CD
      rw [E0, E0, E2, E2, E2, E2, E2]
      refine ⟨a1, fun z => (a2 z).congr E0 (by omega), fun _ => ?_, a4, a5, a6, a7, a8, a9⟩
      unfold CB
      rw [v1, v2, v3]
      exact ⟨ha, hc, g4.1, by omega⟩
    · exact q.congr (fun j => F _ _ _ (by omega) (by omega)) (fun j => F _ _ _ (by omega) (by omega)) (fun j _ => F _ _ _ (by omega) (by omega)) (by omega)
  · have E0 : ∀ d j, G 0 d j = Γ 0 d j := fun d j => F _ _ _ (by omega) (by omega)
    have E1 : ∀ d j, d ≠ i → G 1 d j = Γ 1 d j := fun d j hd => F _ _ _ (by omega) (by omega)
    obtain ⟨s1, s2, s3⟩ := r3 x y hx hy hne
    rw [E0, E0, E0, E0]
    refine ⟨s1, fun z1 z2 => ?_, fun z1 z2 => ?_⟩
    · by_cases e : y = i
      · subst e
        rw [v3]
        have := ((r2 x hx).2.1 z1).2.2.2
        omega
      · rw [E1 y _ e] at z2 ⊢
        exact s2 z1 z2
    · by_cases e : y = i
      · subst e
        have e2 : x ≠ y := hne
        rw [E1 x _ e2] at z1 ⊢
        rw [v3]
        have := ((r2 x hx).2.2.1 z1).2.2.2
        omega
      · rw [E1 y _ e] at z2 ⊢
        by_cases e2 : x = i
        · subst e2
          rw [v3]
          have := ((r2 y hy).2.2.1 z2).2.2.2
          omega
        · rw [E1 x _ e2] at z1 ⊢
          exact s3 z1 z2
theorem cntN_ext {P Q : Nat → Bool} {n : Nat} (h : ∀ j, j < n → P j = Q j) (hn : Q n = false) : cntN Q (n + 1) = cntN P n := by
  show cntN Q n + (if Q n = true then 1 else 0) = _
  rw [hn, if_neg (by decide), ← cntN_congr n h]
  rfl
theorem keep_district (h : CI T n p A B ord Γ) {a c : Int32} (h1 : 0 ≤ a.toInt ∧ a.toInt ≤ 9999) (h2 : 0 ≤ c.toInt ∧ c.toInt ≤ 999) : CI T (n + 1) p A B ord (sp_cdist n a c Γ) := by
  obtain ⟨r1, r2, r3, r4, r5, r6⟩ := h
  obtain ⟨g1, g2, g3, g4, g5, g6⟩ := id r1
  obtain ⟨G, eG⟩ : ∃ G, G = sp_cdist n a c Γ := ⟨_, rfl⟩
  have F : ∀ c' i' j', ¬ (c' ≤ 2 ∧ i' = n) → G c' i' j' = Γ c' i' j' := fun c' i' j' z1 => by
    rw [eG]
    unfold sp_cdist
    rw [if_neg z1]
  have v : ∀ j, G 2 n j = if j = 2 then c else if j = 1 then a else if j = 0 then nI n + 1 else 0 := fun j => by
    rw [eG]
    unfold sp_cdist
    rw [if_pos ⟨by omega, rfl⟩, if_pos rfl]
  have v0 : ∀ j, G 0 n j = 0 := fun j => by
    rw [eG]
    unfold sp_cdist
    rw [if_pos ⟨by omega, rfl⟩, if_neg (by omega)]
  have v1 : ∀ j, G 1 n j = 0 := fun j => by
    rw [eG]
    unfold sp_cdist
    rw [if_pos ⟨by omega, rfl⟩, if_neg (by omega)]
  rw [← eG]
  have f5 : ∀ j, G 5 0 j = Γ 5 0 j := fun j => F _ _ _ (by omega)
  have f3 : G 3 0 1 = Γ 3 0 1 := F _ _ _ (by omega)
  have hKC : KC G = KC Γ := frE.kc (fun i j => F _ _ _ (by omega))
  have hol := r5.2.2
  have hod : ∀ i, i < ord.length → od ord i < n := fun i hi => hol _ (od_mem hi)
  have i0 := tI_0
  refine ⟨?_, fun d hd => ?_, fun x y hx hy hne => ?_, fun j hj => (r4 j hj).congr (fun k => F _ _ _ (by omega)), ⟨fun P => ?_, fun i j hij hj => ?_, fun e he => by have := hol e he; omega⟩, ⟨fun z d hd => ?_, fun z => ?_⟩⟩
  · unfold CG
    rw [f5, f5, f5, f5, f5, f3]
    refine ⟨g1, g2, g3, g4, g5, ?_⟩
    rw [g6]
    show _ = sp_sum (fun j => if G 1 j 0 = 0 then 0 else 1) n + (if G 1 n 0 = 0 then 0 else 1)
    rw [v1, if_pos rfl, Int32.add_zero]
    exact sp_sum_congr n fun j hj => by rw [F 1 j 0 (by omega)]
  · by_cases e : d = n
    · subst e
      unfold CD
      rw [v 0, v 1, v 2, v 3, v 8, v0 0, v0 2, v1 0]
      refine ⟨nI_1 d, fun z => absurd rfl z, fun z => absurd rfl z, fun _ => rfl, ⟨?_, ?_⟩, h1, ⟨?_, ?_⟩, h2, fun z => absurd rfl z⟩
      · show 0 ≤ (0 : Int32).toInt; omega
      · show (0 : Int32).toInt ≤ 999; omega
      · show 0 ≤ (0 : Int32).toInt; omega
      · show (0 : Int32).toInt ≤ a.toInt; omega
    · exact (r2 d (by omega)).congr (fun j => F _ _ _ (by omega)) (fun j => F _ _ _ (by omega)) (fun j _ => F _ _ _ (by omega)) (by rw [f5]; exact Int.le_refl _)
  · by_cases ex : x = n
    · subst ex
      rw [v0, v1]
      exact ⟨fun z => absurd rfl z, fun z => absurd rfl z, fun z => absurd rfl z⟩
    · by_cases ey : y = n
      · subst ey
        rw [v0 0, v1 0]
        exact ⟨fun _ z => absurd rfl z, fun _ z => absurd rfl z, fun _ z => absurd rfl z⟩
      · have q := r3 x y (by omega) (by omega) hne
        rw [F 0 x 0 (by omega), F 0 y 0 (by omega), F 0 x 3 (by omega), F 0 y 3 (by omega), F 1 x 0 (by omega), F 1 y 0 (by omega), F 1 x 3 (by omega), F 1 y 3 (by omega)]
        exact q
  · rw [r5.1 P]
    refine (cntN_ext (fun j hj => ?_) ?_).symm
    · unfold stB
      rw [F 0 j 0 (by omega)]
    · unfold stB
      rw [v0]
      rfl
  · have q := r5.2.1 i j hij hj
    have hi := hod i (by omega)
    have hj2 := hod j hj
    unfold ahd at *
    rw [F 0 (od ord i) 1 (by omega), F 0 (od ord i) 3 (by omega), F 0 (od ord j) 1 (by omega), F 0 (od ord j) 3 (by omega)]
    exact q
  · by_cases e : d = n
    · subst e
      rw [v 8]
      rfl
    · rw [F 2 d 8 (by omega)]
      exact r6.1 ((f5 5).symm.trans z) d (by omega)
  · obtain ⟨q1, q2⟩ := r6.2 (fun y => z ((f5 5).trans y))
    refine ⟨fun i hi => by have := hod i hi; rw [F 2 _ 7 (by omega)]; exact q1 i hi, ?_⟩
    rw [hKC, f3]
    intro i hi
    have e7 : ∀ y, y < ord.length → (G 2 (od ord y) 7).toInt = (Γ 2 (od ord y) 7).toInt := fun y hy => by have := hod y hy; rw [F 2 _ 7 (by omega)]
    have e8 : ∀ y, y < ord.length → (G 2 (od ord y) 8).toInt = (Γ 2 (od ord y) 8).toInt := fun y hy => by have := hod y hy; rw [F 2 _ 8 (by omega)]
    have q := q2 i hi
    rw [gS_congr i (x := fun i => (G 2 (od ord i) 8).toInt) (y := fun i => (Γ 2 (od ord i) 8).toInt) (fun y hy => e8 y (by omega)), zs_congr (f := fun i => (G 2 (od ord i) 8).toInt) (g := fun i => (Γ 2 (od ord i) 8).toInt) i (fun y hy => e8 y (by omega))]
    show Amt _ _ _ (min (G 2 (od ord i) 7).toInt _) (G 2 (od ord i) 8).toInt
    rw [e7 i hi, e8 i hi]
    exact q
theorem CP.ends {A' B' : Nat → Nat} {j : Nat} (h : CP A B j Γ) (ea : A' j = A j) (eb : B' j = B j) : CP A' B' j Γ := by
  unfold CP at *
  rw [ea, eb]
  exact h
theorem keep_pipe (h : CI T n p A B ord Γ) (hf : Γ 5 0 5 = 0) {fa tb : Nat} (ha : fa < 9) (hb : tb < 9) {lim : Int32} (h1 : 1 ≤ lim.toInt ∧ lim.toInt ≤ 999) :
    CI T n (p + 1) (fun j => if j = p then fa else A j) (fun j => if j = p then tb else B j) ord (sp_cpipe p (nI fa) (nI tb) lim Γ) := by
  obtain ⟨r1, r2, r3, r4, r5, r6⟩ := h
  obtain ⟨G, eG⟩ : ∃ G, G = sp_cpipe p (nI fa) (nI tb) lim Γ := ⟨_, rfl⟩
  have F : ∀ c' i' j', ¬ (c' = 4 ∧ i' = p) → G c' i' j' = Γ c' i' j' := fun c' i' j' z1 => by
    rw [eG]
    unfold sp_cpipe
    rw [if_neg z1]
  have v : ∀ j, G 4 p j = if j = 2 then lim else if j = 1 then nI tb else if j = 0 then nI fa else 0 := fun j => by
    rw [eG]
    unfold sp_cpipe
    rw [if_pos ⟨rfl, rfl⟩]
  rw [← eG]
  refine ⟨r1.congr (fun j => F _ _ _ (by omega)) (F _ _ _ (by omega)) (fun j => F _ _ _ (by omega)), fun d hd => (r2 d hd).congr (fun j => F _ _ _ (by omega)) (fun j => F _ _ _ (by omega)) (fun j _ => F _ _ _ (by omega)) (by rw [F 5 0 7 (by omega)]; exact Int.le_refl _), r3.congr (fun d j => F _ _ _ (by omega)) (fun d j => F _ _ _ (by omega)), fun j hj => ?_, r5.congr (fun i j _ => F _ _ _ (by omega)), ⟨fun _ d hd => ?_, fun z => absurd ((F 5 0 5 (by omega)).trans hf) z⟩⟩
  · by_cases e : j = p
    · subst e
      refine CP.ends (A := fun _ => fa) (B := fun _ => tb) ?_ (if_pos rfl) (if_pos rfl)
      unfold CP
      rw [v 0, v 1, v 2, v 3]
      exact ⟨rfl, ha, rfl, hb, h1, Or.inl rfl⟩
    · have q := (r4 j (by omega)).congr (G := G) (fun k => F _ _ _ (by omega))
      exact q.ends (if_neg e) (if_neg e)
  · rw [F 2 d 8 (by omega)]
    exact r6.1 hf d hd
end KEEP2
