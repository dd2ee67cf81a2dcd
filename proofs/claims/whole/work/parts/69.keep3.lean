section KEEP3
variable {T n p : Nat} {A B : Nat → Nat} {ord : List Nat} {Γ : Nat → Nat → Nat → Int32}
def sp_mdist (n : Nat) (a c : Int32) (Γ : Nat → Nat → Nat → Int32) : Nat → Nat → Nat → Int32 := u3 (u3 (u3 (u3 Γ 11 0 34 0) 12 4 n a) 12 5 n c) 11 0 3 (nI (n + 1))
theorem cntN_ext {P Q : Nat → Bool} {n : Nat} (h : ∀ j, j < n → P j = Q j) (hn : Q n = false) : cntN Q (n + 1) = cntN P n := by
  show cntN Q n + (if Q n = true then 1 else 0) = _
  rw [hn, if_neg (by decide), ← cntN_congr n h]
  rfl
theorem keep_district (h : RI T n p A B ord Γ) {a c : Int32} (h1 : 0 ≤ a.toInt ∧ a.toInt ≤ 9999) (h2 : 0 ≤ c.toInt ∧ c.toInt ≤ 999) : RI T (n + 1) p A B ord (sp_mdist n a c (sp_cdist n a c Γ)) := by
  obtain ⟨r1, r2, r3, r4, r5, r6, r7⟩ := h
  obtain ⟨g1, g2, g3, g4, g5, g6, g7, g8, g9, g10, g11, g12⟩ := id r1
  obtain ⟨G, eG⟩ : ∃ G, G = sp_mdist n a c (sp_cdist n a c Γ) := ⟨_, rfl⟩
  have F : ∀ c' i' j', ¬ (c' ≤ 2 ∧ i' = n) → ¬ (c' = 11 ∧ (j' = 34 ∨ j' = 3)) → ¬ (c' = 12 ∧ (i' = 4 ∨ i' = 5) ∧ j' = n) → G c' i' j' = Γ c' i' j' := fun c' i' j' z1 z2 z3 => by
    rw [eG]
    unfold sp_mdist
    rw [u3_n (by omega), u3_n (by omega), u3_n (by omega), u3_n (by omega)]
    unfold sp_cdist
    rw [if_neg z1]
  have v : ∀ j, G 2 n j = if j = 2 then c else if j = 1 then a else if j = 0 then nI n + 1 else 0 := fun j => by
    rw [eG]
    unfold sp_mdist
    rw [u3_n (by omega), u3_n (by omega), u3_n (by omega), u3_n (by omega)]
    unfold sp_cdist
    rw [if_pos ⟨by omega, rfl⟩, if_pos rfl]
  have v0 : ∀ j, G 0 n j = 0 := fun j => by
    rw [eG]
    unfold sp_mdist
    rw [u3_n (by omega), u3_n (by omega), u3_n (by omega), u3_n (by omega)]
    unfold sp_cdist
    rw [if_pos ⟨by omega, rfl⟩, if_neg (by omega)]
  have v1 : ∀ j, G 1 n j = 0 := fun j => by
    rw [eG]
    unfold sp_mdist
    rw [u3_n (by omega), u3_n (by omega), u3_n (by omega), u3_n (by omega)]
    unfold sp_cdist
    rw [if_pos ⟨by omega, rfl⟩, if_neg (by omega)]
  have m4 : G 12 4 n = a := by rw [eG]; unfold sp_mdist; rw [u3_n (by omega), u3_n (by omega), u3_s]
  have m5 : G 12 5 n = c := by rw [eG]; unfold sp_mdist; rw [u3_n (by omega), u3_s]
  have m3 : G 11 0 3 = nI (n + 1) := by rw [eG]; unfold sp_mdist; rw [u3_s]
  rw [← eG]
  obtain ⟨⟨z6, z17, z18, z19, z20, z21, z22⟩, z10, z14⟩ := r7.1 n (Nat.le_refl _)
  have f5 : ∀ j, G 5 0 j = Γ 5 0 j := fun j => F _ _ _ (by omega) (by omega) (by omega)
  have f13 : ∀ i j, G 13 i j = Γ 13 i j := fun i j => F _ _ _ (by omega) (by omega) (by omega)
  have f3 : G 3 0 1 = Γ 3 0 1 := F _ _ _ (by omega) (by omega) (by omega)
  have hKG : KG G = KG Γ := KG_congr (fun j => F _ _ _ (by omega) (by omega) (by omega)) (fun j => f13 _ _)
  have hol := r5.2.2
  have hod : ∀ i, i < ord.length → od ord i < n := fun i hi => hol _ (od_mem hi)
  refine ⟨?_, fun d hd => ?_, fun x y hx hy hne => ?_, fun j hj => (r4 j hj).congr (fun k => F _ _ _ (by omega) (by omega) (by omega)) (fun k _ _ => F _ _ _ (by omega) (by omega) (by omega)) (f13 _ _), ⟨fun P => ?_, fun i j hij hj => ?_, fun e he => by have := hol e he; omega⟩, ⟨fun z d hd => ?_, fun z => ?_⟩, ⟨fun d hd => ?_, fun j hj => by rw [f13]; exact r7.2 j hj⟩⟩
  · unfold RG
    rw [m3, f5, f5, f5, f5, f5, f5, f3, F 11 0 24 (by omega) (by omega) (by omega), F 11 0 0 (by omega) (by omega) (by omega), F 11 0 1 (by omega) (by omega) (by omega), F 11 0 16 (by omega) (by omega) (by omega), F 11 0 23 (by omega) (by omega) (by omega), F 11 0 2 (by omega) (by omega) (by omega)]
    refine ⟨rfl, g2, g3, g4, g5, g6, g7, g8, g9, g10, g11, ?_⟩
    rw [g12]
    show _ = sp_sum (fun j => if G 13 14 j = 0 then 0 else 1) n + (if G 13 14 n = 0 then 0 else 1)
    rw [f13, z14, if_pos rfl, Int32.add_zero]
    exact sp_sum_congr n fun j _ => by rw [f13]
  · by_cases e : d = n
    · subst e
      have e0 := v0
      have e1 := v1
      unfold RD
      rw [v 0, v 1, v 2, v 3, v 6, v 8, v 9, v 10, v 11, v 12, v 13, v0 0, v0 1, v0 2, v0 3, v1 0, v1 1, v1 2, v1 3, m4, m5, F 12 6 d (by omega) (by omega) (by omega), F 12 17 d (by omega) (by omega) (by omega), F 12 18 d (by omega) (by omega) (by omega), F 12 19 d (by omega) (by omega) (by omega), F 12 20 d (by omega) (by omega) (by omega), F 12 21 d (by omega) (by omega) (by omega), F 12 22 d (by omega) (by omega) (by omega), f13, f13, z6, z17, z18, z19, z20, z21, z22, z10, z14]
      have i0 := tI_0
      refine ⟨⟨nI_1 d, rfl, rfl, rfl, rfl, rfl, rfl, rfl, rfl, rfl⟩, ⟨Iff.rfl, Iff.rfl⟩, fun z => absurd rfl z, fun z => absurd rfl z, fun _ => rfl, ⟨?_, ?_⟩, h1, ⟨?_, ?_⟩, h2⟩
      · show 0 ≤ (0 : Int32).toInt; omega
      · show (0 : Int32).toInt ≤ 9999; omega
      · show 0 ≤ (0 : Int32).toInt; omega
      · show (0 : Int32).toInt ≤ a.toInt; omega
    · exact (r2 d (by omega)).congr (fun j => F _ _ _ (by omega) (by omega) (by omega)) (fun j => F _ _ _ (by omega) (by omega) (by omega)) (fun j _ => F _ _ _ (by omega) (by omega) (by omega)) (fun k _ => F _ _ _ (by omega) (by omega) (by omega)) (fun k _ => f13 _ _)
  · by_cases ex : x = n
    · subst ex
      rw [v0, v1]
      exact ⟨fun z => absurd rfl z, fun z => absurd rfl z, fun z => absurd rfl z⟩
    · by_cases ey : y = n
      · subst ey
        rw [v0 0, v1 0]
        exact ⟨fun _ z => absurd rfl z, fun _ z => absurd rfl z, fun _ z => absurd rfl z⟩
      · have q := r3 x y (by omega) (by omega) hne
        rw [F 0 x 0 (by omega) (by omega) (by omega), F 0 y 0 (by omega) (by omega) (by omega), F 0 x 3 (by omega) (by omega) (by omega), F 0 y 3 (by omega) (by omega) (by omega), F 1 x 0 (by omega) (by omega) (by omega), F 1 y 0 (by omega) (by omega) (by omega), F 1 x 3 (by omega) (by omega) (by omega), F 1 y 3 (by omega) (by omega) (by omega)]
        exact q
  · rw [r5.1 P]
    refine (cntN_ext (fun j hj => ?_) ?_).symm
    · unfold stB
      rw [F 0 j 0 (by omega) (by omega) (by omega)]
    · unfold stB
      rw [v0]
      rfl
  · have q := r5.2.1 i j hij hj
    have hi := hod i (by omega)
    have hj2 := hod j hj
    unfold ahd at *
    rw [F 0 (od ord i) 1 (by omega) (by omega) (by omega), F 0 (od ord i) 3 (by omega) (by omega) (by omega), F 0 (od ord j) 1 (by omega) (by omega) (by omega), F 0 (od ord j) 3 (by omega) (by omega) (by omega)]
    exact q
  · by_cases e : d = n
    · subst e
      rw [v 8]
      rfl
    · rw [F 2 d 8 (by omega) (by omega) (by omega)]
      exact r6.1 ((f5 5).symm.trans z) d (by omega)
  · obtain ⟨q1, q2⟩ := r6.2 (fun y => z ((f5 5).trans y))
    refine ⟨fun i hi => by have := hod i hi; rw [F 2 _ 7 (by omega) (by omega) (by omega)]; exact q1 i hi, ?_⟩
    rw [hKG, f3]
    intro i hi
    have e7 : ∀ y, y < ord.length → (G 2 (od ord y) 7).toInt = (Γ 2 (od ord y) 7).toInt := fun y hy => by have := hod y hy; rw [F 2 _ 7 (by omega) (by omega) (by omega)]
    have e8 : ∀ y, y < ord.length → (G 2 (od ord y) 8).toInt = (Γ 2 (od ord y) 8).toInt := fun y hy => by have := hod y hy; rw [F 2 _ 8 (by omega) (by omega) (by omega)]
    have q := q2 i hi
    rw [gS_congr i (x := fun i => (G 2 (od ord i) 8).toInt) (y := fun i => (Γ 2 (od ord i) 8).toInt) (fun y hy => e8 y (by omega)), zs_congr (f := fun i => (G 2 (od ord i) 8).toInt) (g := fun i => (Γ 2 (od ord i) 8).toInt) i (fun y hy => e8 y (by omega))]
    show Amt _ _ _ (min (G 2 (od ord i) 7).toInt _) (G 2 (od ord i) 8).toInt
    rw [e7 i hi, e8 i hi]
    exact q
  · have q := r7.1 d (by omega)
    rw [F 12 6 d (by omega) (by omega) (by omega), F 12 17 d (by omega) (by omega) (by omega), F 12 18 d (by omega) (by omega) (by omega), F 12 19 d (by omega) (by omega) (by omega), F 12 20 d (by omega) (by omega) (by omega), F 12 21 d (by omega) (by omega) (by omega), F 12 22 d (by omega) (by omega) (by omega), f13, f13]
    exact q
theorem RP.ends {A' B' : Nat → Nat} {j : Nat} (h : RP A B j Γ) (ea : A' j = A j) (eb : B' j = B j) : RP A' B' j Γ := by
  unfold RP at *
  rw [ea, eb]
  exact h
def sp_mpipe (p : Nat) (f t lim : Int32) (Γ : Nat → Nat → Nat → Int32) : Nat → Nat → Nat → Int32 := u3 (u3 (u3 (u3 (u3 Γ 11 0 34 0) 12 25 p f) 12 26 p t) 12 27 p lim) 11 0 24 (nI (p + 1))
theorem keep_pipe (h : RI T n p A B ord Γ) (hf : Γ 5 0 5 = 0) {fa tb : Nat} (ha : fa ≤ 8) (hb : tb < 8) (hne : fa ≠ tb) {lim : Int32} (h1 : 1 ≤ lim.toInt ∧ lim.toInt ≤ 999) :
    RI T n (p + 1) (fun j => if j = p then fa else A j) (fun j => if j = p then tb else B j) ord (sp_mpipe p (nI fa) (nI tb) lim (sp_cpipe p (nI (nu fa)) (nI (nu tb)) lim Γ)) := by
  obtain ⟨r1, r2, r3, r4, r5, r6, r7⟩ := h
  obtain ⟨g1, g2, g3, g4, g5, g6, g7, g8, g9, g10, g11, g12⟩ := id r1
  obtain ⟨G, eG⟩ : ∃ G, G = sp_mpipe p (nI fa) (nI tb) lim (sp_cpipe p (nI (nu fa)) (nI (nu tb)) lim Γ) := ⟨_, rfl⟩
  have F : ∀ c' i' j', ¬ (c' = 4 ∧ i' = p) → ¬ (c' = 11 ∧ (j' = 34 ∨ j' = 24)) → ¬ (c' = 12 ∧ (i' = 25 ∨ i' = 26 ∨ i' = 27) ∧ j' = p) → G c' i' j' = Γ c' i' j' := fun c' i' j' z1 z2 z3 => by
    rw [eG]
    unfold sp_mpipe
    rw [u3_n (by omega), u3_n (by omega), u3_n (by omega), u3_n (by omega), u3_n (by omega)]
    unfold sp_cpipe
    rw [if_neg z1]
  have v : ∀ j, G 4 p j = if j = 2 then lim else if j = 1 then nI (nu tb) else if j = 0 then nI (nu fa) else 0 := fun j => by
    rw [eG]
    unfold sp_mpipe
    rw [u3_n (by omega), u3_n (by omega), u3_n (by omega), u3_n (by omega), u3_n (by omega)]
    unfold sp_cpipe
    rw [if_pos ⟨rfl, rfl⟩]
  have m25 : G 12 25 p = nI fa := by rw [eG]; unfold sp_mpipe; rw [u3_n (by omega), u3_n (by omega), u3_n (by omega), u3_s]
  have m26 : G 12 26 p = nI tb := by rw [eG]; unfold sp_mpipe; rw [u3_n (by omega), u3_n (by omega), u3_s]
  have m27 : G 12 27 p = lim := by rw [eG]; unfold sp_mpipe; rw [u3_n (by omega), u3_s]
  have m24 : G 11 0 24 = nI (p + 1) := by rw [eG]; unfold sp_mpipe; rw [u3_s]
  rw [← eG]
  have f5 : ∀ j, G 5 0 j = Γ 5 0 j := fun j => F _ _ _ (by omega) (by omega) (by omega)
  have f13 : ∀ i j, G 13 i j = Γ 13 i j := fun i j => F _ _ _ (by omega) (by omega) (by omega)
  have f3 : G 3 0 1 = Γ 3 0 1 := F _ _ _ (by omega) (by omega) (by omega)
  refine ⟨?_, fun d hd => (r2 d hd).congr (fun j => F _ _ _ (by omega) (by omega) (by omega)) (fun j => F _ _ _ (by omega) (by omega) (by omega)) (fun j _ => F _ _ _ (by omega) (by omega) (by omega)) (fun k _ => F _ _ _ (by omega) (by omega) (by omega)) (fun k _ => f13 _ _), r3.congr (fun d j => F _ _ _ (by omega) (by omega) (by omega)) (fun d j => F _ _ _ (by omega) (by omega) (by omega)), fun j hj => ?_, r5.congr (fun i j _ => F _ _ _ (by omega) (by omega) (by omega)), ⟨fun _ d hd => ?_, fun z => absurd ((f5 5).trans hf) z⟩, ⟨fun d hd => ?_, fun j hj => by rw [f13]; exact r7.2 j (by omega)⟩⟩
  · unfold RG
    rw [m24, f5, f5, f5, f5, f5, f5, f3, F 11 0 3 (by omega) (by omega) (by omega), F 11 0 0 (by omega) (by omega) (by omega), F 11 0 1 (by omega) (by omega) (by omega), F 11 0 16 (by omega) (by omega) (by omega), F 11 0 23 (by omega) (by omega) (by omega), F 11 0 2 (by omega) (by omega) (by omega)]
    refine ⟨g1, rfl, g3, g4, g5, g6, g7, g8, g9, g10, g11, ?_⟩
    rw [g12]
    exact sp_sum_congr n fun j _ => by rw [f13]
  · by_cases e : j = p
    · subst e
      refine RP.ends (A := fun _ => fa) (B := fun _ => tb) ?_ (if_pos rfl) (if_pos rfl)
      unfold RP
      rw [m25, m26, m27, v 0, v 1, v 2, v 3, f13, r7.2 j (Nat.le_refl _)]
      exact ⟨⟨rfl, ha, rfl, hb, hne⟩, rfl, rfl, rfl, h1, Iff.rfl⟩
    · have q := (r4 j (by omega)).congr (G := G) (fun k => F _ _ _ (by omega) (by omega) (by omega)) (fun k _ _ => F _ _ _ (by omega) (by omega) (by omega)) (f13 _ _)
      exact q.ends (if_neg e) (if_neg e)
  · rw [F 2 d 8 (by omega) (by omega) (by omega)]
    exact r6.1 hf d hd
  · have q := r7.1 d hd
    rw [F 12 6 d (by omega) (by omega) (by omega), F 12 17 d (by omega) (by omega) (by omega), F 12 18 d (by omega) (by omega) (by omega), F 12 19 d (by omega) (by omega) (by omega), F 12 20 d (by omega) (by omega) (by omega), F 12 21 d (by omega) (by omega) (by omega), F 12 22 d (by omega) (by omega) (by omega), f13, f13]
    exact q
end KEEP3
