/-! ===== the world at the start ===== -/
abbrev D6 : List (Nat × Nat) := [(6, 1), (10, 2), (10, 1), (10, 0), (8, 0), (9, 0), (9, 1), (9, 2), (9, 3), (9, 4), (9, 5), (9, 6), (9, 7), (9, 8), (6, 2), (3, 0), (6, 0), (5, 0), (15, 0)]
abbrev F6 : List (Nat × Nat × Nat × Nat × Nat) := [(402, 5, 0, 6, 1), (601, 6, 1, 7, 1), (401, 5, 0, 3, 0), (206, 3, 0, 10, 2), (205, 3, 0, 10, 1), (204, 3, 0, 10, 0), (203, 3, 0, 8, 0), (200, 3, 0, 6, 2), (601, 6, 2, 7, 2), (400, 5, 0, 6, 0), (601, 6, 0, 7, 0)]
def G0 (xs : Nat → Int32) : Nat → Nat → Nat → Int32 := fun c _ j => if c = 15 then xs j else 0
theorem G0_0 {xs : Nat → Int32} {c i j : Nat} (h : c ≠ 15) : G0 xs c i j = 0 := if_neg h
theorem dm00 : ((List.range 16).all fun c => (List.range 40).all fun i => !(wdm 0 0 0 c i) || D6.contains (c, i)) = true := by decide +kernel
theorem dm0 (c : Nat) (hc : c < 16) (i : Nat) (hi : i < 40) (h : wdm 0 0 0 c i = true) : (c, i) ∈ D6 := by
  have h1 := List.all_eq_true.mp dm00 c (List.mem_range.mpr hc)
  have h2 := List.all_eq_true.mp h1 i (List.mem_range.mpr hi)
  rw [h] at h2
  exact List.elem_iff.mp h2
theorem dm1 {c i : Nat} (h : wdm 0 0 0 c i = true) : c < 16 ∧ i < 40 := by
  unfold wdm at h
  split at h
  all_goals first | (have := of_decide_eq_true h; omega) | exact absurd h (by decide)
theorem dm {c i : Nat} (h : wdm 0 0 0 c i = true) : (c, i) ∈ D6 := dm0 c (dm1 h).1 i (dm1 h).2 h
theorem rf1 {c i ci j : Nat} {r : Nat × Nat} (hi : wdm 0 0 0 c i = true) (hc : wcl c = some ci) (hr : wrf c j i = some r) : (100 * ci + j, c, i, r.1, r.2) ∈ F6 := by
  unfold wrf at hr
  split at hr
  · exact absurd (of_decide_eq_true (show decide (i < 0) = true from hi)) (Nat.not_lt_zero _)
  · have i0 : i = 0 := of_decide_eq_true (show decide (i = 0) = true from hi)
    subst i0
    cases hc
    repeat' (split at hr)
    all_goals first | (rename_i e; subst e; cases hr; decide) | (cases hr)
  · have i0 : i = 0 := of_decide_eq_true (show decide (i = 0) = true from hi)
    subst i0
    cases hc
    repeat' (split at hr)
    all_goals first | (rename_i e; subst e; cases hr; decide) | (cases hr)
  · cases hr
theorem PW.WI {z N : Nat} {xs : Nat → Int32} {L : Nat → Nat → Nat} {h : am_H} (w : PW D6 F6 z N xs L h) (hN : N ≤ 2048) : WI N 0 0 [] L (G0 xs) 0 h := by
  obtain ⟨⟨z1, z2, z3⟩, w2, w3, w4, w5, w6, w7⟩ := w
  have hls : ∀ t, t < 3 → wls 0 0 [] t = [] := fun t ht => by
    rcases t with _ | _ | _ | t <;> first | rfl | omega
  refine ⟨⟨by decide, by decide, hN, (fun e he => by cases he), by decide⟩, fun c i hi => (w2 _ (dm hi)).1, fun c i c' i' hi hi' e => ?_, fun c i ci j hi hc hr => ?_, fun c i ci j r hi hc hr => ?_, fun c i hi hc => ?_, fun t ht => ?_, ?_, by decide, ?_⟩
  · have := w3 _ (dm hi) _ (dm hi') e
    exact ⟨congrArg Prod.fst this, congrArg Prod.snd this⟩
  · have h15 : c ≠ 15 := fun e => by rw [e] at hc; cases hc
    rw [(w4 _ (dm hi) h15).1, G0_0 h15]
  · exact (w5 _ (rf1 hi hc hr)).2.2
  · have h15 : c ≠ 15 := by omega
    obtain ⟨y1, y2, y3, y4⟩ := w4 _ (dm hi) h15
    refine ⟨y2.trans ?_, fun j hj => ?_⟩
    · unfold pwn
      rw [if_neg (show ¬ c = 8 by omega), if_neg (show ¬ c = 14 by omega)]
    · rw [G0_0 h15]
      exact y3 j
  · have hd : (6, t) ∈ D6 := dm (by show decide (t < 3) = true; exact decide_eq_true ht)
    have hf : (601, 6, t, 7, t) ∈ F6 := by
      rcases t with _ | _ | _ | t <;> first | decide | omega
    rw [hls t ht]
    refine ⟨(w4 _ hd (show (6 : Nat) ≠ 15 by decide)).1 602, (w5 _ hf).2.2, Or.inr ⟨by rw [z3]; exact z1, rfl, by rw [z3]; exact z2⟩, fun j hj => absurd hj (Nat.not_lt_zero _), fun t' _ _ => Or.inr (by rw [z3]; exact z1)⟩
  · exact ⟨(w4 (8, 0) (by decide) (by decide)).2.1, fun a ha => (w6 (by decide) a ha).2⟩
  · exact ⟨w7.2.1, fun j hj => (w7.2.2 j hj).trans (if_pos rfl).symm⟩
theorem CI0 {xs : Nat → Int32} {A B : Nat → Nat} : CI 0 0 0 A B [] (G0 xs) := by
  refine ⟨?_, fun d hd => absurd hd (Nat.not_lt_zero _), fun i j hi => absurd hi (Nat.not_lt_zero _), fun j hj => absurd hj (Nat.not_lt_zero _), ORD.nil, ⟨fun _ d hd => absurd hd (Nat.not_lt_zero _), fun z => absurd (G0_0 (by decide)) z⟩⟩
  unfold CG
  rw [G0_0 (c := 5) (j := 3) (by decide), G0_0 (c := 5) (j := 4) (by decide), G0_0 (c := 5) (j := 5) (by decide), G0_0 (c := 5) (j := 7) (by decide), G0_0 (c := 3) (j := 1) (by decide), G0_0 (c := 5) (j := 6) (by decide)]
  exact ⟨⟨by decide, by decide⟩, ⟨by decide, by decide⟩, Or.inl rfl, ⟨by decide, by decide⟩, ⟨by decide, by decide⟩, rfl⟩
theorem LT0 {xs : Nat → Int32} : LT 0 0 (G0 xs) := ⟨G0_0 (by decide), G0_0 (by decide), (G0_0 (by decide)).trans (G0_0 (by decide)).symm, (G0_0 (by decide)).trans (G0_0 (by decide)).symm, (G0_0 (by decide)).trans (G0_0 (by decide)).symm, fun d hd => absurd hd (Nat.not_lt_zero _), fun j hj => absurd hj (Nat.not_lt_zero _), fun d _ => ⟨G0_0 (by decide), G0_0 (by decide)⟩, fun j _ => G0_0 (by decide)⟩
theorem zt0 {xs : Nat → Int32} {o : Nat} : zt (G0 xs) o = G0 xs := by
  funext c i j
  by_cases z : c = 13 ∧ i = o
  · exact (if_pos z).trans (G0_0 (by omega)).symm
  · exact zt_n z
