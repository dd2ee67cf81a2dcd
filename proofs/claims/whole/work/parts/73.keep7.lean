/-! ===== all is flowing, found by both ===== -/
/-- Y, Z: the class and the model ahead of finding; G1, G2: behind it; R: a world in which they agree -/
def FLW (n p : Nat) (A B : Nat → Nat) (ord : List Nat) (R Y G1 Z G2 : Nat → Nat → Nat → Int32) (x y : Nat → Int) : Prop :=
  (∀ c i j, c ≤ 10 → ¬ (c = 2 ∧ j = 7) → ¬ (c = 5 ∧ j = 5) → ¬ (c = 4 ∧ j = 3) → Y c i j = R c i j) ∧
  (∀ c i j, 11 ≤ c → ¬ (c = 12 ∧ i = 33) → ¬ (c = 11 ∧ (j = 1 ∨ j = 34)) → ¬ (c = 13 ∧ i = 28) → Z c i j = R c i j) ∧
  (∀ j, j < p → (Z 13 28 j = 0 ↔ Y 4 j 3 = 0)) ∧ (∀ j, p ≤ j → Z 13 28 j = 0) ∧
  (∀ i, i < ord.length → Y 2 (od ord i) 7 = Z 12 33 (od ord i) ∧ 0 ≤ (Y 2 (od ord i) 7).toInt ∧ (Y 2 (od ord i) 7).toInt ≤ 9999) ∧
  CST Y G1 p (nuf A) (nuf B) ord x ∧ STL Z G2 p A B (od ord) ord.length y
section KEEP7
variable {T n p : Nat} {A B : Nat → Nat} {ord : List Nat} {R Y G1 Z G2 W : Nat → Nat → Nat → Int32} {x y : Nat → Int}
theorem flw_cm (h : RI T n p A B ord R) (hf : FLW n p A B ord R Y G1 Z G2 x y) : CM p (nuf A) (nuf B) (KC Y) = CM p (nuf A) (nuf B) (KG Z) := by
  obtain ⟨f1, f2, f3, f4, f5, f6, f7⟩ := hf
  funext a b
  refine CM_congr fun j hj => ?_
  unfold KC KG
  rw [f1 4 j 2 (by omega) (by omega) (by omega) (by omega), f2 12 27 j (by omega) (by omega) (by omega) (by omega), (h.2.2.2.1 j hj).2.2.2.1]
  have q := f3 j hj
  by_cases c : Y 4 j 3 = 0
  · rw [if_pos c, if_pos (q.mpr c)]
  · rw [if_neg c, if_neg (fun z => c (q.mp z))]
theorem flw_eq (h : RI T n p A B ord R) (hf : FLW n p A B ord R Y G1 Z G2 x y) : (∀ i, i < ord.length → y i = x i) ∧ (∀ d, d < n → R 0 d 0 = 0 → G1 2 d 8 = 0 ∧ G2 12 17 d = 0) ∧ (∀ d, d < n → G2 12 17 d = G1 2 d 8) := by
  have hcm := flw_cm h hf
  obtain ⟨f1, f2, f3, f4, f5, ⟨a1, a2, a3⟩, b1, b2, b3⟩ := hf
  have hxy : ∀ i, i < ord.length → y i = x i := by
    rw [← hcm, f2 11 0 2 (by omega) (by omega) (by omega) (by omega), h.1.2.2.2.2.2.2.2.2.2.1] at b3
    rw [f1 3 0 1 (by omega) (by omega) (by omega) (by omega)] at a3
    exact SEQ.uniq _ (b3.congr (fun i _ => rfl) (fun i hi => by show (Y 2 (od ord i) 7).toInt = (Z 12 33 (od ord i)).toInt; rw [(f5 i hi).1])) a3
  have hz : ∀ d, d < n → R 0 d 0 = 0 → G1 2 d 8 = 0 ∧ G2 12 17 d = 0 := fun d hd z => by
    have hne : ∀ k, k < ord.length → d ≠ od ord k := fun k hk e => by
      have := (h.st hk).2
      rw [← e] at this
      exact this z
    have q := (h.2.1 d hd)
    have q8 := q.2.2.2.2.1 z
    refine ⟨?_, ?_⟩
    · rw [a1 2 d 8 (by omega) (by omega) (by omega) (fun _ _ k hk => hne k hk), f1 2 d 8 (by omega) (by omega) (by omega) (by omega)]
      exact q8
    · rw [b1 12 17 d (by omega) (by omega) (fun _ _ k hk => hne k hk), f2 12 17 d (by omega) (by omega) (by omega) (by omega), q.1.2.2.2.2.1]
      exact q8
  refine ⟨hxy, hz, fun d hd => ?_⟩
  by_cases z : R 0 d 0 = 0
  · rw [(hz d hd z).1, (hz d hd z).2]
  · obtain ⟨i, hi, e⟩ := od_ex (h.2.2.2.2.1.mem.mpr ⟨hd, z⟩)
    have q1 := a2 i hi
    have q2 := b2 i hi
    rw [e] at q1 q2
    exact Int32.toInt_inj.mp ((q2.trans (hxy i hi)).trans q1.symm)
theorem keep_flows (h : RI T n p A B ord R) (hf : FLW n p A B ord R Y G1 Z G2 x y) (hW : ∀ c i j, c ≤ 10 → ¬ (c = 2 ∧ (j = 9 ∨ j = 10)) → W c i j = G1 c i j) (hW2 : ∀ c i j, 11 ≤ c → ¬ (c = 12 ∧ (i = 18 ∨ i = 19)) → ¬ (c = 11 ∧ j = 1) → W c i j = G2 c i j)
    (g5 : ¬ Y 5 0 5 = 0) (g11 : W 11 0 1 = -1) (h9 : ∀ d, d < n → W 12 18 d = W 2 d 9 ∧ W 12 19 d = W 2 d 10) (hz : ∀ d, n ≤ d → W 12 18 d = R 12 18 d ∧ W 12 19 d = R 12 19 d) : RI T n p A B ord W := by
  obtain ⟨e1, e2, e3⟩ := flw_eq h hf
  have hcm := flw_cm h hf
  obtain ⟨f1, f2, f3, f4, f5, ⟨a1, a2, a3⟩, b1, b2, b3⟩ := hf
  have hl : ord.length ≤ n := h.2.2.2.2.1.len
  -- the class's places
  have C : ∀ c i j, c ≤ 8 → ¬ (c = 3 ∧ j = 2) → ¬ (c = 2 ∧ 7 ≤ j ∧ j ≤ 10) → W c i j = Y c i j := fun c i j q1 q2 q3 => by
    rw [hW c i j (by omega) (by omega), a1 c i j (by omega) (by omega) (by omega) (fun _ _ => by omega)]
  have M : ∀ c i j, 11 ≤ c → ¬ (c = 11 ∧ (j = 1 ∨ j = 30)) → ¬ (c = 12 ∧ 17 ≤ i ∧ i ≤ 19) → ¬ (c = 12 ∧ (i = 29 ∨ i = 31 ∨ i = 32)) → W c i j = Z c i j := fun c i j q1 q2 q3 q4 => by
    rw [hW2 c i j (by omega) (by omega) (by omega), b1 c i j (by omega) (by omega) (fun _ _ => by omega)]
  have w7 : ∀ d, W 2 d 7 = Y 2 d 7 := fun d => by
    rw [hW 2 d 7 (by omega) (by omega), a1 2 d 7 (by omega) (by omega) (by omega) (fun _ z => by omega)]
  have kg : KG W = KG Z := by
    funext j
    unfold KG
    rw [M 13 28 j (by omega) (by omega) (by omega) (by omega), M 12 27 j (by omega) (by omega) (by omega) (by omega)]
  refine keep_flowing (x := x) h (fun c i j z => ?_) ?_ g11 (fun j hj => ?_) (fun j hj => ?_) (fun i hi => ?_) (fun i hi => ?_) (fun d hd z => ?_) h9 (fun d hd => ?_) (fun i hi => ?_) ?_
  · unfold chF irr at z
    by_cases q : c ≤ 10
    · rw [C c i j (by omega) (by omega) (by omega), f1 c i j (by omega) (by omega) (by omega) (by omega)]
    · rw [M c i j (by omega) (by omega) (by omega) (by omega), f2 c i j (by omega) (by omega) (by omega) (by omega)]
  · rw [C 5 0 5 (by omega) (by omega) (by omega)]
    exact g5
  · rw [M 13 28 j (by omega) (by omega) (by omega) (by omega), C 4 j 3 (by omega) (by omega) (by omega)]
    exact f3 j hj
  · rw [M 13 28 j (by omega) (by omega) (by omega) (by omega)]
    exact f4 j hj
  · rw [hW 2 _ 8 (by omega) (by omega)]
    exact a2 i hi
  · rw [hW2 12 17 _ (by omega) (by omega) (by omega)]
    exact (b2 i hi).trans (e1 i hi)
  · rw [hW 2 d 8 (by omega) (by omega), hW2 12 17 d (by omega) (by omega) (by omega)]
    exact e2 d hd z
  · have q := (h.2.2.2.2.2.2.1 d hd).1
    refine ⟨?_, (hz d hd).1.trans q.2.2.1, (hz d hd).2.trans q.2.2.2.1⟩
    rw [hW2 12 17 d (by omega) (by omega) (by omega), b1 12 17 d (by omega) (by omega) (fun _ _ k hk e => by have := (h.st hk).1; omega), f2 12 17 d (by omega) (by omega) (by omega) (by omega)]
    exact q.2.1
  · rw [w7]
    exact (f5 i hi).2
  · rw [kg, ← hcm]
    rw [f1 3 0 1 (by omega) (by omega) (by omega) (by omega)] at a3
    exact a3.congr (fun i _ => rfl) (fun i _ => by show (W 2 (od ord i) 7).toInt = (Y 2 (od ord i) 7).toInt; rw [w7])
end KEEP7
