/-! ===== a round settled ===== -/
section KEEP4
variable {T n p : Nat} {A B : Nat → Nat} {ord : List Nat} {Γ : Nat → Nat → Nat → Int32}
theorem sp_silent_fr {d : Nat} {Γ : Nat → Nat → Nat → Int32} {c i j : Nat} (h : ¬ (c ≤ 2 ∧ i = d)) : sp_silent Γ d c i j = Γ c i j := by
  unfold sp_silent
  split
  · split
    · rw [u3_n (by omega)]
    · rw [u3_n (by omega), u3_n (by omega)]
  · rw [u3_n (by omega), u3_n (by omega), u3_n (by omega), u3_n (by omega), u3_n (by omega), u3_n (by omega)]
theorem csets_fr {c i j : Nat} : ∀ m, ¬ (c ≤ 2 ∧ i < m) → sp_csets m Γ c i j = Γ c i j
  | 0, _ => rfl
  | m + 1, h => by
    show sp_silent (sp_csets m Γ) m c i j = _
    rw [sp_silent_fr (by omega)]
    exact csets_fr m (by omega)
/-- what becomes of a district's bids -/
def SV (d : Nat) (Γ G : Nat → Nat → Nat → Int32) : Prop :=
  (Γ 1 d 0 = 0 → G 0 d 0 = (if Γ 2 d 6 = 0 then Γ 0 d 0 else 0) ∧ G 0 d 1 = Γ 0 d 1 ∧ G 0 d 2 = Γ 0 d 2 ∧ G 0 d 3 = Γ 0 d 3 ∧ G 2 d 6 = 1) ∧
  (¬ Γ 1 d 0 = 0 → G 0 d 0 = 1 ∧ G 0 d 1 = Γ 1 d 1 ∧ G 0 d 2 = Γ 1 d 2 ∧ G 0 d 3 = Γ 1 d 3 ∧ G 2 d 6 = 0) ∧ G 1 d 0 = 0 ∧ (∀ j, j ≠ 6 → G 2 d j = Γ 2 d j)
theorem silent_SV {d : Nat} (X : Nat → Nat → Nat → Int32) (h0 : ∀ j, X 0 d j = Γ 0 d j) (h1 : ∀ j, X 1 d j = Γ 1 d j) (h2 : ∀ j, X 2 d j = Γ 2 d j) : SV d Γ (sp_silent X d) := by
  unfold SV sp_silent
  rw [← h1 0, ← h2 6, ← h0 0, ← h0 1, ← h0 2, ← h0 3, ← h1 1, ← h1 2, ← h1 3]
  by_cases c : X 1 d 0 = 0
  · rw [if_pos c]
    by_cases e : X 2 d 6 = 0
    · rw [if_pos e, if_pos e]
      refine ⟨fun _ => ⟨?_, ?_, ?_, ?_, u3_s⟩, fun z => absurd c z, ?_, fun j hj => ?_⟩
      · rw [u3_n (by omega)]
      · rw [u3_n (by omega)]
      · rw [u3_n (by omega)]
      · rw [u3_n (by omega)]
      · rw [u3_n (by omega)]; exact c
      · rw [u3_n (by omega)]; exact h2 j
    · rw [if_neg e, if_neg e]
      refine ⟨fun _ => ⟨?_, ?_, ?_, ?_, u3_s⟩, fun z => absurd c z, ?_, fun j hj => ?_⟩
      · rw [u3_n (by omega), u3_s]
      · rw [u3_n (by omega), u3_n (by omega)]
      · rw [u3_n (by omega), u3_n (by omega)]
      · rw [u3_n (by omega), u3_n (by omega)]
      · rw [u3_n (by omega), u3_n (by omega)]; exact c
      · rw [u3_n (by omega), u3_n (by omega)]; exact h2 j
  · rw [if_neg c]
    refine ⟨fun z => absurd z c, fun _ => ⟨?_, ?_, ?_, ?_, u3_s⟩, ?_, fun j hj => ?_⟩
    · rw [u3_n (by omega), u3_n (by omega), u3_n (by omega), u3_n (by omega), u3_n (by omega), u3_s]
    · rw [u3_n (by omega), u3_n (by omega), u3_n (by omega), u3_n (by omega), u3_s]
    · rw [u3_n (by omega), u3_n (by omega), u3_n (by omega), u3_s]
    · rw [u3_n (by omega), u3_n (by omega), u3_s]
    · rw [u3_n (by omega), u3_s]
    · rw [u3_n (by omega), u3_n (by omega), u3_n (by omega), u3_n (by omega), u3_n (by omega), u3_n (by omega)]; exact h2 j
theorem csets_at {d : Nat} : ∀ m, d < m → SV d Γ (sp_csets m Γ)
  | 0, h => absurd h (Nat.not_lt_zero _)
  | m + 1, h => by
    show SV d Γ (sp_silent (sp_csets m Γ) m)
    by_cases e : d = m
    · subst e
      exact silent_SV _ (fun j => csets_fr d (by omega)) (fun j => csets_fr d (by omega)) (fun j => csets_fr d (by omega))
    · have q := csets_at m (show d < m by omega)
      unfold SV at *
      rw [sp_silent_fr (by omega), sp_silent_fr (by omega), sp_silent_fr (by omega), sp_silent_fr (by omega), sp_silent_fr (by omega), sp_silent_fr (by omega)]
      refine ⟨q.1, q.2.1, q.2.2.1, fun j hj => ?_⟩
      rw [sp_silent_fr (by omega)]
      exact q.2.2.2 j hj
/-- the same in the model -/
def SM (d : Nat) (Γ G : Nat → Nat → Nat → Int32) : Prop :=
  (Γ 13 14 d = 0 → G 13 10 d = (if Γ 13 10 d = 0 then 0 else if Γ 13 15 d = 0 then 1 else 0) ∧ G 12 7 d = Γ 12 7 d ∧ G 12 8 d = Γ 12 8 d ∧ G 12 9 d = Γ 12 9 d ∧ G 13 15 d = 1) ∧
  (¬ Γ 13 14 d = 0 → G 13 10 d = 1 ∧ G 12 7 d = Γ 12 11 d ∧ G 12 8 d = Γ 12 12 d ∧ G 12 9 d = Γ 12 13 d ∧ G 13 15 d = 0) ∧ G 13 14 d = 0 ∧ (∀ k, ¬ (k = 7 ∨ k = 8 ∨ k = 9) → G 12 k d = Γ 12 k d) ∧ G 13 28 d = Γ 13 28 d
theorem mset_SM {d : Nat} (X : Nat → Nat → Nat → Int32) (h2 : ∀ k, X 12 k d = Γ 12 k d) (h3 : ∀ k, X 13 k d = Γ 13 k d) : SM d Γ (sp_mset d X) := by
  unfold SM sp_mset
  rw [← h3 14, ← h3 10, ← h3 15, ← h3 28, ← h2 7, ← h2 8, ← h2 9, ← h2 11, ← h2 12, ← h2 13]
  by_cases c : X 13 14 d = 0
  · simp only [c, if_true]
    refine ⟨fun _ => ⟨?_, ?_, ?_, ?_, ?_⟩, fun z => absurd trivial z, u3_s, fun k hk => ?_, ?_⟩
    · rw [u3_n (by omega), u3_n (by omega), u3_s]
    · rw [u3_n (by omega), u3_n (by omega), u3_n (by omega)]
    · rw [u3_n (by omega), u3_n (by omega), u3_n (by omega)]
    · rw [u3_n (by omega), u3_n (by omega), u3_n (by omega)]
    · rw [u3_n (by omega), u3_s]
    · rw [u3_n (by omega), u3_n (by omega), u3_n (by omega)]; exact h2 k
    · rw [u3_n (by omega), u3_n (by omega), u3_n (by omega)]
  · simp only [c, if_false]
    refine ⟨fun z => absurd z (fun y => y), fun _ => ⟨?_, ?_, ?_, ?_, ?_⟩, u3_s, fun k hk => ?_, ?_⟩
    · rw [u3_n (by omega), u3_n (by omega), u3_s]
    · rw [u3_n (by omega), u3_n (by omega), u3_n (by omega), u3_n (by omega), u3_n (by omega), u3_s]
    · rw [u3_n (by omega), u3_n (by omega), u3_n (by omega), u3_n (by omega), u3_s]
      first | done | rw [u3_n (by omega)]
    · rw [u3_n (by omega), u3_n (by omega), u3_n (by omega), u3_s]
      first | done | rw [u3_n (by omega), u3_n (by omega)]
    · rw [u3_n (by omega), u3_s]
    · rw [u3_n (by omega), u3_n (by omega), u3_n (by omega), u3_n (by omega), u3_n (by omega), u3_n (by omega)]; exact h2 k
    · rw [u3_n (by omega), u3_n (by omega), u3_n (by omega), u3_n (by omega), u3_n (by omega), u3_n (by omega)]
theorem msets_fr {c i j : Nat} (h2 : ¬ (c = 11 ∧ j = 34)) : ∀ m, ¬ ((c = 12 ∨ c = 13) ∧ j < m) → sp_msets m Γ c i j = Γ c i j
  | 0, _ => u3_n (fun z => h2 ⟨z.1, z.2.2⟩)
  | m + 1, h => by
    show sp_mset m (sp_msets m Γ) c i j = _
    rw [sp_mset_fr (by omega)]
    exact msets_fr h2 m (by omega)
theorem msets_at {d : Nat} : ∀ m, d < m → SM d Γ (sp_msets m Γ)
  | 0, h => absurd h (Nat.not_lt_zero _)
  | m + 1, h => by
    show SM d Γ (sp_mset m (sp_msets m Γ))
    by_cases e : d = m
    · subst e
      exact mset_SM _ (fun k => msets_fr (by omega) d (by omega)) (fun k => msets_fr (by omega) d (by omega))
    · have q := msets_at m (show d < m by omega)
      unfold SM at *
      rw [sp_mset_fr (by omega), sp_mset_fr (by omega), sp_mset_fr (by omega), sp_mset_fr (by omega), sp_mset_fr (by omega), sp_mset_fr (by omega), sp_mset_fr (by omega)]
      refine ⟨q.1, q.2.1, q.2.2.1, fun k hk => ?_, q.2.2.2.2⟩
      rw [sp_mset_fr (by omega)]
      exact q.2.2.2.1 k hk
theorem sp_sum_0 : ∀ n, sp_sum (fun _ => 0) n = 0
  | 0 => rfl
  | n + 1 => by show sp_sum (fun _ => 0) n + 0 = 0; rw [sp_sum_0 n]; rfl
/-- the settled world: both sides, no round counted -/
theorem keep_settle (h : RI T n p A B ord Γ) (hf : Γ 5 0 5 = 0) {ord' : List Nat} {G : Nat → Nat → Nat → Int32} (ho : ORD G n ord')
    (hSV : ∀ d, d < n → SV d Γ G) (hSM : ∀ d, d < n → SM d Γ G) (h6 : G 5 0 6 = 0)
    (hF : ∀ c i j, ¬ (c ≤ 2 ∧ i < n) → ¬ (c = 5 ∧ j = 6) → ¬ (c = 11 ∧ j = 34) → ¬ ((c = 12 ∨ c = 13) ∧ j < n) → G c i j = Γ c i j) (h1 : ∀ d j, j ≠ 0 → G 1 d j = Γ 1 d j) : RI T n p A B ord' G := by
  obtain ⟨r1, r2, r3, r4, r5, r6, r7⟩ := h
  obtain ⟨g1, g2, g3, g4, g5, g6, g7, g8, g9, g10, g11, g12⟩ := id r1
  have f5 : ∀ j, j ≠ 6 → G 5 0 j = Γ 5 0 j := fun j hj => hF _ _ _ (by omega) (by omega) (by omega) (by omega)
  have f3 : G 3 0 1 = Γ 3 0 1 := hF _ _ _ (by omega) (by omega) (by omega) (by omega)
  have f11 : ∀ j, j ≠ 34 → G 11 0 j = Γ 11 0 j := fun j hj => hF _ _ _ (by omega) (by omega) (by omega) (by omega)
  have f12 : ∀ k, ¬ (k = 7 ∨ k = 8 ∨ k = 9) → ∀ j, G 12 k j = Γ 12 k j := fun k hk j => by
    by_cases c : j < n
    · exact (hSM j c).2.2.2.1 k hk
    · exact hF _ _ _ (by omega) (by omega) (by omega) (by omega)
  have f28 : ∀ j, G 13 28 j = Γ 13 28 j := fun j => by
    by_cases c : j < n
    · exact (hSM j c).2.2.2.2
    · exact hF _ _ _ (by omega) (by omega) (by omega) (by omega)
  -- who stands, and with which bid
  have st : ∀ d, d < n → ¬ G 0 d 0 = 0 → (Γ 1 d 0 = 0 ∧ ¬ Γ 0 d 0 = 0 ∧ G 0 d 3 = Γ 0 d 3) ∨ (¬ Γ 1 d 0 = 0 ∧ G 0 d 3 = Γ 1 d 3) := fun d hd z => by
    obtain ⟨a1, a2, -, -⟩ := hSV d hd
    by_cases c : Γ 1 d 0 = 0
    · left
      obtain ⟨b0, b1, b2, b3, b4⟩ := a1 c
      refine ⟨c, fun y => z ?_, b3⟩
      rw [b0, y]
      split <;> rfl
    · right
      obtain ⟨b0, b1, b2, b3, b4⟩ := a2 c
      exact ⟨c, b3⟩
  refine ⟨?_, fun d hd => ?_, fun x y hx hy hne => ?_, fun j hj => (r4 j hj).congr (fun k => hF _ _ _ (by omega) (by omega) (by omega) (by omega)) (fun k a b => f12 k (by omega) j) (f28 j), ho, ⟨fun _ d hd => ?_, fun z => absurd ((f5 5 (by decide)).trans hf) z⟩, ⟨fun d hd => ?_, fun j hj => by rw [f28]; exact r7.2 j hj⟩⟩
  · unfold RG
    rw [f5 3 (by decide), f5 4 (by decide), f5 5 (by decide), f5 7 (by decide), f5 8 (by decide), f3, f11 3 (by decide), f11 24 (by decide), f11 0 (by decide), f11 1 (by decide), f11 16 (by decide), f11 23 (by decide), f11 2 (by decide), h6]
    refine ⟨g1, g2, g3, g4, g5, g6, g7, g8, g9, g10, g11, ?_⟩
    rw [sp_sum_congr n (f := fun j => if G 13 14 j = 0 then (0 : Int32) else 1) (g := fun _ => 0) (fun j hj => by rw [(hSM j hj).2.2.1, if_pos rfl])]
    exact (sp_sum_0 n).symm
  · obtain ⟨q1, ⟨q2a, q2b⟩, q3, q4, q5, q6, q7, q8, q9⟩ := r2 d hd
    obtain ⟨a1, a2, a3, a4⟩ := hSV d hd
    obtain ⟨b1, b2, b3, b4, -⟩ := hSM d hd
    have e2 : ∀ j, j ≠ 6 → G 2 d j = Γ 2 d j := a4
    have got0 := r6.1 hf d hd
    unfold RD
    rw [e2 0 (by decide), e2 1 (by decide), e2 2 (by decide), e2 3 (by decide), e2 8 (by decide), e2 9 (by decide), e2 10 (by decide), e2 11 (by decide), e2 12 (by decide), e2 13 (by decide), b4 4 (by omega), b4 5 (by omega), b4 6 (by omega), b4 17 (by omega), b4 18 (by omega), b4 19 (by omega), b4 20 (by omega), b4 21 (by omega), b4 22 (by omega), a3, b3]
    refine ⟨q1, ⟨?_, Iff.rfl⟩, fun z => ?_, fun z => absurd rfl z, fun _ => got0, q6, q7, q8, q9⟩
    · by_cases c : Γ 1 d 0 = 0
      · rw [(a1 c).1, (b1 (q2b.mpr c)).1]
        by_cases s : Γ 0 d 0 = 0
        · rw [if_pos (q2a.mpr s), s]
          simp
        · rw [if_neg (fun y => s (q2a.mp y))]
          have qs := (q3 s).2.2.2.1
          by_cases u : Γ 2 d 6 = 0
          · rw [if_pos u, if_pos (qs.mpr u)]
            exact ⟨fun y => absurd y (by decide), fun y => absurd y s⟩
          · rw [if_neg u, if_neg (fun y => u (qs.mp y))]
      · rw [(a2 c).1, (b2 (fun y => c (q2b.mp y))).1]
    · by_cases c : Γ 1 d 0 = 0
      · obtain ⟨c0, c1, c2, c3, c4⟩ := a1 c
        obtain ⟨d0, d1, d2, d3, d4⟩ := b1 (q2b.mpr c)
        have s : ¬ Γ 0 d 0 = 0 := fun y => z (by rw [c0, y]; split <;> rfl)
        obtain ⟨x1, x2, x3, x4, x5, x6⟩ := q3 s
        rw [c1, c2, c3, c4, d1, d2, d3, d4]
        exact ⟨x1, x2, x3, ⟨fun y => absurd y (by decide), fun y => absurd y (by decide)⟩, x5, x6⟩
      · obtain ⟨c0, c1, c2, c3, c4⟩ := a2 c
        obtain ⟨d0, d1, d2, d3, d4⟩ := b2 (fun y => c (q2b.mp y))
        obtain ⟨x1, x2, x3, x5, x6⟩ := q4 c
        rw [c1, c2, c3, c4, d1, d2, d3, d4]
        exact ⟨x1, x2, x3, Iff.rfl, x5, x6⟩
  · have n1 : ∀ d, d < n → G 1 d 0 = 0 := fun d hd => (hSV d hd).2.2.1
    refine ⟨fun z1 z2 => ?_, fun _ z => absurd (n1 y hy) z, fun z _ => absurd (n1 x hx) z⟩
    obtain ⟨s1, s2, s3⟩ := r3 x y hx hy hne
    rcases st x hx z1 with ⟨a1, a2, a3⟩ | ⟨a1, a3⟩ <;> rcases st y hy z2 with ⟨b1, b2, b3⟩ | ⟨b1, b3⟩
    · rw [a3, b3]; exact s1 a2 b2
    · rw [a3, b3]; exact s2 a2 b1
    · rw [a3, b3]
      exact fun e => (r3 y x hy hx (fun q => hne q.symm)).2.1 b2 a1 e.symm
    · rw [a3, b3]; exact s3 a1 b1
  · rw [(hSV d hd).2.2.2 8 (by decide)]
    exact r6.1 hf d hd
  · have q := r7.1 d hd
    rw [f12 6 (by omega), f12 17 (by omega), f12 18 (by omega), f12 19 (by omega), f12 20 (by omega), f12 21 (by omega), f12 22 (by omega), hF 13 10 d (by omega) (by omega) (by omega) (by omega), hF 13 14 d (by omega) (by omega) (by omega) (by omega)]
    exact q
end KEEP4
