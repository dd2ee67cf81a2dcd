theorem sp_sum_upd {f g : Nat → Int32} {i : Nat} : ∀ n, i < n → (∀ j, j < n → j ≠ i → g j = f j) → sp_sum g n = sp_sum f n + (g i - f i)
  | 0, h, _ => absurd h (Nat.not_lt_zero _)
  | n + 1, hi, h => by
    show sp_sum g n + g n = sp_sum f n + f n + (g i - f i)
    by_cases e : i = n
    · subst e
      rw [sp_sum_congr i (fun j hj => h j (by omega) (by omega))]
      rw [Int32.add_assoc]
      congr 1
      rw [Int32.add_comm, Int32.sub_add_cancel]
    · rw [sp_sum_upd n (by omega) (fun j hj hne => h j (by omega) hne), h n (by omega) (fun z => e z.symm), Int32.add_assoc, Int32.add_assoc, Int32.add_comm (g i - f i)]
def sp_mbid (Γ : Nat → Nat → Nat → Int32) (i : Nat) (a c : Int32) : Nat → Nat → Nat → Int32 := u3 (u3 (u3 (u3 (u3 (u3 Γ 11 0 34 0) 12 11 i a) 12 12 i c) 12 13 i (Γ 11 0 16)) 13 14 i 1) 11 0 16 (Γ 11 0 16 + 1)
section KEEP2
variable {T n p : Nat} {A B : Nat → Nat} {ord : List Nat} {Γ : Nat → Nat → Nat → Int32}
theorem RD.mono {T' d : Nat} (h : RD T d Γ) (ht : T ≤ T') : RD T' d Γ := by
  obtain ⟨a1, a2, a3, a4, a5⟩ := h
  refine ⟨a1, a2, fun z => ?_, fun z => ?_, a5⟩
  · obtain ⟨b1, b2, b3, b4, b5, b6, b7⟩ := a3 z
    exact ⟨b1, b2, b3, b4, b5, b6, by omega⟩
  · obtain ⟨b1, b2, b3, b4, b6, b7⟩ := a4 z
    exact ⟨b1, b2, b3, b4, b6, by omega⟩
theorem keep_bid (h : RI T n p A B ord Γ) {i : Nat} (hi : i < n) (hT : T < 2 ^ 30) {a c : Int32} (h1 : 0 ≤ c.toInt) (h2 : c.toInt ≤ 9999) : RI (T + 1) n p A B ord (sp_mbid (sp_cbid Γ i a c) i a c) ∧ sp_cbid Γ i a c 5 0 6 = sp_sum (fun j => if (sp_mbid (sp_cbid Γ i a c) i a c) 13 14 j = 0 then 0 else 1) n := by
  obtain ⟨r1, r2, r3, r4, r5, r6, r7⟩ := h
  obtain ⟨g1, g2, g3, g4, g5, g6, g7, g8, g9, g10, g11, g12⟩ := id r1
  obtain ⟨G, eG⟩ : ∃ G, G = sp_mbid (sp_cbid Γ i a c) i a c := ⟨_, rfl⟩
  have F : ∀ c' i' j', ¬ (c' = 1 ∧ i' = i) → ¬ (c' = 5 ∧ (j' = 6 ∨ j' = 7)) → ¬ (c' = 11 ∧ (j' = 34 ∨ j' = 16)) → ¬ (c' = 12 ∧ (i' = 11 ∨ i' = 12 ∨ i' = 13) ∧ j' = i) → ¬ (c' = 13 ∧ i' = 14 ∧ j' = i) → G c' i' j' = Γ c' i' j' := fun c' i' j' z1 z2 z3 z4 z5 => by
    rw [eG]
    unfold sp_mbid sp_cbid
    rw [u3_n (by omega), u3_n (by omega), u3_n (by omega), u3_n (by omega), u3_n (by omega), u3_n (by omega), u3_n (by omega), u3_n (by omega), u3_n (by omega), u3_n (by omega), u3_n (by omega)]
    split
    · rw [u3_n (by omega)]
    · rfl
  have v0 : G 1 i 0 = 1 := by rw [eG]; simp [sp_mbid, sp_cbid, u3_ap]
  have v1 : G 1 i 1 = a := by rw [eG]; simp [sp_mbid, sp_cbid, u3_ap]
  have v2 : G 1 i 2 = c := by rw [eG]; simp [sp_mbid, sp_cbid, u3_ap]
  have v3 : G 1 i 3 = Γ 5 0 7 := by rw [eG]; simp [sp_mbid, sp_cbid, u3_ap]
  have t7 : G 5 0 7 = Γ 5 0 7 + 1 := by rw [eG]; simp [sp_mbid, sp_cbid, u3_ap]
  have t6 : G 5 0 6 = if Γ 1 i 0 = 0 then Γ 5 0 6 + 1 else Γ 5 0 6 := by
    rw [eG]
    by_cases z : Γ 1 i 0 = 0 <;> simp [sp_mbid, sp_cbid, u3_ap, z]
  have m16 : G 11 0 16 = Γ 11 0 16 + 1 := by
    rw [eG]
    by_cases z : Γ 1 i 0 = 0 <;> simp [sp_mbid, sp_cbid, u3_ap, z]
  have w11 : G 12 11 i = a := by rw [eG]; simp [sp_mbid, sp_cbid, u3_ap]
  have w12 : G 12 12 i = c := by rw [eG]; simp [sp_mbid, sp_cbid, u3_ap]
  have w13 : G 12 13 i = Γ 11 0 16 := by
    rw [eG]
    by_cases z : Γ 1 i 0 = 0 <;> simp [sp_mbid, sp_cbid, u3_ap, z]
  have w14 : G 13 14 i = 1 := by rw [eG]; simp [sp_mbid, sp_cbid, u3_ap]
  have c6 : sp_cbid Γ i a c 5 0 6 = G 5 0 6 := by rw [eG]; simp [sp_mbid, u3_ap]
  rw [c6, ← eG]
  have hsum : G 5 0 6 = sp_sum (fun j => if G 13 14 j = 0 then 0 else 1) n := by
    have hu := sp_sum_upd (f := fun j => if Γ 13 14 j = 0 then (0 : Int32) else 1) (g := fun j => if G 13 14 j = 0 then (0 : Int32) else 1) (i := i) n hi (fun j hj hne => by
      show (if G 13 14 j = 0 then (0 : Int32) else 1) = _
      rw [F 13 14 j (by omega) (by omega) (by omega) (by omega) (by omega)])
    rw [hu, ← g12, t6]
    show _ = Γ 5 0 6 + ((if G 13 14 i = 0 then (0 : Int32) else 1) - (if Γ 13 14 i = 0 then 0 else 1))
    rw [w14, if_neg (show ¬ (1 : Int32) = 0 by decide)]
    have hq := (r2 i hi).2.1.2
    by_cases z : Γ 1 i 0 = 0
    · rw [if_pos z, if_pos (hq.mpr z)]
      rfl
    · rw [if_neg z, if_neg (fun y => z (hq.mp y))]
      exact (Int32.add_zero _).symm
  have h7I : (Γ 5 0 7).toInt = T := by rw [g8]; exact nI_toInt (by omega)
  refine ⟨⟨?_, fun d hd => ?_, fun x y hx hy hne => ?_, fun j hj => (r4 j hj).congr (fun k => F _ _ _ (by omega) (by omega) (by omega) (by omega) (by omega)) (fun k _ _ => F _ _ _ (by omega) (by omega) (by omega) (by omega) (by omega)) (F _ _ _ (by omega) (by omega) (by omega) (by omega) (by omega)), r5.congr (fun x y _ => F _ _ _ (by omega) (by omega) (by omega) (by omega) (by omega)), r6.congr (F _ _ _ (by omega) (by omega) (by omega) (by omega) (by omega)) (F _ _ _ (by omega) (by omega) (by omega) (by omega) (by omega)) (fun d j _ => F _ _ _ (by omega) (by omega) (by omega) (by omega) (by omega)) (fun j => F _ _ _ (by omega) (by omega) (by omega) (by omega) (by omega)) (fun j => F _ _ _ (by omega) (by omega) (by omega) (by omega) (by omega)), ?_⟩, hsum⟩
  · unfold RG
    rw [F 11 0 3 (by omega) (by omega) (by omega) (by omega) (by omega), F 11 0 24 (by omega) (by omega) (by omega) (by omega) (by omega), F 11 0 0 (by omega) (by omega) (by omega) (by omega) (by omega), F 5 0 3 (by omega) (by omega) (by omega) (by omega) (by omega), F 5 0 4 (by omega) (by omega) (by omega) (by omega) (by omega), F 11 0 1 (by omega) (by omega) (by omega) (by omega) (by omega), F 5 0 5 (by omega) (by omega) (by omega) (by omega) (by omega), m16, t7, F 11 0 23 (by omega) (by omega) (by omega) (by omega) (by omega), F 5 0 8 (by omega) (by omega) (by omega) (by omega) (by omega), F 11 0 2 (by omega) (by omega) (by omega) (by omega) (by omega), F 3 0 1 (by omega) (by omega) (by omega) (by omega) (by omega)]
    exact ⟨g1, g2, g3, g4, g5, g6, by rw [g7], by rw [g8]; exact nI_1 T, g9, g10, g11, hsum⟩
  · have q := (r2 d hd).mono (Nat.le_succ T)
    by_cases z : d = i
    · subst z
      obtain ⟨q1, q2, q3, q4, q5⟩ := q
      have E0 : ∀ j, G 0 d j = Γ 0 d j := fun j => F _ _ _ (by omega) (by omega) (by omega) (by omega) (by omega)
      have E2 : ∀ j, G 2 d j = Γ 2 d j := fun j => F _ _ _ (by omega) (by omega) (by omega) (by omega) (by omega)
      have E12 : ∀ k, ¬ (k = 11 ∨ k = 12 ∨ k = 13) → G 12 k d = Γ 12 k d := fun k hk => F _ _ _ (by omega) (by omega) (by omega) (by omega) (by omega)
      have E13 : ∀ k, k ≠ 14 → G 13 k d = Γ 13 k d := fun k hk => F _ _ _ (by omega) (by omega) (by omega) (by omega) (by omega)
      unfold RD
      rw [E0, E0, E0, E0, E2, E2, E2, E2, E2, E2, E2, E2, E2, E2, E2, E12 4 (by omega), E12 5 (by omega), E12 6 (by omega), E12 7 (by omega), E12 8 (by omega), E12 9 (by omega), E12 17 (by omega), E12 18 (by omega), E12 19 (by omega), E12 20 (by omega), E12 21 (by omega), E12 22 (by omega), E13 10 (by omega), E13 15 (by omega), v0, v1, v2, v3, w11, w12, w13, w14]
      exact ⟨q1, ⟨q2.1, ⟨fun y => absurd y (by decide), fun y => absurd y (by decide)⟩⟩, q3, fun _ => ⟨rfl, rfl, g7, ⟨h1, h2⟩, by omega, by omega⟩, q5⟩
    · exact q.congr (fun j => F _ _ _ (by omega) (by omega) (by omega) (by omega) (by omega)) (fun j => F _ _ _ (by omega) (by omega) (by omega) (by omega) (by omega)) (fun j _ => F _ _ _ (by omega) (by omega) (by omega) (by omega) (by omega)) (fun k _ => F _ _ _ (by omega) (by omega) (by omega) (by omega) (by omega)) (fun k _ => F _ _ _ (by omega) (by omega) (by omega) (by omega) (by omega))
  · have E0 : ∀ d j, G 0 d j = Γ 0 d j := fun d j => F _ _ _ (by omega) (by omega) (by omega) (by omega) (by omega)
    have E1 : ∀ d j, d ≠ i → G 1 d j = Γ 1 d j := fun d j hd => F _ _ _ (by omega) (by omega) (by omega) (by omega) (by omega)
    obtain ⟨s1, s2, s3⟩ := r3 x y hx hy hne
    rw [E0, E0, E0, E0]
    refine ⟨s1, fun z1 z2 => ?_, fun z1 z2 => ?_⟩
    · by_cases e : y = i
      · subst e
        rw [v3, h7I]
        have := ((r2 x hx).2.2.1 z1).2.2.2.2.2.2
        omega
      · rw [E1 y _ e] at z2 ⊢
        exact s2 z1 z2
    · by_cases e : y = i
      · subst e
        have e2 : x ≠ y := hne
        rw [E1 x _ e2] at z1 ⊢
        rw [v3, h7I]
        have := ((r2 x hx).2.2.2.1 z1).2.2.2.2.2
        omega
      · rw [E1 y _ e] at z2 ⊢
        by_cases e2 : x = i
        · subst e2
          rw [v3, h7I]
          have := ((r2 y hy).2.2.2.1 z2).2.2.2.2.2
          omega
        · rw [E1 x _ e2] at z1 ⊢
          exact s3 z1 z2
  · refine r7.congr (fun k d hk hd => F _ _ _ (by omega) (by omega) (by omega) (by omega) (by omega)) (fun d hd => ⟨F _ _ _ (by omega) (by omega) (by omega) (by omega) (by omega), F _ _ _ (by omega) (by omega) (by omega) (by omega) (by omega)⟩) (fun j hj => F _ _ _ (by omega) (by omega) (by omega) (by omega) (by omega))
end KEEP2
