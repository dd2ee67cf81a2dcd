section KEEP5
variable {T n p : Nat} {A B : Nat → Nat} {ord : List Nat} {Γ : Nat → Nat → Nat → Int32}
theorem settle_st {d : Nat} {G : Nat → Nat → Nat → Int32} (hSV : SV d Γ G) (z : ¬ G 0 d 0 = 0) : (Γ 1 d 0 = 0 ∧ ¬ Γ 0 d 0 = 0 ∧ G 0 d 3 = Γ 0 d 3 ∧ G 0 d 2 = Γ 0 d 2) ∨ (¬ Γ 1 d 0 = 0 ∧ G 0 d 3 = Γ 1 d 3 ∧ G 0 d 2 = Γ 1 d 2) := by
  obtain ⟨a1, a2, -, -⟩ := hSV
  by_cases c : Γ 1 d 0 = 0
  · left
    obtain ⟨b0, b1, b2, b3, b4⟩ := a1 c
    refine ⟨c, fun y => z ?_, b3, b2⟩
    rw [b0, y]
    split <;> rfl
  · right
    obtain ⟨b0, b1, b2, b3, b4⟩ := a2 c
    exact ⟨c, b3, b2⟩
theorem settle_dst (h : RI T n p A B ord Γ) {G : Nat → Nat → Nat → Int32} (hSV : ∀ d, d < n → SV d Γ G) : dst G n := by
  intro x y hx hy hne z1 z2
  obtain ⟨s1, s2, s3⟩ := h.2.2.1 x y hx hy hne
  rcases settle_st (hSV x hx) z1 with ⟨a1, a2, a3, -⟩ | ⟨a1, a3, -⟩ <;> rcases settle_st (hSV y hy) z2 with ⟨b1, b2, b3, -⟩ | ⟨b1, b3, -⟩
  · rw [a3, b3]; exact s1 a2 b2
  · rw [a3, b3]; exact s2 a2 b1
  · rw [a3, b3]
    exact fun e => (h.2.2.1 y x hy hx (fun q => hne q.symm)).2.1 b2 a1 e.symm
  · rw [a3, b3]; exact s3 a1 b1
theorem settle_units (h : RI T n p A B ord Γ) {G : Nat → Nat → Nat → Int32} (hSV : ∀ d, d < n → SV d Γ G) (d : Nat) (hd : d < n) (z : ¬ G 0 d 0 = 0) : 0 ≤ (G 0 d 2).toInt ∧ (G 0 d 2).toInt ≤ 9999 := by
  rcases settle_st (hSV d hd) z with ⟨a1, a2, -, a3⟩ | ⟨a1, -, a3⟩
  · rw [a3]
    exact ((h.2.1 d hd).2.2.1 a2).2.2.2.2.1
  · rw [a3]
    exact ((h.2.1 d hd).2.2.2.1 a1).2.2.2.1
/-- a round more -/
theorem keep_round (h : RI T n p A B ord Γ) (hf : Γ 5 0 5 = 0) {G : Nat → Nat → Nat → Int32} (hF : ∀ c i j, ¬ (c = 5 ∧ i = 0 ∧ j = 4) → ¬ (c = 11 ∧ i = 0 ∧ j = 1) → G c i j = Γ c i j) (h4 : 0 ≤ (G 5 0 4).toInt ∧ (G 5 0 4).toInt ≤ 4) (h1 : G 11 0 1 = G 5 0 4) : RI T n p A B ord G := by
  obtain ⟨r1, r2, r3, r4, r5, r6, r7⟩ := h
  obtain ⟨g1, g2, g3, g4, g5, g6, g7, g8, g9, g10, g11, g12⟩ := id r1
  have F : ∀ c i j, ¬ c = 5 → ¬ c = 11 → G c i j = Γ c i j := fun c i j a b => hF c i j (fun z => a z.1) (fun z => b z.1)
  refine ⟨?_, fun d hd => (r2 d hd).congr (fun j => F _ _ _ (by omega) (by omega)) (fun j => F _ _ _ (by omega) (by omega)) (fun j _ => F _ _ _ (by omega) (by omega)) (fun k _ => F _ _ _ (by omega) (by omega)) (fun k _ => F _ _ _ (by omega) (by omega)), r3.congr (fun d j => F _ _ _ (by omega) (by omega)) (fun d j => F _ _ _ (by omega) (by omega)), fun j hj => (r4 j hj).congr (fun k => F _ _ _ (by omega) (by omega)) (fun k _ _ => F _ _ _ (by omega) (by omega)) (F _ _ _ (by omega) (by omega)), r5.congr (fun i j _ => F _ _ _ (by omega) (by omega)), r6.congr (hF _ _ _ (by omega) (by omega)) (F _ _ _ (by omega) (by omega)) (fun d j _ => F _ _ _ (by omega) (by omega)) (fun j => F _ _ _ (by omega) (by omega)) (fun j => F _ _ _ (by omega) (by omega)), r7.congr (fun k d _ _ => F _ _ _ (by omega) (by omega)) (fun d _ => ⟨F _ _ _ (by omega) (by omega), F _ _ _ (by omega) (by omega)⟩) (fun j _ => F _ _ _ (by omega) (by omega))⟩
  unfold RG
  rw [hF 5 0 3 (by omega) (by omega), hF 5 0 5 (by omega) (by omega), hF 5 0 6 (by omega) (by omega), hF 5 0 7 (by omega) (by omega), hF 5 0 8 (by omega) (by omega), F 3 0 1 (by omega) (by omega), hF 11 0 3 (by omega) (by omega), hF 11 0 24 (by omega) (by omega), hF 11 0 0 (by omega) (by omega), h1, hF 11 0 16 (by omega) (by omega), hF 11 0 23 (by omega) (by omega), hF 11 0 2 (by omega) (by omega), if_pos hf]
  refine ⟨g1, g2, g3, g4, h4, rfl, g7, g8, g9, g10, g11, ?_⟩
  rw [g12]
  exact sp_sum_congr n fun j _ => by rw [F 13 14 j (by omega) (by omega)]
/-- what flowing changes -/
def chF (c i j : Nat) : Prop := irr c i j ∨ (c = 2 ∧ 7 ≤ j ∧ j ≤ 10) ∨ (c = 12 ∧ 17 ≤ i ∧ i ≤ 19) ∨ (c = 5 ∧ j = 5) ∨ (c = 11 ∧ j = 1) ∨ (c = 4 ∧ j = 3) ∨ (c = 13 ∧ i = 28)
theorem keep_flowing (h : RI T n p A B ord Γ) {G : Nat → Nat → Nat → Int32} {x : Nat → Int} (hF : ∀ c i j, ¬ chF c i j → G c i j = Γ c i j) (f5 : ¬ G 5 0 5 = 0) (f11 : G 11 0 1 = -1) (hb : ∀ j, j < p → (G 13 28 j = 0 ↔ G 4 j 3 = 0)) (hb2 : ∀ j, p ≤ j → G 13 28 j = 0)
    (h8 : ∀ i, i < ord.length → (G 2 (od ord i) 8).toInt = x i) (h17 : ∀ i, i < ord.length → (G 12 17 (od ord i)).toInt = x i) (h8n : ∀ d, d < n → Γ 0 d 0 = 0 → G 2 d 8 = 0 ∧ G 12 17 d = 0) (h9 : ∀ d, d < n → G 12 18 d = G 2 d 9 ∧ G 12 19 d = G 2 d 10) (hz : ∀ d, n ≤ d → G 12 17 d = 0 ∧ G 12 18 d = 0 ∧ G 12 19 d = 0)
    (h7 : ∀ i, i < ord.length → 0 ≤ (G 2 (od ord i) 7).toInt ∧ (G 2 (od ord i) 7).toInt ≤ 9999) (hsq : SEQ (CM p (nuf A) (nuf B) (KG G)) (Γ 3 0 1).toInt (od ord) (fun i => (G 2 (od ord i) 7).toInt) x ord.length) : RI T n p A B ord G := by
  obtain ⟨r1, r2, r3, r4, r5, r6, r7⟩ := h
  obtain ⟨g1, g2, g3, g4, g5, g6, g7, g8, g9, g10, g11, g12⟩ := id r1
  have f : ∀ c i j, ¬ (irr c i j ∨ (c = 2 ∧ 7 ≤ j ∧ j ≤ 10) ∨ (c = 12 ∧ 17 ≤ i ∧ i ≤ 19) ∨ (c = 5 ∧ j = 5) ∨ (c = 11 ∧ j = 1) ∨ (c = 4 ∧ j = 3) ∨ (c = 13 ∧ i = 28)) → G c i j = Γ c i j := hF
  unfold irr at f
  have f3 : G 3 0 1 = Γ 3 0 1 := f _ _ _ (by omega)
  have e817 : ∀ d, d < n → G 12 17 d = G 2 d 8 := fun d hd => by
    by_cases z : Γ 0 d 0 = 0
    · rw [(h8n d hd z).1, (h8n d hd z).2]
    · obtain ⟨i, hi, e⟩ := od_ex (r5.mem.mpr ⟨hd, z⟩)
      have a := h8 i hi
      have b := h17 i hi
      rw [e] at a b
      exact Int32.toInt_inj.mp (b.trans a.symm)
  have hp := SEQ.pos g11.1 ord.length hsq
  refine ⟨?_, fun d hd => ?_, r3.congr (fun d j => f _ _ _ (by omega)) (fun d j => f _ _ _ (by omega)), fun j hj => ?_, r5.congr (fun i j _ => f _ _ _ (by omega)), ⟨fun z => absurd z f5, fun _ => ⟨h7, ?_⟩⟩, ⟨fun d hd => ?_, hb2⟩⟩
  · unfold RG
    rw [f 5 0 3 (by omega), f 5 0 4 (by omega), f 5 0 6 (by omega), f 5 0 7 (by omega), f 5 0 8 (by omega), f3, f 11 0 3 (by omega), f 11 0 24 (by omega), f 11 0 0 (by omega), f11, f 11 0 16 (by omega), f 11 0 23 (by omega), f 11 0 2 (by omega), if_neg f5]
    refine ⟨g1, g2, g3, g4, g5, rfl, g7, g8, g9, g10, g11, ?_⟩
    rw [g12]
    exact sp_sum_congr n fun j _ => by rw [f 13 14 j (by omega)]
  · obtain ⟨⟨a0, a1, a2, a3, a4, a5, a6, a7, a8, a9⟩, q2, q3, q4, q5, q6, q7, q8, q9⟩ := r2 d hd
    have hgot : 0 ≤ (G 2 d 8).toInt ∧ (G 2 d 8).toInt ≤ 9999 := by
      by_cases z : Γ 0 d 0 = 0
      · rw [(h8n d hd z).1]
        exact ⟨by decide, by decide⟩
      · obtain ⟨i, hi, e⟩ := od_ex (r5.mem.mpr ⟨hd, z⟩)
        have a := h8 i hi
        rw [e] at a
        have b := hp.1 i hi
        have c := h7 i hi
        rw [a]
        exact ⟨b.1, Int.le_trans b.2 c.2⟩
    unfold RD
    rw [f 2 d 0 (by omega), f 2 d 1 (by omega), f 2 d 2 (by omega), f 2 d 3 (by omega), f 2 d 6 (by omega), f 2 d 11 (by omega), f 2 d 12 (by omega), f 2 d 13 (by omega), f 0 d 0 (by omega), f 0 d 1 (by omega), f 0 d 2 (by omega), f 0 d 3 (by omega), f 1 d 0 (by omega), f 1 d 1 (by omega), f 1 d 2 (by omega), f 1 d 3 (by omega), f 12 4 d (by omega), f 12 5 d (by omega), f 12 6 d (by omega), f 12 7 d (by omega), f 12 8 d (by omega), f 12 9 d (by omega), f 12 11 d (by omega), f 12 12 d (by omega), f 12 13 d (by omega), f 12 20 d (by omega), f 12 21 d (by omega), f 12 22 d (by omega), f 13 10 d (by omega), f 13 14 d (by omega), f 13 15 d (by omega)]
    exact ⟨⟨a0, a1, a2, a3, e817 d hd, (h9 d hd).1, (h9 d hd).2, a7, a8, a9⟩, q2, q3, q4, fun z => (h8n d hd z).1, hgot, q7, q8, q9⟩
  · have q := r4 j hj
    unfold RP at *
    rw [f 12 25 j (by omega), f 12 26 j (by omega), f 12 27 j (by omega), f 4 j 0 (by omega), f 4 j 1 (by omega), f 4 j 2 (by omega)]
    exact ⟨q.1, q.2.1, q.2.2.1, q.2.2.2.1, q.2.2.2.2.1, hb j hj⟩
  · rw [f3]
    intro i hi
    have q := hsq i hi
    have e8 : ∀ y, y < ord.length → (G 2 (od ord y) 8).toInt = x y := h8
    rw [gS_congr i (x := fun i => (G 2 (od ord i) 8).toInt) (y := x) (fun y hy => e8 y (by omega)), zs_congr (f := fun i => (G 2 (od ord i) 8).toInt) (g := x) i (fun y hy => e8 y (by omega))]
    show Amt _ _ _ _ (G 2 (od ord i) 8).toInt
    rw [e8 i hi]
    exact q
  · have q := r7.1 d hd
    rw [f 12 6 d (by omega), f 12 20 d (by omega), f 12 21 d (by omega), f 12 22 d (by omega), f 13 10 d (by omega), f 13 14 d (by omega)]
    obtain ⟨z1, z2, z3⟩ := hz d hd
    exact ⟨⟨q.1.1, z1, z2, z3, q.1.2.2.2.2.1, q.1.2.2.2.2.2.1, q.1.2.2.2.2.2.2⟩, q.2⟩
end KEEP5
