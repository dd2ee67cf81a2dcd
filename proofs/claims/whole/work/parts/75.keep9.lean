theorem sum_od {f : Nat → Int32} {ord : List Nat} {n : Nat} (hlt : ∀ i, i < ord.length → od ord i < n) (hinj : ∀ i k, i < ord.length → k < ord.length → od ord i = od ord k → i = k) (hz : ∀ d, d < n → (∀ k, k < ord.length → d ≠ od ord k) → f d = 0) : sp_sum (fun k => f (od ord k)) ord.length = sp_sum f n := by
  classical
  have key : ∀ k, k ≤ ord.length → sp_sum (fun k => f (od ord k)) k = sp_sum (fun d => if ∃ i, i < k ∧ od ord i = d then f d else 0) n := by
    intro k
    induction k with
    | zero =>
      intro _
      rw [sp_sum_congr n (g := fun _ => 0) (fun j _ => if_neg (fun ⟨i, hi, _⟩ => absurd hi (Nat.not_lt_zero _)))]
      exact (sp_sum_0 n).symm
    | succ k ih =>
      intro hk
      show sp_sum (fun k => f (od ord k)) k + f (od ord k) = _
      rw [ih (by omega), sp_sum_upd (f := fun d => if ∃ i, i < k ∧ od ord i = d then f d else 0) (g := fun d => if ∃ i, i < k + 1 ∧ od ord i = d then f d else 0) n (hlt k (by omega)) (fun j hj hne => ?_)]
      · congr 1
        have p1 : (∃ i, i < k + 1 ∧ od ord i = od ord k) := ⟨k, by omega, rfl⟩
        have p2 : ¬ (∃ i, i < k ∧ od ord i = od ord k) := fun ⟨i, hi, e⟩ => by
          have := hinj i k (by omega) (by omega) e
          omega
        show _ = (if _ then f (od ord k) else 0) - (if _ then f (od ord k) else 0)
        rw [if_pos p1, if_neg p2, Int32.sub_zero]
      · by_cases c : ∃ i, i < k ∧ od ord i = j
        · obtain ⟨i, hi, e⟩ := c
          show (if _ then f j else 0) = (if _ then f j else 0)
          rw [if_pos ⟨i, by omega, e⟩, if_pos ⟨i, hi, e⟩]
        · show (if _ then f j else 0) = (if _ then f j else 0)
          rw [if_neg c, if_neg (fun ⟨i, hi, e⟩ => by
            by_cases e2 : i = k
            · subst e2; exact hne e.symm
            · exact c ⟨i, by omega, e⟩)]
  rw [key _ (Nat.le_refl _)]
  refine sp_sum_congr n fun d hd => ?_
  by_cases c : ∃ i, i < ord.length ∧ od ord i = d
  · exact if_pos c
  · rw [if_neg c]
    exact (hz d hd (fun k hk e => c ⟨k, hk, e.symm⟩)).symm
theorem Int32_0_div : (0 : Int32) / 10 = 0 := by decide
section KEEP9
variable {T n p : Nat} {A B : Nat → Nat} {ord : List Nat} {Γ : Nat → Nat → Nat → Int32}
theorem keep_burst (h : RI T n p A B ord Γ) (hn : n ≤ 8) (hf : ¬ Γ 5 0 5 = 0) {i : Nat} (hi : i < p) {G1 : Nat → Nat → Nat → Int32} {x : Nat → Int} (hC : CST (cit 7 F7g ord ord.length (u3 Γ 4 i 3 1)) G1 p (nuf A) (nuf B) ord x) {G2 : Nat → Nat → Nat → Int32} {y : Nat → Int} (hS : STL (sp_m33 17 n (u3 (u3 (cit 10 Fback ord ord.length G1) 11 0 34 0) 13 28 i 1)) G2 p A B (od ord) ord.length y) : RI T n p A B ord (sp_mback n G2) ∧ sp_sum (fun k => G1 2 (od ord k) 7 - G1 2 (od ord k) 8) ord.length = sp_sum (fun k => G2 12 33 k - G2 12 17 k) n := by
  obtain ⟨X, eX⟩ : ∃ X, X = cit 10 Fback ord ord.length G1 := ⟨_, rfl⟩
  have hX : ∀ c i' j, 11 ≤ c → X c i' j = Γ c i' j := fun c i' j z => by rw [eX, cst_m hC z, cit_fr (by omega), u3_n (by omega)]
  rw [← eX] at hS
  have hinj := h.2.2.2.2.1.inj
  have hfl : FLW n p A B ord Γ (cit 7 F7g ord ord.length (u3 Γ 4 i 3 1)) G1 (sp_m33 17 n (u3 (u3 X 11 0 34 0) 13 28 i 1)) G2 x y := by
    refine ⟨fun c i' j z1 z2 z3 z4 => ?_, fun c i' j z1 z2 z3 z4 => ?_, fun j hj => ?_, fun j hj => ?_, fun k hk => ?_, hC, hS⟩
    · rw [cit_fr (by omega), u3_n (by omega)]
    · rw [sp_m33_fr (by omega), u3_n (by omega), u3_n (by omega), hX _ _ _ z1]
    · rw [sp_m33_fr (by omega), cit_fr (by omega), u3_ap, u3_ap, u3_ap]
      have q := (h.2.2.2.1 j hj).2.2.2.2.2
      by_cases c : j = i
      · subst c
        rw [if_pos ⟨rfl, rfl, rfl⟩, if_pos ⟨rfl, rfl, rfl⟩]
      · rw [if_neg (by omega), if_neg (by omega), if_neg (by omega), hX _ _ _ (by omega)]
        exact q
    · rw [sp_m33_fr (by omega), u3_n (by omega), u3_n (by omega), hX _ _ _ (by omega)]
      exact h.2.2.2.2.2.2.2 j hj
    · obtain ⟨s1, s2⟩ := h.st hk
      obtain ⟨⟨-, -, -, -, r17, -⟩, -, -, -, -, r8, -⟩ := h.2.1 _ s1
      have e7 : cit 7 F7g ord ord.length (u3 Γ 4 i 3 1) 2 (od ord k) 7 = Γ 2 (od ord k) 8 := by
        rw [cit_at cloc_7g hinj (Nat.le_refl _) hk]
        unfold F7g
        rw [u3_n (by omega)]
      rw [e7, sp_m33_at (by decide) s1, u3_n (by omega), u3_n (by omega), hX _ _ _ (by omega), r17]
      exact ⟨rfl, r8⟩
  obtain ⟨e1, e2, e3⟩ := flw_eq h hfl
  have hG2 : ∀ c i' j, ¬ (c = 12 ∧ (i' = 29 ∨ i' = 31 ∨ i' = 32 ∨ i' = 33 ∨ i' = 17)) → ¬ (c = 11 ∧ (j = 30 ∨ j = 34)) → ¬ (c = 13 ∧ i' = 28) → G2 c i' j = X c i' j := fun c i' j z1 z2 z3 => by
    rw [hS.1 c i' j (by omega) (by omega) (by omega), sp_m33_fr (by omega), u3_n (by omega), u3_n (by omega)]
  have hG1 : ∀ c i' j, c ≤ 8 → ¬ (c = 3 ∧ j = 2) → ¬ (c = 2 ∧ (j = 7 ∨ j = 8)) → ¬ (c = 4) → G1 c i' j = Γ c i' j := fun c i' j z1 z2 z3 z4 => by
    rw [hC.1 c i' j (by omega) (by omega) (by omega) (by omega), cit_fr (by omega), u3_n (by omega)]
  have h33 : ∀ d, d < n → G2 12 33 d = Γ 2 d 8 := fun d hd => by
    rw [hS.1 12 33 d (by omega) (by omega) (by omega), sp_m33_at (by decide) hd, u3_n (by omega), u3_n (by omega), hX _ _ _ (by omega)]
    exact (h.2.1 d hd).1.2.2.2.2.1
  have h7 : ∀ k, k < ord.length → G1 2 (od ord k) 7 = Γ 2 (od ord k) 8 := fun k hk => by
    rw [hC.1 2 _ 7 (by omega) (by omega) (by omega) (fun _ z => by omega), cit_at cloc_7g hinj (Nat.le_refl _) hk]
    unfold F7g
    rw [u3_n (by omega)]
  have hz : ∀ d, d < n → Γ 0 d 0 = 0 → G2 12 33 d - G2 12 17 d = 0 := fun d hd z => by
    rw [h33 d hd, (e2 d hd z).2, (h.2.1 d hd).2.2.2.2.1 z]
    rfl
  refine ⟨keep_flows h hfl (fun c i' j z1 z2 => ?_) (fun c i' j z1 z2 z3 => ?_) ?_ ?_ (fun d hd => ?_) (fun d hd => ?_), ?_⟩
  · rw [sp_mback_fr (by omega), hG2 c i' j (by omega) (by omega) (by omega), eX, cit_fr (by omega)]
  · rw [sp_mback_fr (by omega)]
  · rw [cit_fr (by omega), u3_n (by omega)]
    exact hf
  · rw [sp_mback_fr (by omega), hG2 11 0 1 (by omega) (by omega) (by omega), hX _ _ _ (by omega)]
    exact h.fl.mpr hf
  · obtain ⟨⟨-, -, -, -, -, r18, r19, -⟩, -⟩ := h.2.1 d hd
    have X9 : X 2 d 9 = Γ 2 d 9 := by rw [eX, cit_fr (by omega)]; exact hG1 2 d 9 (by omega) (by omega) (by omega) (by omega)
    have X10 : X 2 d 10 = cit 10 Fback ord ord.length G1 2 d 10 := by rw [eX]
    rw [sp_mback_fr (c := 12) (i := 18) (by omega), sp_mback_fr (c := 2) (j := 9) (by omega), sp_mback_fr (c := 2) (j := 10) (by omega), hG2 12 18 d (by omega) (by omega) (by omega), hX 12 18 d (by omega), r18, hG2 2 d 9 (by omega) (by omega) (by omega), hG2 2 d 10 (by omega) (by omega) (by omega), sp_mback_at, if_pos hd, X9, X10]
    refine ⟨rfl, ?_⟩
    unfold sp_mbk
    rw [hG2 12 19 d (by omega) (by omega) (by omega), hG2 12 7 d (by omega) (by omega) (by omega), hX _ _ _ (by omega), hX _ _ _ (by omega), r19]
    by_cases z : Γ 0 d 0 = 0
    · rw [hz d hd z, cit_n (not_od h (fun _ => z)), hG1 2 d 10 (by omega) (by omega) (by omega) (by omega), Int32.zero_mul, Int32_0_div]
      show Γ 2 d 10 + 0 = _
      rw [Int32.add_zero]
    · obtain ⟨k, hk, rfl⟩ := od_ex (h.2.2.2.2.1.mem.mpr ⟨hd, z⟩)
      rw [cit_at cloc_back hinj (Nat.le_refl _) hk]
      unfold Fback
      rw [hG1 2 _ 10 (by omega) (by omega) (by omega) (by omega), hG1 0 _ 1 (by omega) (by omega) (by omega) (by omega), h7 k hk, h33 _ hd, e3 _ hd, ((h.2.1 _ hd).2.2.1 z).1, Int32.mul_comm]
  · rw [sp_mback_fr (by omega), sp_mback_at, if_neg (by omega), hG2 12 18 d (by omega) (by omega) (by omega), hG2 12 19 d (by omega) (by omega) (by omega)]
    exact ⟨hX _ _ _ (by omega), hX _ _ _ (by omega)⟩
  · rw [← sum_od (f := fun k => G2 12 33 k - G2 12 17 k) (fun k hk => (h.st hk).1) hinj (fun d hd z => hz d hd ?_)]
    · refine sp_sum_congr _ fun k hk => ?_
      show _ = G2 12 33 (od ord k) - G2 12 17 (od ord k)
      rw [h7 k hk, h33 _ (h.st hk).1, e3 _ (h.st hk).1]
    · by_cases c : Γ 0 d 0 = 0
      · exact c
      · obtain ⟨k, hk, e⟩ := od_ex (h.2.2.2.2.1.mem.mpr ⟨hd, c⟩)
        exact absurd e.symm (z k hk)
end KEEP9
