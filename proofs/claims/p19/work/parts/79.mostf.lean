/-! ===== what flows against the most that can flow ===== -/
section MF
variable {T n p : Nat} {A B : Nat → Nat} {ord : List Nat} {Γ : Nat → Nat → Nat → Int32} {m : Nat} {y : Int32}
def gotI (Γ : Nat → Nat → Nat → Int32) (ord : List Nat) (i : Nat) : Int := (Γ 2 (od ord i) 8).toInt
def untI (Γ : Nat → Nat → Nat → Int32) (ord : List Nat) (i : Nat) : Int := (Γ 0 (od ord i) 2).toInt
theorem got_0 (hc : CI T n p A B ord Γ) (hf : Γ 5 0 5 = 0) {t : Nat} (ht : t ≤ ord.length) : zs (gotI Γ ord) t = 0 := by
  refine (zs_congr t fun i hi => ?_).trans (zs_0 t)
  show (Γ 2 (od ord i) 8).toInt = 0
  rw [hc.2.2.2.2.2.1 hf _ (hc.st (show i < ord.length by omega)).1]
  exact tI_0
theorem MO.nn (hc : CI T n p A B ord Γ) (hm : MO n p A B Γ m y) : 0 ≤ y.toInt := by
  obtain ⟨x, e, hs⟩ := hm
  rw [e]
  exact (SEQ.pos hc.1.2.2.2.2.1.1 n hs).2.1
theorem got_b (hc : CI T n p A B ord Γ) {t : Nat} (ht : t ≤ ord.length) : 0 ≤ zs (gotI Γ ord) t ∧ zs (gotI Γ ord) t ≤ 9999 := by
  by_cases hf : Γ 5 0 5 = 0
  · rw [got_0 hc hf ht]
    omega
  · obtain ⟨-, c2⟩ := hc.2.2.2.2.2.2 hf
    have g := hc.1.2.2.2.2.1
    have := SEQ.pos g.1 t (fun i hi => c2 i (by omega))
    have e : zs (gotI Γ ord) t = zs (fun i => (Γ 2 (od ord i) 8).toInt) t := rfl
    rw [e]
    omega
/-- those in the set get no more than the most -/
theorem MO.ub (hc : CI T n p A B ord Γ) (hn : n ≤ 8) (hm : MO n p A B Γ m y) (Q : Nat → Bool) (hQ : ∀ i, i < ord.length → Q i = true → m.testBit (od ord i) = true) : zs (fun i => if Q i = true then gotI Γ ord i else 0) ord.length ≤ y.toInt := by
  by_cases hf : Γ 5 0 5 = 0
  · have h0 := hm.nn hc
    refine Int.le_trans (Int.le_of_eq ((zs_congr ord.length fun i hi => ?_).trans (zs_0 _))) h0
    have : gotI Γ ord i = 0 := by
      unfold gotI
      rw [hc.2.2.2.2.2.1 hf _ (hc.st hi).1]
      exact tI_0
    rw [this]
    split <;> rfl
  · obtain ⟨c1, c2⟩ := hc.2.2.2.2.2.2 hf
    obtain ⟨x, e, hs⟩ := hm
    have g := hc.1.2.2.2.2.1
    rw [e]
    refine SEQ.ub (P := fun j => m.testBit j) hc.C0 g.1 hs (fun i hi => by omega) (fun i hi hp => Or.inr ?_) (fun i hi hp => ?_) c2 (fun i hi => by have := (hc.st hi).1; omega) (fun i hi hq => ⟨od ord i, (hc.st hi).1, hQ i hi hq, rfl⟩)
    · show _ ≤ (if m.testBit i = true then (9999 : Int) else 0)
      rw [if_pos hp]
      exact g.2
    · show (if m.testBit i = true then (9999 : Int) else 0) = 0
      rw [if_neg (by rw [hp]; decide)]
theorem zs_pre (f : Nat → Int) (t : Nat) : ∀ k, t ≤ k → zs (fun i => if decide (i < t) = true then f i else 0) k = zs f t
  | 0, h => by
    have : t = 0 := by omega
    rw [this]
    rfl
  | k + 1, h => by
    by_cases e : t = k + 1
    · rw [e]
      exact zs_congr _ fun i hi => if_pos (decide_eq_true hi)
    · show zs (fun i => if decide (i < t) = true then f i else 0) k + (if decide (k < t) = true then f k else 0) = _
      rw [zs_pre f t k (by omega), if_neg (by simp; omega)]
      omega
theorem zs_only (f : Nat → Int) {t : Nat} : ∀ k, t < k → zs (fun i => if decide (i = t) = true then f i else 0) k = f t
  | 0, h => absurd h (Nat.not_lt_zero _)
  | k + 1, h => by
    show zs (fun i => if decide (i = t) = true then f i else 0) k + (if decide (k = t) = true then f k else 0) = f t
    by_cases e : t = k
    · subst e
      rw [if_pos (decide_eq_true rfl), (zs_congr t fun i hi => if_neg (by simp; omega) : zs (fun i => if decide (i = t) = true then f i else 0) t = zs (fun _ => 0) t), zs_0]
      omega
    · rw [zs_only f k (by omega), if_neg (by simp; omega)]
      omega
theorem MO.pre (hc : CI T n p A B ord Γ) (hn : n ≤ 8) (hm : MO n p A B Γ m y) {t : Nat} (ht : t ≤ ord.length) (hb : ∀ i, i < t → m.testBit (od ord i) = true) : zs (gotI Γ ord) t ≤ y.toInt := by
  have := hm.ub hc hn (fun i => decide (i < t)) (fun i _ hq => hb i (of_decide_eq_true hq))
  rw [zs_pre (gotI Γ ord) t _ ht] at this
  exact this
theorem MO.one (hc : CI T n p A B ord Γ) (hn : n ≤ 8) (hm : MO n p A B Γ m y) {t : Nat} (ht : t < ord.length) (hb : m.testBit (od ord t) = true) : gotI Γ ord t ≤ y.toInt := by
  have := hm.ub hc hn (fun i => decide (i = t)) (fun i _ hq => by rw [of_decide_eq_true hq]; exact hb)
  rw [zs_only (gotI Γ ord) _ ht] at this
  exact this
/-- flows just found: the units are what each may get -/
def FRE (ord : List Nat) (Γ : Nat → Nat → Nat → Int32) : Prop := ¬ Γ 5 0 5 = 0 ∧ ∀ i, i < ord.length → Γ 2 (od ord i) 7 = Γ 0 (od ord i) 2
theorem MO.eqs (hc : CI T n p A B ord Γ) (hn : n ≤ 8) (hm : MO n p A B Γ m y) (hr : FRE ord Γ) {t : Nat} (ht : t ≤ ord.length) (hb : ∀ j, j < n → m.testBit j = true → ∃ i, i < t ∧ od ord i = j) (hlt : ∀ i, i < t → gotI Γ ord i < untI Γ ord i) : y.toInt ≤ zs (gotI Γ ord) t := by
  obtain ⟨c1, c2⟩ := hc.2.2.2.2.2.2 hr.1
  obtain ⟨x, e, hs⟩ := hm
  have g := hc.1.2.2.2.2.1
  rw [e]
  refine SEQ.eqs (P := fun j => m.testBit j) hc.C0 g.1 hs (fun i hi => by omega) (fun i hi hp => ?_) (fun i hi => c2 i (by omega)) (fun i hi => by have := (hc.st (show i < ord.length by omega)).1; omega) (fun i hi => ?_) hb
  · show (if m.testBit i = true then (9999 : Int) else 0) = 0
    rw [if_neg (by rw [hp]; decide)]
  · show (Γ 2 (od ord i) 8).toInt < (Γ 2 (od ord i) 7).toInt
    rw [hr.2 i (by omega)]
    exact hlt i hi
/-- the first place gets its units, or the most that can flow to it -/
theorem MO.first (hc : CI T n p A B ord Γ) (hn : n ≤ 8) (hm : MO n p A B Γ m y) (hr : FRE ord Γ) (ht : 0 < ord.length) (hb : ∀ j, j < n → (m.testBit j = true ↔ od ord 0 = j)) : gotI Γ ord 0 = min (untI Γ ord 0) y.toInt := by
  have hst := hc.st ht
  have h1 := hm.one hc hn ht ((hb _ hst.1).mpr rfl)
  have h2 : gotI Γ ord 0 ≤ untI Γ ord 0 := (hc.2.1 _ hst.1).2.2.2.2.2.2.2.2 hst.2
  by_cases c : gotI Γ ord 0 < untI Γ ord 0
  · have h3 := hm.eqs hc hn hr (t := 1) (by omega) (fun j hj hp => ⟨0, by omega, (hb j hj).mp hp⟩) (fun i hi => by
      have : i = 0 := by omega
      rw [this]
      exact c)
    have e : zs (gotI Γ ord) 1 = gotI Γ ord 0 := by
      show 0 + gotI Γ ord 0 = _
      omega
    omega
  · omega
/-- a place that is told is that of the district in the order -/
theorem plc_eq (hc : CI T n p A B ord Γ) (hn : n ≤ 8) {k t : Nat} (hk : k < n) (ht : t < 2 ^ 31) (e : plc Γ ord k = nI t) : t < ord.length ∧ od ord t = k := by
  have hl := hc.2.2.2.2.1.len
  by_cases z : Γ 0 k 0 = 0
  · rw [plc_no z] at e
    have h1 := nI_toInt ht
    rw [← e, I_m1] at h1
    omega
  · obtain ⟨i, hi, rfl⟩ := od_ex (hc.2.2.2.2.1.mem.mpr ⟨hk, z⟩)
    rw [plc_od hc hi] at e
    have := (nI_eq (by omega) ht).mp e
    rw [← this]
    exact ⟨hi, rfl⟩
/-- what the law has found of the places up to t -/
def SM (n : Nat) (ord : List Nat) (Γ : Nat → Nat → Nat → Int32) (t m : Nat) (y s : Int32) : Prop := m < 2 ^ n ∧ (∀ j, m.testBit j = true ↔ ∃ i, i < t ∧ od ord i = j) ∧ y.toInt = zs (gotI Γ ord) t ∧ (s = 0 ∨ (s = 1 ∧ ∀ i, i < t → gotI Γ ord i < untI Γ ord i))
theorem SM.nil : SM n ord Γ 0 0 0 1 := ⟨Nat.two_pow_pos n, fun j => ⟨(fun z => by rw [Nat.zero_testBit] at z; exact Bool.noConfusion z), fun z => by obtain ⟨i, hi, -⟩ := z; exact absurd hi (Nat.not_lt_zero _)⟩, tI_0, Or.inr ⟨rfl, fun i hi => absurd hi (Nat.not_lt_zero _)⟩⟩
theorem SM.step (hc : CI T n p A B ord Γ) {t m : Nat} {y s s' : Int32} (h : SM n ord Γ t m y s) (ht : t < ord.length) (hs : s' = 0 ∨ (s' = 1 ∧ ¬ s = 0 ∧ gotI Γ ord t < untI Γ ord t)) : SM n ord Γ (t + 1) (m ||| 2 ^ od ord t) (y + Γ 2 (od ord t) 8) s' := by
  obtain ⟨h1, h2, h3, h4⟩ := h
  have hst := hc.st ht
  have b0 := got_b hc (t := t) (by omega)
  have b1 := got_b hc (t := t + 1) (by omega)
  have e : zs (gotI Γ ord) (t + 1) = zs (gotI Γ ord) t + (Γ 2 (od ord t) 8).toInt := rfl
  refine ⟨Nat.or_lt_two_pow h1 (Nat.pow_lt_pow_right (by decide) hst.1), fun j => ?_, ?_, ?_⟩
  · rw [Nat.testBit_or, Nat.testBit_two_pow, Bool.or_eq_true, h2 j]
    constructor
    · rintro (⟨i, hi, e⟩ | z)
      · exact ⟨i, by omega, e⟩
      · exact ⟨t, by omega, of_decide_eq_true z⟩
    · rintro ⟨i, hi, eo⟩
      by_cases c : i = t
      · rw [c] at eo
        exact Or.inr (decide_eq_true eo)
      · exact Or.inl ⟨i, by omega, eo⟩
  · rw [tI_add (by omega) (by omega), h3, e]
  · rcases hs with hs | ⟨hs, hs0, hlt⟩
    · exact Or.inl hs
    · refine Or.inr ⟨hs, fun i hi => ?_⟩
      by_cases c : i = t
      · subst c
        exact hlt
      · exact (h4.resolve_left hs0).2 i (by omega)
theorem od_bit {t : Nat} : ∀ j, ((2 ^ od ord t).testBit j = true ↔ od ord t = j) := fun j => by
  rw [Nat.testBit_two_pow]
  exact decide_eq_true_iff
end MF
