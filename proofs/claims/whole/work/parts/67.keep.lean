/-! ===== each call keeps the relation ===== -/
section KEEP
variable {T n p : Nat} {A B : Nat → Nat} {ord : List Nat} {Γ : Nat → Nat → Nat → Int32}
theorem keep_need (h : RI T n p A B ord Γ) {i : Nat} (hi : i < n) {a : Int32} (h1 : 0 ≤ a.toInt) (h2 : a.toInt ≤ 999) : RI T n p A B ord (u3 (u3 (u3 Γ 2 i 2 a) 11 0 34 0) 12 5 i a) := by
  obtain ⟨r1, r2, r3, r4, r5, r6, r7⟩ := h
  refine ⟨r1.congr ?_ ?_ ?_ ?_, fun d hd => ?_, r3.congr ?_ ?_, fun j hj => (r4 j hj).congr ?_ ?_ ?_, r5.congr ?_, r6.congr ?_ ?_ ?_ ?_ ?_, r7.congr ?_ ?_ ?_⟩
  case refine_5 =>
    have q := r2 d hd
    by_cases c : d = i
    · subst c
      unfold RD at *
      simp [u3_ap]
      grind
    · exact q.congr (by simp [u3_ap]) (by simp [u3_ap]) (by simp [u3_ap, c]) (by simp [u3_ap, c]) (by simp [u3_ap])
  all_goals (intros; simp [u3_ap] <;> omega)
theorem keep_source (h : RI T n p A B ord Γ) (hf : Γ 5 0 5 = 0) {a : Int32} (h1 : 0 ≤ a.toInt) (h2 : a.toInt ≤ 9999) : RI T n p A B ord (u3 (u3 (u3 Γ 3 0 1 a) 11 0 34 0) 11 0 2 a) := by
  obtain ⟨r1, r2, r3, r4, r5, r6, r7⟩ := h
  refine ⟨?_, fun d hd => (r2 d hd).congr ?_ ?_ ?_ ?_ ?_, r3.congr ?_ ?_, fun j hj => (r4 j hj).congr ?_ ?_ ?_, r5.congr ?_, ⟨fun _ d hd => ?_, fun z => ?_⟩, r7.congr ?_ ?_ ?_⟩
  case refine_1 =>
    obtain ⟨g1, g2, g3, g4, g5, g6, g7, g8, g9, g10, g11, g12⟩ := r1
    refine ⟨?_, ?_, ?_, ?_, ?_, ?_, ?_, ?_, ?_, ?_, ?_, ?_⟩
    all_goals first | (simp [u3_ap]; done) | (simp only [u3_ap]; simp; first | assumption | exact ⟨h1, h2⟩)
  case refine_14 =>
    have : (u3 (u3 (u3 Γ 3 0 1 a) 11 0 34 0) 11 0 2 a) 5 0 5 = Γ 5 0 5 := by simp [u3_ap]
    exact absurd (this.trans hf) z
  case refine_13 =>
    have := r6.1 hf d hd
    simp [u3_ap]
    exact this
  all_goals (intros; simp [u3_ap] <;> omega)
theorem keep_pipeflag (h : RI T n p A B ord Γ) (hf : Γ 5 0 5 = 0) {i : Nat} (hi : i < p) (v : Int32) : RI T n p A B ord (u3 (u3 (u3 Γ 4 i 3 v) 11 0 34 0) 13 28 i v) := by
  obtain ⟨r1, r2, r3, r4, r5, r6, r7⟩ := h
  refine ⟨r1.congr ?_ ?_ ?_ ?_, fun d hd => (r2 d hd).congr ?_ ?_ ?_ ?_ ?_, r3.congr ?_ ?_, fun j hj => ?_, r5.congr ?_, ⟨fun _ d hd => ?_, fun z => ?_⟩, r7.congr ?_ ?_ ?_⟩
  case refine_12 =>
    have q := r4 j hj
    by_cases c : j = i
    · subst c
      unfold RP at *
      simp [u3_ap]
      grind
    · exact q.congr (by simp [u3_ap, c]) (by simp [u3_ap]) (by simp [u3_ap, c])
  case refine_15 =>
    have : (u3 (u3 (u3 Γ 4 i 3 v) 11 0 34 0) 13 28 i v) 5 0 5 = Γ 5 0 5 := by simp [u3_ap]
    exact absurd (this.trans hf) z
  case refine_14 =>
    have := r6.1 hf d hd
    simp [u3_ap]
    exact this
  all_goals (intros; simp [u3_ap] <;> omega)
end KEEP
