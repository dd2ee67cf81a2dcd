/-! ===== one after the other: what each gets in turn ===== -/
def gS (od : Nat → Nat) (x : Nat → Int) : Nat → Nat → Int
  | 0 => fun _ => 0
  | i + 1 => addg (gS od x i) (od i + 1) (x i)
def SEQ (C : Nat → Nat → Int) (gv : Int) (od : Nat → Nat) (cap x : Nat → Int) (k : Nat) : Prop := ∀ i, i < k → Amt C (gS od x i) (od i + 1) (min (cap i) (gv - zs x i)) (x i)
theorem gS_congr {od : Nat → Nat} {x y : Nat → Int} : ∀ k, (∀ i, i < k → x i = y i) → gS od x k = gS od y k
  | 0, _ => rfl
  | k + 1, h => by
    show addg (gS od x k) (od k + 1) (x k) = addg (gS od y k) (od k + 1) (y k)
    rw [gS_congr k (fun i hi => h i (by omega)), h k (by omega)]
theorem SEQ.uniq {C : Nat → Nat → Int} {gv : Int} {od : Nat → Nat} {cap x y : Nat → Int} : ∀ k, SEQ C gv od cap x k → SEQ C gv od cap y k → ∀ i, i < k → x i = y i
  | 0, _, _, i, hi => absurd hi (Nat.not_lt_zero _)
  | k + 1, hx, hy, i, hi => by
    have ih := SEQ.uniq k (fun i hi => hx i (by omega)) (fun i hi => hy i (by omega))
    by_cases c : i = k
    · subst c
      have h1 := hx i (by omega)
      have h2 := hy i (by omega)
      rw [gS_congr i ih, zs_congr i ih] at h1
      exact Amt.uniq h1 h2
    · exact ih i (by omega)
theorem SEQ.snoc {C : Nat → Nat → Int} {gv : Int} {od : Nat → Nat} {cap x : Nat → Int} {k : Nat} {a : Int} (h : SEQ C gv od cap x k) (ha : Amt C (gS od x k) (od k + 1) (min (cap k) (gv - zs x k)) a) : SEQ C gv od cap (fun i => if i = k then a else x i) (k + 1) := by
  intro i hi
  have e : ∀ m, m ≤ k → ∀ i, i < m → (fun i => if i = k then a else x i) i = x i := fun m hm i hi => if_neg (by omega)
  rw [gS_congr i (e i (by omega)), zs_congr i (e i (by omega))]
  by_cases c : i = k
  · subst c
    show Amt C (gS od x i) (od i + 1) (min (cap i) (gv - zs x i)) (if i = i then a else x i)
    rw [if_pos rfl]
    exact ha
  · show Amt C (gS od x i) (od i + 1) (min (cap i) (gv - zs x i)) (if i = k then a else x i)
    rw [if_neg c]
    exact h i (by omega)
theorem SEQ.gS_snoc {od : Nat → Nat} {x : Nat → Int} {k : Nat} {a : Int} : gS od (fun i => if i = k then a else x i) (k + 1) = addg (gS od x k) (od k + 1) a := by
  show addg (gS od (fun i => if i = k then a else x i) k) (od k + 1) (if k = k then a else x k) = _
  rw [gS_congr k (fun i hi => show (if i = k then a else x i) = x i from if_neg (by omega)), if_pos rfl]
theorem SEQ.zs_snoc {x : Nat → Int} {k : Nat} {a : Int} : zs (fun i => if i = k then a else x i) (k + 1) = zs x k + a := by
  show zs (fun i => if i = k then a else x i) k + (if k = k then a else x k) = _
  rw [zs_congr k (fun i hi => show (if i = k then a else x i) = x i from if_neg (by omega)), if_pos rfl]
theorem SEQ.congr {C : Nat → Nat → Int} {gv : Int} {od od' : Nat → Nat} {cap cap' x : Nat → Int} {k : Nat} (h : SEQ C gv od cap x k) (e1 : ∀ i, i < k → od' i = od i) (e2 : ∀ i, i < k → cap' i = cap i) : SEQ C gv od' cap' x k := by
  have eg : ∀ m, m ≤ k → gS od' x m = gS od x m := fun m => by
    induction m with
    | zero => intro _; rfl
    | succ m ih =>
      intro hm
      show addg (gS od' x m) (od' m + 1) (x m) = addg (gS od x m) (od m + 1) (x m)
      rw [ih (by omega), e1 m (by omega)]
  intro i hi
  rw [eg i (by omega), e1 i hi, e2 i hi]
  exact h i hi
theorem SEQ.pos {C : Nat → Nat → Int} {gv : Int} {od : Nat → Nat} {cap x : Nat → Int} (hg : 0 ≤ gv) : ∀ k, SEQ C gv od cap x k → (∀ i, i < k → 0 ≤ x i ∧ x i ≤ cap i) ∧ 0 ≤ zs x k ∧ zs x k ≤ gv
  | 0, _ => ⟨fun i hi => absurd hi (Nat.not_lt_zero _), Int.le_refl _, hg⟩
  | k + 1, h => by
    obtain ⟨h1, h2, h3⟩ := SEQ.pos hg k (fun i hi => h i (by omega))
    have h4 := h k (by omega)
    have h5 := h4.1
    have h6 := h4.2.1
    refine ⟨fun i hi => ?_, ?_, ?_⟩
    · by_cases c : i = k
      · subst c
        omega
      · exact h1 i (by omega)
    · rw [zs]; omega
    · rw [zs]; omega
/-! the model's rows in places -/
theorem sp_sum_congr {f g : Nat → Int32} : ∀ b, (∀ j, j < b → f j = g j) → sp_sum f b = sp_sum g b
  | 0, _ => rfl
  | b + 1, h => by
    show sp_sum f b + f b = sp_sum g b + g b
    rw [sp_sum_congr b (fun j hj => h j (by omega)), h b (by omega)]