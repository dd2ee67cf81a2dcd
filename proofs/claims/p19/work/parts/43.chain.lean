/-! ===== sums of Int32 as integers; the way found, as a chain; what flowing more on it does ===== -/
theorem tI_add {a b : Int32} (h1 : -2147483648 ≤ a.toInt + b.toInt) (h2 : a.toInt + b.toInt < 2147483648) : (a + b).toInt = a.toInt + b.toInt := by
  rw [Int32.toInt_add]
  exact Int.bmod_eq_of_le (by omega) (by omega)
theorem tI_sub {a b : Int32} (h1 : -2147483648 ≤ a.toInt - b.toInt) (h2 : a.toInt - b.toInt < 2147483648) : (a - b).toInt = a.toInt - b.toInt := by
  rw [Int32.toInt_sub]
  exact Int.bmod_eq_of_le (by omega) (by omega)
theorem tI_neg {a : Int32} (h1 : -2147483648 < a.toInt) : (-a).toInt = - a.toInt := by
  have := Int32.toInt_lt a
  rw [Int32.toInt_neg]
  exact Int.bmod_eq_of_le (by omega) (by omega)
theorem tI_0 : (0 : Int32).toInt = 0 := by decide
/-- the node of the flow's theory: 0 is the source -/
def nu (u : Nat) : Nat := if u = 8 then 0 else u + 1
theorem nu_inj {a b : Nat} (ha : a ≤ 8) (hb : b ≤ 8) (h : nu a = nu b) : a = b := by
  unfold nu at h
  split at h <;> split at h <;> omega
theorem nu_lt {a : Nat} (ha : a ≤ 8) : nu a < 9 := by unfold nu; split <;> omega
def nuf (A : Nat → Nat) : Nat → Nat := fun j => nu (A j)
/-- the ranks along the way, from the end -/
def cc (pf : Nat → Nat) (i0 : Nat) : Nat → Nat
  | 0 => i0
  | s + 1 => pf (cc pf i0 s)
theorem cc_lt {pf : Nat → Nat} {i0 m : Nat} (hp : ∀ i, 0 < i → i < m → pf i < i) (h0 : i0 < m) : ∀ S, (∀ s, s < S → 0 < cc pf i0 s) → cc pf i0 S < m ∧ ∀ s, s < S → cc pf i0 S < cc pf i0 s
  | 0, _ => ⟨h0, fun s hs => absurd hs (Nat.not_lt_zero _)⟩
  | S + 1, h => by
    obtain ⟨h1, h2⟩ := cc_lt hp h0 S (fun s hs => h s (by omega))
    have h3 := hp _ (h S (by omega)) h1
    refine ⟨Nat.lt_trans h3 h1, fun s hs => ?_⟩
    show pf (cc pf i0 S) < _
    by_cases c : s = S
    · rw [c]; exact h3
    · exact Nat.lt_trans h3 (h2 s (by omega))