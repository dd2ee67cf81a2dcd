theorem sp_sum_upd {f g : Nat → Int32} {i : Nat} : ∀ n, i < n → (∀ j, j < n → j ≠ i → g j = f j) → sp_sum g n = sp_sum f n + (g i - f i)
  | 0, h, _ => absurd h (Nat.not_lt_zero _)
  | n + 1, hi, h => by
    show sp_sum g n + g n = sp_sum f n + f n + (g i - f i)
    by_cases e : i = n
    · subst e
      rw [sp_sum_congr i (fun j hj => h j (by omega) (by omega))]
      rw [Int32.add_assoc]
      congr 1
      rw [Int32.add_comm, Int32.sub_add_cancel]
    · rw [sp_sum_upd n (by omega) (fun j hj hne => h j (by omega) hne), h n (by omega) (fun z => e z.symm), Int32.add_assoc, Int32.add_assoc, Int32.add_comm (g i - f i)]
section KEEP2
variable {T n p : Nat} {A B : Nat → Nat} {ord : List Nat} {Γ : Nat → Nat → Nat → Int32}
end KEEP2

theorem nI_neg1 {w : Nat} (h : w < 2 ^ 31) : ¬ nI w = -1 := by
  intro e
  have h1 := nI_toInt h
  rw [e] at h1
  have : (-1 : Int32).toInt = -1 := by decide
  omega
