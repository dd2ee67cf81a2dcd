def sp_it {α : Type} (f : Nat → α → α) : Nat → α → α
  | 0, a => a
  | j + 1, a => f j (sp_it f j a)
def sp_sum (f : Nat → Int32) : Nat → Int32
  | 0 => 0
  | j + 1 => sp_sum f j + f j
theorem sp_it_pres {f : Nat → (Nat → Nat → Nat → Int32) → Nat → Nat → Nat → Int32} {c i j : Nat} (hf : ∀ k Γ, (f k Γ) c i j = Γ c i j) (Γ : Nat → Nat → Nat → Int32) : ∀ m, (sp_it f m Γ) c i j = Γ c i j
  | 0 => rfl
  | m + 1 => (hf m _).trans (sp_it_pres hf Γ m)
theorem nI_i1 (j : Nat) : nI j + Int32.ofInt 1 = nI (j + 1) := nI_1 j
section GN
variable {k : am_X} {own nm : String} {cc : ByteArray} {nL : Nat} {ret : Option FieldType} {cells slots : Nat} {Q : State → Prop} {pc : Nat} {ls : List (Nat × Value)} {st : List Value} {h : am_H}
theorem gN_eq {a b : Nat} {off : Int} (tgt : Nat) (hd : decode cc pc = .ok (.if_icmp .eq off, 3)) (ht : (pc : Int) + off = (tgt : Int)) (ha : a < 2 ^ 31) (hb : b < 2 ^ 31) (kt : a = b → am_G k own nm cc nL ret cells slots Q tgt ls st h) (kf : ¬ a = b → am_G k own nm cc nL ret cells slots Q (pc + 3) ls st h) : am_G k own nm cc nL ret cells slots Q pc ls (.int (nI b) :: .int (nI a) :: st) h := by
  refine g_icmp_eq tgt hd ht (fun z => kt ?_) (fun z => kf ?_)
  · exact (nI_eq ha hb).mp z
  · exact fun q => z ((nI_eq ha hb).mpr q)
theorem gN_ne {a b : Nat} {off : Int} (tgt : Nat) (hd : decode cc pc = .ok (.if_icmp .ne off, 3)) (ht : (pc : Int) + off = (tgt : Int)) (ha : a < 2 ^ 31) (hb : b < 2 ^ 31) (kt : ¬ a = b → am_G k own nm cc nL ret cells slots Q tgt ls st h) (kf : a = b → am_G k own nm cc nL ret cells slots Q (pc + 3) ls st h) : am_G k own nm cc nL ret cells slots Q pc ls (.int (nI b) :: .int (nI a) :: st) h := by
  refine g_icmp_ne tgt hd ht (fun z => kt ?_) (fun z => kf ?_)
  · exact fun q => z ((nI_eq ha hb).mpr q)
  · exact (nI_eq ha hb).mp z
theorem gN_lt {a b : Nat} {off : Int} (tgt : Nat) (hd : decode cc pc = .ok (.if_icmp .lt off, 3)) (ht : (pc : Int) + off = (tgt : Int)) (ha : a < 2 ^ 31) (hb : b < 2 ^ 31) (kt : a < b → am_G k own nm cc nL ret cells slots Q tgt ls st h) (kf : b ≤ a → am_G k own nm cc nL ret cells slots Q (pc + 3) ls st h) : am_G k own nm cc nL ret cells slots Q pc ls (.int (nI b) :: .int (nI a) :: st) h := by
  refine g_icmp_lt tgt hd ht (fun z => kt ?_) (fun z => kf ?_)
  · exact (nI_ltI ha hb).mp z
  · exact Nat.not_lt.mp (fun q => z ((nI_ltI ha hb).mpr q))
theorem gN_ge {a b : Nat} {off : Int} (tgt : Nat) (hd : decode cc pc = .ok (.if_icmp .ge off, 3)) (ht : (pc : Int) + off = (tgt : Int)) (ha : a < 2 ^ 31) (hb : b < 2 ^ 31) (kt : b ≤ a → am_G k own nm cc nL ret cells slots Q tgt ls st h) (kf : a < b → am_G k own nm cc nL ret cells slots Q (pc + 3) ls st h) : am_G k own nm cc nL ret cells slots Q pc ls (.int (nI b) :: .int (nI a) :: st) h := by
  refine g_icmp_ge tgt hd ht (fun z => kt ?_) (fun z => kf ?_)
  · exact (nI_leI hb ha).mp z
  · exact Nat.not_le.mp (fun q => z ((nI_leI hb ha).mpr q))
theorem gN_gt {a b : Nat} {off : Int} (tgt : Nat) (hd : decode cc pc = .ok (.if_icmp .gt off, 3)) (ht : (pc : Int) + off = (tgt : Int)) (ha : a < 2 ^ 31) (hb : b < 2 ^ 31) (kt : b < a → am_G k own nm cc nL ret cells slots Q tgt ls st h) (kf : a ≤ b → am_G k own nm cc nL ret cells slots Q (pc + 3) ls st h) : am_G k own nm cc nL ret cells slots Q pc ls (.int (nI b) :: .int (nI a) :: st) h := by
  refine g_icmp_gt tgt hd ht (fun z => kt ?_) (fun z => kf ?_)
  · exact (nI_ltI hb ha).mp z
  · exact Nat.not_lt.mp (fun q => z ((nI_ltI hb ha).mpr q))
theorem gN_le {a b : Nat} {off : Int} (tgt : Nat) (hd : decode cc pc = .ok (.if_icmp .le off, 3)) (ht : (pc : Int) + off = (tgt : Int)) (ha : a < 2 ^ 31) (hb : b < 2 ^ 31) (kt : a ≤ b → am_G k own nm cc nL ret cells slots Q tgt ls st h) (kf : b < a → am_G k own nm cc nL ret cells slots Q (pc + 3) ls st h) : am_G k own nm cc nL ret cells slots Q pc ls (.int (nI b) :: .int (nI a) :: st) h := by
  refine g_icmp_le tgt hd ht (fun z => kt ?_) (fun z => kf ?_)
  · exact (nI_leI ha hb).mp z
  · exact Nat.not_le.mp (fun q => z ((nI_leI ha hb).mpr q))
end GN
