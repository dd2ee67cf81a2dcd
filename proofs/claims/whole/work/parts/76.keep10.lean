/-! ===== the end of an hour ===== -/
theorem less_min (a b : Int32) : sp_less a b = sp_min a b := by
  unfold sp_less sp_min
  by_cases c : b < a
  · rw [if_pos c, if_pos (Int32.le_of_lt c)]
  · rw [if_neg c]
    by_cases d : b ≤ a
    · rw [if_pos d]
      have h1 := Int32.le_iff_toInt_le.mp d
      have h2 : ¬ b.toInt < a.toInt := fun z => c (Int32.lt_iff_toInt_lt.mpr z)
      exact Int32.toInt_inj.mp (by omega)
    · rw [if_neg d]
theorem smin_I (a b : Int32) : (sp_min a b).toInt = min a.toInt b.toInt := by
  unfold sp_min
  by_cases c : b < a
  · rw [if_pos c]
    have h1 := Int32.lt_iff_toInt_lt.mp c
    omega
  · rw [if_neg c]
    have h2 : ¬ b.toInt < a.toInt := fun z => c (Int32.lt_iff_toInt_lt.mpr z)
    omega
def eK (Γ : Nat → Nat → Nat → Int32) (d : Nat) : Int32 := sp_min (Γ 2 d 8) (Γ 2 d 1 - Γ 2 d 3)
def eW (Γ : Nat → Nat → Nat → Int32) (d : Nat) : Int32 := Γ 2 d 3 + eK Γ d
def eT (Γ : Nat → Nat → Nat → Int32) (d : Nat) : Int32 := sp_min (Γ 2 d 2) (eW Γ d)
def mK (Γ : Nat → Nat → Nat → Int32) (d : Nat) : Int32 := sp_min (Γ 12 17 d) (Γ 12 4 d - Γ 12 6 d)
def mW (Γ : Nat → Nat → Nat → Int32) (d : Nat) : Int32 := Γ 12 6 d + mK Γ d
def mT (Γ : Nat → Nat → Nat → Int32) (d : Nat) : Int32 := sp_min (Γ 12 5 d) (mW Γ d)
def EC (d : Nat) (Γ G : Nat → Nat → Nat → Int32) : Prop :=
  (G 0 d 0 = 0 ∧ G 2 d 8 = 0) ∧ G 2 d 3 = eW Γ d - eT Γ d ∧ G 2 d 13 = Γ 2 d 13 + (Γ 2 d 8 - eK Γ d) ∧ G 2 d 11 = Γ 2 d 11 + eT Γ d ∧ G 2 d 12 = Γ 2 d 12 + (Γ 2 d 2 - eT Γ d) ∧ (∀ j, ¬ (j = 8 ∨ j = 3 ∨ j = 13 ∨ j = 11 ∨ j = 12) → G 2 d j = Γ 2 d j) ∧ (∀ j, j ≠ 0 → G 0 d j = Γ 0 d j)
def EM (d : Nat) (Γ G : Nat → Nat → Nat → Int32) : Prop :=
  (G 13 10 d = 0 ∧ G 12 17 d = 0) ∧ G 12 6 d = mW Γ d - mT Γ d ∧ G 12 22 d = Γ 12 22 d + (Γ 12 17 d - mK Γ d) ∧ G 12 20 d = Γ 12 20 d + mT Γ d ∧ G 12 21 d = Γ 12 21 d + (Γ 12 5 d - mT Γ d) ∧ (∀ j, ¬ (j = 17 ∨ j = 6 ∨ j = 22 ∨ j = 20 ∨ j = 21 ∨ j = 7) → G 12 j d = Γ 12 j d) ∧ (∀ j, j ≠ 10 → j ≠ 15 → G 13 j d = Γ 13 j d)
theorem cend_fr {k : Nat} {Γ : Nat → Nat → Nat → Int32} {c i j : Nat} (h : ¬ ((c = 0 ∨ c = 2) ∧ i = k)) (h2 : ¬ (c = 5 ∧ j = 8)) : sp_cend k Γ c i j = Γ c i j := by
  unfold sp_cend sp_take sp_cs1 sp_store
  rw [u3_n (by omega), u3_n (by omega), u3_n (by omega), u3_n (by omega), u3_n (by omega), u3_n (by omega), u3_n (by omega), u3_n (by omega)]
theorem cends_fr {Γ : Nat → Nat → Nat → Int32} {c i j : Nat} (h2 : ¬ (c = 5 ∧ j = 8)) : ∀ m, ¬ ((c = 0 ∨ c = 2) ∧ i < m) → sp_cends m Γ c i j = Γ c i j
  | 0, _ => rfl
  | m + 1, h => by
    show sp_cend m (sp_cends m Γ) c i j = _
    rw [cend_fr (by omega) h2]
    exact cends_fr h2 m (by omega)
theorem mends_fr {Γ : Nat → Nat → Nat → Int32} {c i j : Nat} (h2 : ¬ (c = 11 ∧ (j = 34 ∨ j = 23))) : ∀ m, ¬ ((c = 12 ∨ c = 13) ∧ j < m) → sp_mends m Γ c i j = Γ c i j
  | 0, _ => u3_n (by omega)
  | m + 1, h => by
    show sp_mend m (sp_mends m Γ) c i j = _
    rw [sp_mend_fr (by omega) (by omega)]
    exact mends_fr h2 m (by omega)
theorem mends_fr0 {Γ : Nat → Nat → Nat → Int32} : sp_mends 0 Γ 11 0 23 = Γ 11 0 23 := by
  show u3 Γ 11 0 34 0 11 0 23 = Γ 11 0 23
  rw [u3_n (by omega)]
theorem cend_at {d : Nat} {Γ X : Nat → Nat → Nat → Int32} (h0 : ∀ j, X 0 d j = Γ 0 d j) (h2 : ∀ j, X 2 d j = Γ 2 d j) : EC d Γ (sp_cend d X) := by
  unfold EC
  refine ⟨⟨?_, ?_⟩, ?_, ?_, ?_, ?_, fun j hj => ?_, fun j hj => ?_⟩
  · simp [sp_cend, u3_ap]
  · simp [sp_cend, u3_ap]
  · simp [sp_cend, sp_take, sp_cs1, sp_store, u3_ap, h2, eK, eW, eT]
  · simp [sp_cend, sp_take, sp_cs1, sp_store, u3_ap, h2, eK]
  · simp [sp_cend, sp_take, sp_cs1, sp_store, u3_ap, h2, eK, eW, eT]
  · simp [sp_cend, sp_take, sp_cs1, sp_store, u3_ap, h2, eK, eW, eT]
  · unfold sp_cend sp_take sp_cs1 sp_store
    rw [u3_n (by omega), u3_n (by omega), u3_n (by omega), u3_n (by omega), u3_n (by omega), u3_n (by omega), u3_n (by omega), u3_n (by omega)]
    exact h2 j
  · unfold sp_cend sp_take sp_cs1 sp_store
    rw [u3_n (by omega), u3_n (by omega), u3_n (by omega), u3_n (by omega), u3_n (by omega), u3_n (by omega), u3_n (by omega), u3_n (by omega)]
    exact h0 j
theorem mend_at {d : Nat} {Γ X : Nat → Nat → Nat → Int32} (h2 : ∀ j, X 12 j d = Γ 12 j d) (h3 : ∀ j, X 13 j d = Γ 13 j d) : EM d Γ (sp_mend d X) := by
  unfold EM
  refine ⟨⟨?_, ?_⟩, ?_, ?_, ?_, ?_, fun j hj => ?_, fun j hj hj2 => ?_⟩
  · simp [sp_mend, u3_ap]
  · simp [sp_mend, u3_ap]
  · simp [sp_mend, sp_e6, sp_e5, sp_e4, sp_e3, sp_e2, sp_e1, sp_eo, less_min, u3_ap, h2, mK, mW, mT]
  · simp [sp_mend, sp_e6, sp_e5, sp_e4, sp_e3, sp_e2, sp_e1, sp_eo, less_min, u3_ap, h2, mK, mW, mT]
  · simp [sp_mend, sp_e6, sp_e5, sp_e4, sp_e3, sp_e2, sp_e1, sp_eo, less_min, u3_ap, h2, mK, mW, mT]
  · simp [sp_mend, sp_e6, sp_e5, sp_e4, sp_e3, sp_e2, sp_e1, sp_eo, less_min, u3_ap, h2, mK, mW, mT]
  · unfold sp_mend sp_e6 sp_e5 sp_e4 sp_e3 sp_e2 sp_e1
    rw [u3_n (by omega), u3_n (by omega), u3_n (by omega), u3_n (by omega), u3_n (by omega), u3_n (by omega), u3_n (by omega), u3_n (by omega), u3_n (by omega), u3_n (by omega)]
    exact h2 j
  · unfold sp_mend sp_e6 sp_e5 sp_e4 sp_e3 sp_e2 sp_e1
    rw [u3_n (by omega), u3_n (by omega), u3_n (by omega), u3_n (by omega), u3_n (by omega), u3_n (by omega), u3_n (by omega), u3_n (by omega), u3_n (by omega), u3_n (by omega)]
    exact h3 j
theorem EC.up {d m : Nat} {Γ X : Nat → Nat → Nat → Int32} (q : EC d Γ X) (h : d ≠ m) : EC d Γ (sp_cend m X) := by
  obtain ⟨⟨q1, q2⟩, q3, q4, q5, q6, q7, q8⟩ := q
  unfold EC
  rw [cend_fr (by omega) (by omega), cend_fr (by omega) (by omega), cend_fr (by omega) (by omega), cend_fr (by omega) (by omega), cend_fr (by omega) (by omega), cend_fr (by omega) (by omega)]
  exact ⟨⟨q1, q2⟩, q3, q4, q5, q6, fun j hj => (cend_fr (by omega) (by omega)).trans (q7 j hj), fun j hj => (cend_fr (by omega) (by omega)).trans (q8 j hj)⟩
theorem EM.up {d m : Nat} {Γ X : Nat → Nat → Nat → Int32} (q : EM d Γ X) (h : d ≠ m) : EM d Γ (sp_mend m X) := by
  obtain ⟨⟨q1, q2⟩, q3, q4, q5, q6, q7, q8⟩ := q
  unfold EM
  rw [sp_mend_fr (by omega) (by omega), sp_mend_fr (by omega) (by omega), sp_mend_fr (by omega) (by omega), sp_mend_fr (by omega) (by omega), sp_mend_fr (by omega) (by omega), sp_mend_fr (by omega) (by omega)]
  exact ⟨⟨q1, q2⟩, q3, q4, q5, q6, fun j hj => (sp_mend_fr (by omega) (by omega)).trans (q7 j hj), fun j hj hj2 => (sp_mend_fr (by omega) (by omega)).trans (q8 j hj hj2)⟩
theorem cends_at {d : Nat} {Γ : Nat → Nat → Nat → Int32} : ∀ m, d < m → EC d Γ (sp_cends m Γ)
  | 0, h => absurd h (Nat.not_lt_zero _)
  | m + 1, h => by
    show EC d Γ (sp_cend m (sp_cends m Γ))
    by_cases e : d = m
    · subst e
      exact cend_at (fun j => cends_fr (by omega) d (by omega)) (fun j => cends_fr (by omega) d (by omega))
    · exact (cends_at m (by omega)).up e
theorem mends_at {d : Nat} {Γ : Nat → Nat → Nat → Int32} : ∀ m, d < m → EM d Γ (sp_mends m Γ)
  | 0, h => absurd h (Nat.not_lt_zero _)
  | m + 1, h => by
    show EM d Γ (sp_mend m (sp_mends m Γ))
    by_cases e : d = m
    · subst e
      exact mend_at (fun j => mends_fr (by omega) d (by omega)) (fun j => mends_fr (by omega) d (by omega))
    · exact (mends_at m (by omega)).up e
theorem cends_8 {Γ : Nat → Nat → Nat → Int32} : ∀ m, sp_cends m Γ 5 0 8 = Γ 5 0 8 + sp_sum (fun k => Γ 2 k 8) m
  | 0 => (Int32.add_zero _).symm
  | m + 1 => by
    show sp_cend m (sp_cends m Γ) 5 0 8 = Γ 5 0 8 + (sp_sum (fun k => Γ 2 k 8) m + Γ 2 m 8)
    rw [← Int32.add_assoc, ← cends_8 m, ← cends_fr (c := 2) (i := m) (j := 8) (Γ := Γ) (by omega) m (by omega)]
    simp [sp_cend, sp_take, sp_cs1, sp_store, u3_ap]
theorem mends_23 {Γ : Nat → Nat → Nat → Int32} : ∀ m, sp_mends m Γ 11 0 23 = Γ 11 0 23 + sp_sum (fun k => Γ 12 17 k) m
  | 0 => (show sp_mends 0 Γ 11 0 23 = Γ 11 0 23 from mends_fr0).trans (Int32.add_zero _).symm
  | m + 1 => by
    show sp_mend m (sp_mends m Γ) 11 0 23 = Γ 11 0 23 + (sp_sum (fun k => Γ 12 17 k) m + Γ 12 17 m)
    rw [← Int32.add_assoc, ← mends_23 m, ← mends_fr (c := 12) (i := 17) (j := m) (Γ := Γ) (by omega) m (by omega)]
    simp [sp_mend, sp_e6, sp_e5, sp_e4, sp_e3, sp_e2, sp_e1, u3_ap]
theorem clk_at {d : Nat} {Γ : Nat → Nat → Nat → Int32} : sp_clk d (sp_cends d Γ) = if Γ 2 d 2 - eT Γ d ≤ 0 then 0 else 1 := by
  have h2 : ∀ j, sp_cends d Γ 2 d j = Γ 2 d j := fun j => cends_fr (by omega) d (by omega)
  simp [sp_clk, sp_cs1, sp_store, u3_ap, h2, eK, eW, eT]
  split <;> rename_i c <;> first | exact (if_pos c).symm | exact (if_neg c).symm
theorem mlk_at {d : Nat} {Γ : Nat → Nat → Nat → Int32} : sp_mlk d (sp_mends d Γ) = if Γ 12 5 d ≤ mT Γ d then 0 else 1 := by
  have h2 : ∀ j, sp_mends d Γ 12 j d = Γ 12 j d := fun j => mends_fr (by omega) d (by omega)
  simp [sp_mlk, sp_e5, sp_e4, sp_e3, sp_e2, sp_e1, sp_eo, less_min, u3_ap, h2, mK, mW, mT]
  split <;> rename_i c <;> first | exact (if_pos c).symm | exact (if_neg c).symm
