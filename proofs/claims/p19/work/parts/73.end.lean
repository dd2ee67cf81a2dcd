/-! ===== the end of an hour ===== -/
theorem smin_I (a b : Int32) : (sp_min a b).toInt = min a.toInt b.toInt := by
  unfold sp_min
  by_cases c : b < a
  · rw [if_pos c]
    have h1 := Int32.lt_iff_toInt_lt.mp c
    omega
  · rw [if_neg c]
    have h2 : ¬ b.toInt < a.toInt := fun z => c (Int32.lt_iff_toInt_lt.mpr z)
    omega
def eK (Γ : Nat → Nat → Nat → Int32) (d : Nat) : Int32 := sp_min (Γ 2 d 8) (Γ 2 d 1 - Γ 2 d 3)
def eW (Γ : Nat → Nat → Nat → Int32) (d : Nat) : Int32 := Γ 2 d 3 + eK Γ d
def eT (Γ : Nat → Nat → Nat → Int32) (d : Nat) : Int32 := sp_min (Γ 2 d 2) (eW Γ d)
def EC (d : Nat) (Γ G : Nat → Nat → Nat → Int32) : Prop :=
  (G 0 d 0 = 0 ∧ G 2 d 8 = 0) ∧ G 2 d 3 = eW Γ d - eT Γ d ∧ G 2 d 13 = Γ 2 d 13 + (Γ 2 d 8 - eK Γ d) ∧ G 2 d 11 = Γ 2 d 11 + eT Γ d ∧ G 2 d 12 = Γ 2 d 12 + (Γ 2 d 2 - eT Γ d) ∧ (∀ j, ¬ (j = 8 ∨ j = 3 ∨ j = 13 ∨ j = 11 ∨ j = 12) → G 2 d j = Γ 2 d j) ∧ (∀ j, j ≠ 0 → G 0 d j = Γ 0 d j)
theorem cend_fr {k : Nat} {Γ : Nat → Nat → Nat → Int32} {c i j : Nat} (h : ¬ ((c = 0 ∨ c = 2) ∧ i = k)) (h2 : ¬ (c = 5 ∧ j = 8)) : sp_cend k Γ c i j = Γ c i j := by
  unfold sp_cend sp_take sp_cs1 sp_store
  rw [u3_n (by omega), u3_n (by omega), u3_n (by omega), u3_n (by omega), u3_n (by omega), u3_n (by omega), u3_n (by omega), u3_n (by omega)]
theorem cends_fr {Γ : Nat → Nat → Nat → Int32} {c i j : Nat} (h2 : ¬ (c = 5 ∧ j = 8)) : ∀ m, ¬ ((c = 0 ∨ c = 2) ∧ i < m) → sp_cends m Γ c i j = Γ c i j
  | 0, _ => rfl
  | m + 1, h => by
    show sp_cend m (sp_cends m Γ) c i j = _
    rw [cend_fr (by omega) h2]
    exact cends_fr h2 m (by omega)
theorem cend_at {d : Nat} {Γ X : Nat → Nat → Nat → Int32} (h0 : ∀ j, X 0 d j = Γ 0 d j) (h2 : ∀ j, X 2 d j = Γ 2 d j) : EC d Γ (sp_cend d X) := by
  unfold EC
  refine ⟨⟨?_, ?_⟩, ?_, ?_, ?_, ?_, fun j hj => ?_, fun j hj => ?_⟩
  · simp [sp_cend, u3_ap]
  · simp [sp_cend, u3_ap]
  · simp [sp_cend, sp_take, sp_cs1, sp_store, u3_ap, h2, eK, eW, eT]
  · simp [sp_cend, sp_take, sp_cs1, sp_store, u3_ap, h2, eK]
  · simp [sp_cend, sp_take, sp_cs1, sp_store, u3_ap, h2, eK, eW, eT]
  · simp [sp_cend, sp_take, sp_cs1, sp_store, u3_ap, h2, eK, eW, eT]
  · unfold sp_cend sp_take sp_cs1 sp_store
    rw [u3_n (by omega), u3_n (by omega), u3_n (by omega), u3_n (by omega), u3_n (by omega), u3_n (by omega), u3_n (by omega), u3_n (by omega)]
    exact h2 j
  · unfold sp_cend sp_take sp_cs1 sp_store
    rw [u3_n (by omega), u3_n (by omega), u3_n (by omega), u3_n (by omega), u3_n (by omega), u3_n (by omega), u3_n (by omega), u3_n (by omega)]
    exact h0 j
theorem EC.up {d m : Nat} {Γ X : Nat → Nat → Nat → Int32} (q : EC d Γ X) (h : d ≠ m) : EC d Γ (sp_cend m X) := by
  obtain ⟨⟨q1, q2⟩, q3, q4, q5, q6, q7, q8⟩ := q
  unfold EC
  rw [cend_fr (by omega) (by omega), cend_fr (by omega) (by omega), cend_fr (by omega) (by omega), cend_fr (by omega) (by omega), cend_fr (by omega) (by omega), cend_fr (by omega) (by omega)]
  exact ⟨⟨q1, q2⟩, q3, q4, q5, q6, fun j hj => (cend_fr (by omega) (by omega)).trans (q7 j hj), fun j hj => (cend_fr (by omega) (by omega)).trans (q8 j hj)⟩
theorem cends_at {d : Nat} {Γ : Nat → Nat → Nat → Int32} : ∀ m, d < m → EC d Γ (sp_cends m Γ)
  | 0, h => absurd h (Nat.not_lt_zero _)
  | m + 1, h => by
    show EC d Γ (sp_cend m (sp_cends m Γ))
    by_cases e : d = m
    · subst e
      exact cend_at (fun j => cends_fr (by omega) d (by omega)) (fun j => cends_fr (by omega) d (by omega))
    · exact (cends_at m (by omega)).up e
theorem cends_8 {Γ : Nat → Nat → Nat → Int32} : ∀ m, sp_cends m Γ 5 0 8 = Γ 5 0 8 + sp_sum (fun k => Γ 2 k 8) m
  | 0 => (Int32.add_zero _).symm
  | m + 1 => by
    show sp_cend m (sp_cends m Γ) 5 0 8 = Γ 5 0 8 + (sp_sum (fun k => Γ 2 k 8) m + Γ 2 m 8)
    rw [← Int32.add_assoc, ← cends_8 m, ← cends_fr (c := 2) (i := m) (j := 8) (Γ := Γ) (by omega) m (by omega)]
    simp [sp_cend, sp_take, sp_cs1, sp_store, u3_ap]
theorem clk_at {d : Nat} {Γ : Nat → Nat → Nat → Int32} : sp_clk d (sp_cends d Γ) = if Γ 2 d 2 - eT Γ d ≤ 0 then 0 else 1 := by
  have h2 : ∀ j, sp_cends d Γ 2 d j = Γ 2 d j := fun j => cends_fr (by omega) d (by omega)
  simp [sp_clk, sp_cs1, sp_store, u3_ap, h2, eK, eW, eT]
  split <;> rename_i c <;> first | exact (if_pos c).symm | exact (if_neg c).symm
section KEEP11
variable {T n p : Nat} {A B : Nat → Nat} {ord : List Nat} {Γ G : Nat → Nat → Nat → Int32}
theorem EC.cg {d : Nat} {X : Nat → Nat → Nat → Int32} (q : EC d Γ X) (e0 : ∀ j, G 0 d j = X 0 d j) (e2 : ∀ j, G 2 d j = X 2 d j) : EC d Γ G := by
  unfold EC at *
  rw [e0, e2, e2, e2, e2, e2]
  exact ⟨q.1, q.2.1, q.2.2.1, q.2.2.2.1, q.2.2.2.2.1, fun j hj => (e2 j).trans (q.2.2.2.2.2.1 j hj), fun j hj => (e0 j).trans (q.2.2.2.2.2.2 j hj)⟩
theorem ORD.none : ∀ m, (∀ d, d < m → Γ 0 d 0 = 0) → ORD Γ m []
  | 0, _ => ORD.nil
  | m + 1, h => (ORD.none m (fun d hd => h d (by omega))).skip (h m (by omega))
/-- what an end leaves of a district, in numbers -/
theorem end_I {d : Nat} (q : CD d Γ) : (eK Γ d).toInt = min (Γ 2 d 8).toInt ((Γ 2 d 1).toInt - (Γ 2 d 3).toInt) ∧ (eW Γ d).toInt = (Γ 2 d 3).toInt + min (Γ 2 d 8).toInt ((Γ 2 d 1).toInt - (Γ 2 d 3).toInt) ∧ (eT Γ d).toInt = min (Γ 2 d 2).toInt (eW Γ d).toInt ∧ (eW Γ d - eT Γ d).toInt = (eW Γ d).toInt - (eT Γ d).toInt ∧ (Γ 2 d 2 - eT Γ d).toInt = (Γ 2 d 2).toInt - (eT Γ d).toInt := by
  obtain ⟨-, -, -, -, q8, q1, q3, q2, -⟩ := q
  have hs : (Γ 2 d 1 - Γ 2 d 3).toInt = (Γ 2 d 1).toInt - (Γ 2 d 3).toInt := tI_sub (by omega) (by omega)
  have hk : (eK Γ d).toInt = min (Γ 2 d 8).toInt ((Γ 2 d 1).toInt - (Γ 2 d 3).toInt) := by
    unfold eK
    rw [smin_I, hs]
  have hw : (eW Γ d).toInt = (Γ 2 d 3).toInt + min (Γ 2 d 8).toInt ((Γ 2 d 1).toInt - (Γ 2 d 3).toInt) := by
    unfold eW
    rw [tI_add, hk] <;> rw [hk] <;> omega
  have ht : (eT Γ d).toInt = min (Γ 2 d 2).toInt (eW Γ d).toInt := by
    unfold eT
    rw [smin_I]
  exact ⟨hk, hw, ht, tI_sub (by omega) (by omega), tI_sub (by omega) (by omega)⟩
def sp_cend0 (n : Nat) (Γ : Nat → Nat → Nat → Int32) : Nat → Nat → Nat → Int32 := u3 (u3 (u3 (sp_cends n Γ) 5 0 5 0) 5 0 4 0) 5 0 3 (sp_cends n Γ 5 0 3 + 1)
/-- what an end leaves -/
def EN (n : Nat) (Γ W : Nat → Nat → Nat → Int32) : Prop :=
  (∀ c i j, 11 ≤ c ∨ c = 4 → W c i j = Γ c i j) ∧ W 5 0 5 = 0 ∧ W 5 0 4 = 0 ∧ W 5 0 3 = Γ 5 0 3 + 1 ∧ W 5 0 8 = Γ 5 0 8 + sp_sum (fun k => Γ 2 k 8) n ∧ (∀ d, d < n → EC d Γ W)
theorem keep_end (h : CI T n p A B ord Γ) (hT : T < 100000) : CI (T + 1) n p A B [] (sp_cend0 n Γ) ∧ EN n Γ (sp_cend0 n Γ) := by
  obtain ⟨G, eG⟩ : ∃ G, G = sp_cend0 n Γ := ⟨_, rfl⟩
  rw [← eG]
  have hWc : ∀ c i j, ¬ (c = 5 ∧ (j = 3 ∨ j = 4 ∨ j = 5)) → G c i j = sp_cends n Γ c i j := fun c i j z => by
    rw [eG]
    unfold sp_cend0
    rw [u3_n (by omega), u3_n (by omega), u3_n (by omega)]
  have f : ∀ c i j, ¬ ((c = 0 ∨ c = 2) ∧ i < n) → ¬ (c = 5 ∧ (j = 3 ∨ j = 4 ∨ j = 5 ∨ j = 8)) → G c i j = Γ c i j := fun c i j z1 z2 => by
    rw [hWc c i j (by omega), cends_fr (by omega) n z1]
  have hEC : ∀ d, d < n → EC d Γ G := fun d hd => (cends_at n hd).cg (fun j => hWc 0 d j (by omega)) (fun j => hWc 2 d j (by omega))
  obtain ⟨r1, r2, r3, r4, r5, r6⟩ := id h
  obtain ⟨g1, g2, g3, g4, g5, g6⟩ := id r1
  have c5 : G 5 0 5 = 0 := by
    rw [eG]
    unfold sp_cend0
    rw [u3_n (by omega), u3_n (by omega), u3_s]
  have c4 : G 5 0 4 = 0 := by
    rw [eG]
    unfold sp_cend0
    rw [u3_n (by omega), u3_s]
  have c3 : G 5 0 3 = Γ 5 0 3 + 1 := by
    rw [eG]
    unfold sp_cend0
    rw [u3_s, cends_fr (by omega) n (by omega)]
  have c8 : G 5 0 8 = Γ 5 0 8 + sp_sum (fun k => Γ 2 k 8) n := by rw [hWc 5 0 8 (by omega), cends_8]
  have h1 : (1 : Int32).toInt = 1 := rfl
  have hs : (Γ 5 0 3 + 1).toInt = (Γ 5 0 3).toInt + 1 := by rw [tI_add] <;> omega
  have n1 : ∀ d j, G 1 d j = Γ 1 d j := fun d j => f _ _ _ (by omega) (by omega)
  have n0 : ∀ d, d < n → G 0 d 0 = 0 := fun d hd => (hEC d hd).1.1
  have e7 : (Γ 5 0 7).toInt ≤ (G 5 0 7).toInt := by rw [f 5 0 7 (by omega) (by omega)]; exact Int.le_refl _
  refine ⟨⟨?_, fun d hd => ?_, fun x y hx hy hne => ?_, fun j hj => (r4 j hj).congr (fun k => f _ _ _ (by omega) (by omega)), ORD.none n n0, ⟨fun _ d hd => (hEC d hd).1.2, fun z => absurd c5 z⟩⟩, fun c i j z => f c i j (by omega) (by omega), c5, c4, c3, c8, hEC⟩
  · unfold CG
    rw [c3, c4, c5, f 5 0 7 (by omega) (by omega), f 3 0 1 (by omega) (by omega), f 5 0 6 (by omega) (by omega), hs, sp_sum_congr n (f := fun j => if G 1 j 0 = 0 then (0 : Int32) else 1) (g := fun j => if Γ 1 j 0 = 0 then 0 else 1) (fun j _ => by rw [n1])]
    exact ⟨by omega, ⟨by decide, by decide⟩, Or.inl rfl, by omega, g5, g6⟩
  · have q := r2 d hd
    obtain ⟨i1, i2, i3, i4, i5⟩ := end_I q
    obtain ⟨a1, a2, a3, a4, a5, a6, a7, a8, a9⟩ := id q
    obtain ⟨⟨b1, b2⟩, b3, b4, b5, b6, b7, b8⟩ := hEC d hd
    unfold CD
    rw [b7 0 (by omega), b7 1 (by omega), b7 2 (by omega), b1, b2, b3, n1, i4]
    exact ⟨a1, fun z => absurd rfl z, fun z => (a3 z).congr (fun j => n1 d j) e7, fun _ => rfl, ⟨by decide, by decide⟩, a6, ⟨by omega, by omega⟩, a8, fun z => absurd rfl z⟩
  · rw [n0 x hx, n0 y hy, n1, n1, n1, n1]
    exact ⟨fun z => absurd rfl z, fun z => absurd rfl z, (r3 x y hx hy hne).2.2⟩
end KEEP11
