/-! ===== the model's search for a way: what holds on its rows ===== -/
def sp_rm (Γ : Nat → Nat → Nat → Int32) (j : Nat) (b : Int32) : Int32 := if Γ 13 28 j = 0 then (if b = 0 then Γ 12 29 j else Γ 12 27 j - Γ 12 29 j) else 0
/-- only the ways and rows are other -/
def fr31 (Γ Γ' : Nat → Nat → Nat → Int32) : Prop := ∀ c i j, ¬ (c = 12 ∧ (i = 31 ∨ i = 32)) → Γ' c i j = Γ c i j
theorem fr31.rm {Γ Γ' : Nat → Nat → Nat → Int32} (h : fr31 Γ Γ') (j : Nat) (b : Int32) : sp_rm Γ' j b = sp_rm Γ j b := by
  unfold sp_rm
  rw [h 13 28 j (by omega), h 12 29 j (by omega), h 12 27 j (by omega)]
theorem fr31.u31 {Γ Γ' : Nat → Nat → Nat → Int32} (h : fr31 Γ Γ') (j : Nat) (v : Int32) : fr31 Γ (u3 Γ' 12 31 j v) := fun c i j' hn => by rw [u3_ap, if_neg (by omega)]; exact h c i j' hn
theorem fr31.u32 {Γ Γ' : Nat → Nat → Nat → Int32} (h : fr31 Γ Γ') (j : Nat) (v : Int32) : fr31 Γ (u3 Γ' 12 32 j v) := fun c i j' hn => by rw [u3_ap, if_neg (by omega)]; exact h c i j' hn
def cn31 (Γ : Nat → Nat → Nat → Int32) : Nat → Nat
  | 0 => 0
  | v + 1 => cn31 Γ v + (if Γ 12 31 v = -1 then 0 else 1)
theorem cn31_le (Γ : Nat → Nat → Nat → Int32) : ∀ v, cn31 Γ v ≤ v
  | 0 => Nat.le_refl _
  | v + 1 => by have := cn31_le Γ v; unfold cn31; split <;> omega
theorem cn31_lt {Γ : Nat → Nat → Nat → Int32} {u : Nat} (hu : Γ 12 31 u = -1) : ∀ v, u < v → cn31 Γ v < v
  | 0, h => absurd h (Nat.not_lt_zero _)
  | v + 1, h => by
    have h1 := cn31_le Γ v
    unfold cn31
    by_cases e : u = v
    · subst e
      rw [if_pos hu]
      omega
    · have := cn31_lt hu v (by omega)
      split <;> omega
theorem cn31_0 {Γ : Nat → Nat → Nat → Int32} : ∀ v, (∀ u, u < v → Γ 12 31 u = -1) → cn31 Γ v = 0
  | 0, _ => rfl
  | v + 1, h => by
    unfold cn31
    rw [cn31_0 v (fun u hu => h u (by omega)), if_pos (h v (by omega))]
theorem cn31_up {Γ Γ' : Nat → Nat → Nat → Int32} {u : Nat} (h0 : Γ 12 31 u = -1) (h1 : ¬ Γ' 12 31 u = -1) (h : ∀ w, w ≠ u → Γ' 12 31 w = Γ 12 31 w) : ∀ v, cn31 Γ' v = cn31 Γ v + (if u < v then 1 else 0)
  | 0 => by simp [cn31]
  | v + 1 => by
    unfold cn31
    rw [cn31_up h0 h1 h v]
    by_cases e : v = u
    · subst e
      rw [if_neg h1, if_pos h0, if_neg (Nat.lt_irrefl _), if_pos (Nat.lt_succ_self _)]
    · rw [h v e]
      have h2 : (if u < v then 1 else 0) = (if u < v + 1 then 1 else 0) := by
        by_cases c : u < v
        · rw [if_pos c, if_pos (Nat.lt_succ_of_lt c)]
        · rw [if_neg c, if_neg (by omega)]
      omega
/-- way w leads into v from u -/
def edgeIn (q : Nat) (A B : Nat → Nat) (Pf Pb : Nat → Prop) (w v u : Nat) : Prop := (w < q ∧ w < 24 ∧ B w = v ∧ A w = u ∧ Pf w) ∨ (24 ≤ w ∧ w - 24 < q ∧ A (w - 24) = v ∧ B (w - 24) = u ∧ Pb (w - 24))
def bJ (q : Nat) (A B : Nat → Nat) (Pf Pb : Nat → Prop) (Γ : Nat → Nat → Nat → Int32) (r : Nat → Nat) (m : Nat) : Prop :=
  m = 1 + cn31 Γ 8 ∧ r 0 = 8 ∧ Γ 12 31 8 = -1 ∧ (∀ i, i < m → Γ 12 32 i = nI (r i) ∧ r i ≤ 8) ∧ (∀ i, 0 < i → i < m → r i < 8) ∧
  (∀ v, v < 8 → ¬ Γ 12 31 v = -1 → ∃ i, 0 < i ∧ i < m ∧ r i = v) ∧
  (∀ i, 0 < i → i < m → ∃ w i', i' < i ∧ w < 48 ∧ Γ 12 31 (r i) = nI w ∧ edgeIn q A B Pf Pb w (r i) (r i')) ∧
  (∀ i j, i < m → j < m → r i = r j → i = j)
def clo (A B : Nat → Nat) (Pf Pb : Nat → Prop) (r : Nat → Nat) (m i j : Nat) : Prop := (A j = r i → Pf j → ∃ i2, i2 < m ∧ r i2 = B j) ∧ (B j = r i → Pb j → ∃ i2, i2 < m ∧ r i2 = A j)
theorem bJ.le {q : Nat} {A B : Nat → Nat} {Pf Pb : Nat → Prop} {Γ : Nat → Nat → Nat → Int32} {r : Nat → Nat} {m : Nat} (h : bJ q A B Pf Pb Γ r m) : 1 ≤ m ∧ m ≤ 9 := by
  have := cn31_le Γ 8
  have := h.1
  omega
theorem bJ.lt {q : Nat} {A B : Nat → Nat} {Pf Pb : Nat → Prop} {Γ : Nat → Nat → Nat → Int32} {r : Nat → Nat} {m v : Nat} (h : bJ q A B Pf Pb Γ r m) (hv : v < 8) (e : Γ 12 31 v = -1) : m < 9 := by
  have := cn31_lt e 8 hv
  have := h.1
  omega
theorem nI_neg1 {w : Nat} (h : w < 2 ^ 31) : ¬ nI w = -1 := by
  intro e
  have h1 := nI_toInt h
  rw [e] at h1
  have : (-1 : Int32).toInt = -1 := by decide
  omega
/-- a node is found -/
theorem bJ.add {q : Nat} {A B : Nat → Nat} {Pf Pb : Nat → Prop} {Γ : Nat → Nat → Nat → Int32} {r : Nat → Nat} {m k v w : Nat} (h : bJ q A B Pf Pb Γ r m) (hk : k < m) (hv : v < 8) (e : Γ 12 31 v = -1) (hw : w < 48) (he : edgeIn q A B Pf Pb w v (r k)) :
    bJ q A B Pf Pb (u3 (u3 Γ 12 31 v (nI w)) 12 32 m (nI v)) (fun i => if i = m then v else r i) (m + 1) := by
  obtain ⟨h1, h2, h3, h4, h5, h6, h7, h8⟩ := id h
  have hm := h.le
  have e31 : ∀ u, (u3 (u3 Γ 12 31 v (nI w)) 12 32 m (nI v)) 12 31 u = if u = v then nI w else Γ 12 31 u := fun u => by
    rw [u3_ap, if_neg (by omega), u3_ap]
    by_cases c : u = v
    · rw [if_pos ⟨rfl, rfl, c⟩, if_pos c]
    · rw [if_neg (fun z => c z.2.2), if_neg c]
  have hnv : ∀ i, i < m → r i ≠ v := fun i hi z => by
    rcases Nat.eq_zero_or_pos i with c | c
    · subst c
      omega
    · obtain ⟨w', i', -, hw', q1, -⟩ := h7 i c hi
      rw [z, e] at q1
      exact nI_neg1 (by omega) q1.symm
  refine ⟨?_, ?_, ?_, fun i hi => ?_, fun i h0 hi => ?_, fun u hu hne => ?_, fun i h0 hi => ?_, fun i j hi hj hij => ?_⟩
  · rw [cn31_up e (by rw [e31, if_pos rfl]; exact nI_neg1 (by omega)) (fun u hu => by rw [e31, if_neg hu]) 8, if_pos hv]
    omega
  · show (if 0 = m then v else r 0) = 8
    rw [if_neg (by omega)]
    exact h2
  · rw [e31, if_neg (by omega)]
    exact h3
  · show (u3 (u3 Γ 12 31 v (nI w)) 12 32 m (nI v)) 12 32 i = nI (if i = m then v else r i) ∧ (if i = m then v else r i) ≤ 8
    by_cases c : i = m
    · rw [if_pos c, c, u3_s]
      exact ⟨rfl, by omega⟩
    · rw [if_neg c, u3_ap, if_neg (fun z => c z.2.2), u3_ap, if_neg (by omega)]
      exact h4 i (by omega)
  · show (if i = m then v else r i) < 8
    by_cases c : i = m
    · rw [if_pos c]; exact hv
    · rw [if_neg c]; exact h5 i h0 (by omega)
  · rw [e31] at hne
    by_cases c : u = v
    · exact ⟨m, by omega, by omega, by show (if m = m then v else r m) = u; rw [if_pos rfl, c]⟩
    · rw [if_neg c] at hne
      obtain ⟨i, q1, q2, q3⟩ := h6 u hu hne
      exact ⟨i, q1, by omega, by show (if i = m then v else r i) = u; rw [if_neg (by omega)]; exact q3⟩
  · by_cases c : i = m
    · subst c
      refine ⟨w, k, hk, hw, ?_, ?_⟩
      · show (u3 (u3 Γ 12 31 v (nI w)) 12 32 i (nI v)) 12 31 (if i = i then v else r i) = nI w
        rw [if_pos rfl, e31, if_pos rfl]
      · show edgeIn q A B Pf Pb w (if i = i then v else r i) (if k = i then v else r k)
        rw [if_pos rfl, if_neg (by omega)]
        exact he
    · obtain ⟨w', i', q1, q2, q3, q4⟩ := h7 i h0 (by omega)
      refine ⟨w', i', q1, q2, ?_, ?_⟩
      · show (u3 (u3 Γ 12 31 v (nI w)) 12 32 m (nI v)) 12 31 (if i = m then v else r i) = nI w'
        rw [if_neg c, e31, if_neg (hnv i (by omega))]
        exact q3
      · show edgeIn q A B Pf Pb w' (if i = m then v else r i) (if i' = m then v else r i')
        rw [if_neg c, if_neg (by omega)]
        exact q4
  · have hij' : (if i = m then v else r i) = (if j = m then v else r j) := hij
    by_cases c : i = m <;> by_cases d : j = m
    · omega
    · rw [if_pos c, if_neg d] at hij'
      exact absurd hij'.symm (hnv j (by omega))
    · rw [if_neg c, if_pos d] at hij'
      exact absurd hij' (hnv i (by omega))
    · rw [if_neg c, if_neg d] at hij'
      exact h8 i j (by omega) (by omega) hij'
theorem clo.up {A B : Nat → Nat} {Pf Pb : Nat → Prop} {r : Nat → Nat} {m i j v : Nat} (h : clo A B Pf Pb r m i j) (hi : i < m) : clo A B Pf Pb (fun i => if i = m then v else r i) (m + 1) i j := by
  have e : ∀ x, x < m → (fun i => if i = m then v else r i) x = r x := fun x hx => if_neg (by omega)
  refine ⟨fun z1 z2 => ?_, fun z1 z2 => ?_⟩
  · rw [e i hi] at z1
    obtain ⟨i2, a, b⟩ := h.1 z1 z2
    exact ⟨i2, by omega, by rw [e i2 a]; exact b⟩
  · rw [e i hi] at z1
    obtain ⟨i2, a, b⟩ := h.2 z1 z2
    exact ⟨i2, by omega, by rw [e i2 a]; exact b⟩
theorem bfs_skip {q : Nat} {A B : Nat → Nat} {Pf Pb : Nat → Prop} {Γ : Nat → Nat → Nat → Int32} {r : Nat → Nat} {m k j : Nat} (h : bJ q A B Pf Pb Γ r m) (hne : A j ≠ B j) (hA : A j ≤ 8) (hB : B j < 8)
    (hc : (A j = r k ∧ (¬ Γ 12 31 (B j) = -1 ∨ ¬ Pf j)) ∨ (¬ A j = r k ∧ (¬ B j = r k ∨ A j = 8 ∨ ¬ Γ 12 31 (A j) = -1 ∨ ¬ Pb j))) : clo A B Pf Pb r m k j := by
  obtain ⟨h1, h2, h3, h4, h5, h6, h7, h8⟩ := id h
  have hm := h.le
  have vis : ∀ v, v < 8 → ¬ Γ 12 31 v = -1 → ∃ i2, i2 < m ∧ r i2 = v := fun v hv z => by
    obtain ⟨i, a, b, c⟩ := h6 v hv z
    exact ⟨i, b, c⟩
  refine ⟨fun z1 z2 => ?_, fun z1 z2 => ?_⟩
  · rcases hc with ⟨a, b | b⟩ | ⟨a, -⟩
    · exact vis _ hB b
    · exact absurd z2 b
    · exact absurd z1 a
  · rcases hc with ⟨a, -⟩ | ⟨-, b | b | b | b⟩
    · exact absurd (a.trans z1.symm) hne
    · exact absurd z1 b
    · exact ⟨0, by omega, by rw [h2, b]⟩
    · by_cases c : A j = 8
      · exact ⟨0, by omega, by rw [h2, c]⟩
      · exact vis _ (by omega) b
    · exact absurd z2 b
