/-! ===== the world: objects by labels (code, index); Γ c i j = field or element j of (c, i) ===== -/
def u3 (Γ : Nat → Nat → Nat → Int32) (c i j : Nat) (v : Int32) : Nat → Nat → Nat → Int32 := fun c' i' j' => if c' = c ∧ i' = i ∧ j' = j then v else Γ c' i' j'
theorem u3_ap (Γ : Nat → Nat → Nat → Int32) (c i j : Nat) (v : Int32) (c' i' j' : Nat) : u3 Γ c i j v c' i' j' = if c' = c ∧ i' = i ∧ j' = j then v else Γ c' i' j' := rfl
theorem u3_s {Γ : Nat → Nat → Nat → Int32} {c i j : Nat} {v : Int32} : u3 Γ c i j v c i j = v := if_pos ⟨rfl, rfl, rfl⟩
theorem u3_n {Γ : Nat → Nat → Nat → Int32} {c i j c' i' j' : Nat} {v : Int32} (h : ¬ (c' = c ∧ i' = i ∧ j' = j)) : u3 Γ c i j v c' i' j' = Γ c' i' j' := if_neg h
/-- the kind of a code -/
def wk : Nat → Nat := fun c => match c with
  | 0 => 1
  | 1 => 1
  | 2 => 2
  | 3 => 3
  | 4 => 4
  | 5 => 5
  | 6 => 7
  | 8 => 14
  | 9 => 11
  | 10 => 11
  | 13 => 11
  | 15 => 17
  | _ => 0
/-- the class of a code of objects with int fields -/
def wcl : Nat → Option Nat := fun c => match c with
  | 0 => some 0
  | 1 => some 0
  | 2 => some 1
  | 3 => some 2
  | 4 => some 3
  | 5 => some 4
  | _ => none
/-- which labels there are, with n districts and p pipes -/
def wdm (n p o : Nat) : Nat → Nat → Bool := fun c i => match c with
  | 0 => decide (i < n)
  | 1 => decide (i < n)
  | 2 => decide (i < n)
  | 3 => decide (i = 0)
  | 4 => decide (i < p)
  | 5 => decide (i = 0)
  | 6 => decide (i < 3)
  | 8 => decide (i = 0)
  | 9 => decide (i < 9)
  | 10 => decide (i < 3)
  | 13 => decide (i < o)
  | 15 => decide (i = 0)
  | _ => false
def wln : Nat → Nat → Nat := fun c i => match c with
  | 9 => 9
  | 10 => 9
  | 13 => if i = 0 then 5 else if i = 1 then 16 else if i = 2 then 16 else if i = 3 then 24 else 8
  | _ => 0
/-- reference fields: (code, field) to the label it holds, for the object i -/
def wrf : Nat → Nat → Nat → Option (Nat × Nat) := fun c j i => match c with
  | 2 => if j = 4 then some (0, i) else if j = 5 then some (1, i) else none
  | 3 => if j = 0 then some (6, 2) else if j = 3 then some (8, 0) else if j = 4 then some (10, 0) else if j = 5 then some (10, 1) else if j = 6 then some (10, 2) else none
  | 5 => if j = 0 then some (6, 0) else if j = 1 then some (3, 0) else if j = 2 then some (6, 1) else none
  | _ => none
/-- the three lists' contents, and the code of what they hold -/
def wls (n p : Nat) (ord : List Nat) : Nat → List Nat := fun t => match t with
  | 0 => List.range n
  | 1 => ord
  | _ => List.range p
def wec : Nat → Nat := fun t => match t with
  | 0 => 2
  | 1 => 2
  | _ => 4
/-- THE WORLD: N: how long the script is -/
def WI (N n p : Nat) (ord : List Nat) (L : Nat → Nat → Nat) (Γ : Nat → Nat → Nat → Int32) (o : Nat) (h : am_H) : Prop :=
  (n ≤ 8 ∧ p ≤ 24 ∧ N ≤ 2048 ∧ (∀ e ∈ ord, e < n) ∧ ord.length ≤ 8) ∧
  (∀ c i, wdm n p o c i = true → am_K h (L c i) = wk c) ∧
  (∀ c i c' i', wdm n p o c i = true → wdm n p o c' i' = true → L c i = L c' i' → c = c' ∧ i = i') ∧
  (∀ c i ci j, wdm n p o c i = true → wcl c = some ci → am_isR (am_ty ci j) = false → am_I h (100 * ci + j) (L c i) = Γ c i j) ∧
  (∀ c i ci j r, wdm n p o c i = true → wcl c = some ci → wrf c j i = some r → am_R h (100 * ci + j) (L c i) = some (L r.1 r.2)) ∧
  (∀ c i, wdm n p o c i = true → (c = 9 ∨ c = 10 ∨ c = 13) → am_N h (L c i) = wln c i ∧ ∀ j, j < wln c i → am_A h (L c i) j = Γ c i j) ∧
  (∀ t, t < 3 → am_I h 602 (L 6 t) = nI (wls n p ord t).length ∧ am_R h 601 (L 6 t) = some (L 7 t) ∧
    ((am_K h (L 7 t) = 13 ∧ (wls n p ord t).length ≤ am_N h (L 7 t) ∧ am_N h (L 7 t) ≤ 100) ∨ (am_K h (L 7 t) = 16 ∧ wls n p ord t = [] ∧ am_N h (L 7 t) = 0)) ∧
    (∀ j (hj : j < (wls n p ord t).length), am_B h (L 7 t) j = some (L (wec t) ((wls n p ord t)[j]))) ∧
    (∀ t', t' < 3 → L 7 t' = L 7 t → t' = t ∨ am_K h (L 7 t) = 16)) ∧
  (am_N h (L 8 0) = 9 ∧ ∀ a, a < 9 → am_B h (L 8 0) a = some (L 9 a)) ∧
  o ≤ 9 ∧
  (am_N h (L 15 0) = N ∧ ∀ j, j < N → am_A h (L 15 0) j = Γ 15 0 j)
section WR
variable {N n p : Nat} {ord : List Nat} {L : Nat → Nat → Nat} {Γ : Nat → Nat → Nat → Int32} {o : Nat} {h : am_H}
theorem wcl_lt {c ci : Nat} (h : wcl c = some ci) : ci < 6 ∧ c < 6 := by
  unfold wcl at h
  split at h <;> first | (cases h; decide) | cases h
theorem WI.k (w : WI N n p ord L Γ o h) {c i : Nat} (hi : wdm n p o c i = true) : am_K h (L c i) = wk c := w.2.1 c i hi
theorem WI.ij (w : WI N n p ord L Γ o h) {c i c' i' : Nat} (hi : wdm n p o c i = true) (hi' : wdm n p o c' i' = true) (e : L c i = L c' i') : c = c' ∧ i = i' := w.2.2.1 c i c' i' hi hi' e
theorem wcl_k {c ci : Nat} (h : wcl c = some ci) : wk c = ci + 1 := by
  unfold wcl at h
  split at h <;> first | (cases h; rfl) | cases h
/-- an address of kind 13 or 16 is none of the labels -/
theorem WI.ne7 (w : WI N n p ord L Γ o h) {c i t : Nat} (hi : wdm n p o c i = true) (ht : t < 3) : L c i ≠ L 7 t := by
  intro e
  have h1 := w.k hi
  rw [e] at h1
  have h2 : wk c ≠ 13 ∧ wk c ≠ 16 := by unfold wk; split <;> decide
  rcases (w.2.2.2.2.2.2.1 t ht).2.2.1 with z | z
  · exact h2.1 (h1.symm.trans z.1)
  · exact h2.2 (h1.symm.trans z.1)
/-- an int field written -/
theorem WI.putI (w : WI N n p ord L Γ o h) {c i ci j : Nat} (hi : wdm n p o c i = true) (hc : wcl c = some ci) (ht : am_isR (am_ty ci j) = false) (hj : j < 100) (v : Int32) : WI N n p ord L (u3 Γ c i j v) o (am_sI h (100 * ci + j) (L c i) v) := by
  obtain ⟨w0, w1, w2, w3, w4, w5, w6, w7, w8, w9⟩ := id w
  have hc6 := wcl_lt hc
  refine ⟨w0, w1, w2, fun c' i' ci' j' hi' hc' ht' => ?_, w4, fun c' i' hi' hcc => ?_, fun t ht3 => ?_, w7, w8, w9.1, fun j' hj' => ?_⟩
  · rw [am_I_sI]
    by_cases e : c' = c ∧ i' = i ∧ j' = j
    · obtain ⟨rfl, rfl, rfl⟩ := e
      cases hc.symm.trans hc'
      rw [if_pos ⟨rfl, rfl⟩, u3_s]
    · rw [u3_n e, if_neg, w3 c' i' ci' j' hi' hc' ht']
      rintro ⟨z1, z2⟩
      obtain ⟨e1, e2⟩ := w.ij hi' hi z2
      subst e1
      cases hc.symm.trans hc'
      exact e ⟨rfl, e2, by omega⟩
  · obtain ⟨q1, q2⟩ := w5 c' i' hi' hcc
    refine ⟨q1, fun j' hj' => ?_⟩
    rw [am_A_sI, q2 j' hj', u3_n]
    omega
  · have q := w6 t ht3
    refine ⟨?_, q.2⟩
    rw [am_I_sI, if_neg (by omega)]
    exact q.1
  · rw [am_A_sI, w9.2 j' hj', u3_n]
    omega
theorem WI.putA (w : WI N n p ord L Γ o h) {c i j : Nat} (hi : wdm n p o c i = true) (hc : c = 9 ∨ c = 10 ∨ c = 13) (hj : j < wln c i) (v : Int32) : WI N n p ord L (u3 Γ c i j v) o (am_sA h (L c i) j v) := by
  obtain ⟨w0, w1, w2, w3, w4, w5, w6, w7, w8, w9⟩ := id w
  refine ⟨w0, w1, w2, fun c' i' ci' j' hi' hc' ht' => ?_, w4, fun c' i' hi' hcc => ?_, w6, w7, w8, w9.1, fun j' hj' => ?_⟩
  · have := wcl_lt hc'
    rw [am_I_sA, w3 c' i' ci' j' hi' hc' ht', u3_n]
    omega
  · obtain ⟨q1, q2⟩ := w5 c' i' hi' hcc
    refine ⟨q1, fun j' hj' => ?_⟩
    rw [am_A_sA]
    by_cases e : c' = c ∧ i' = i ∧ j' = j
    · obtain ⟨rfl, rfl, rfl⟩ := e
      rw [if_pos ⟨rfl, rfl⟩, u3_s]
    · rw [u3_n e, if_neg, q2 j' hj']
      rintro ⟨z1, z2⟩
      obtain ⟨e1, e2⟩ := w.ij hi' hi z1
      exact e ⟨e1, e2, z2⟩
  · rw [am_A_sA, if_neg, w9.2 j' hj', u3_n]
    · omega
    · rintro ⟨z1, -⟩
      have := (w.ij (c := 15) (i := 0) rfl hi z1).1
      omega
/-- only what is in the world counts -/
theorem WI.congr (w : WI N n p ord L Γ o h) {Γ' : Nat → Nat → Nat → Int32} (e : ∀ c i j, wdm n p o c i = true → Γ' c i j = Γ c i j) : WI N n p ord L Γ' o h := by
  obtain ⟨w0, w1, w2, w3, w4, w5, w6, w7, w8, w9⟩ := w
  exact ⟨w0, w1, w2, fun c i ci j hi hc ht => by rw [e c i j hi]; exact w3 c i ci j hi hc ht, w4, fun c i hi hc => ⟨(w5 c i hi hc).1, fun j hj => by rw [e c i j hi]; exact (w5 c i hi hc).2 j hj⟩, w6, w7, w8, w9.1, fun j hj => by rw [e 15 0 j rfl]; exact w9.2 j hj⟩
end WR
section WG
variable {k : am_X} {own nm : String} {cc : ByteArray} {nL : Nat} {ret : Option FieldType} {cells slots : Nat} {Q : State → Prop} {pc : Nat} {ls : List (Nat × Value)} {st : List Value} {h : am_H}
variable {N n p : Nat} {ord : List Nat} {L : Nat → Nat → Nat} {Γ : Nat → Nat → Nat → Int32} {o : Nat}
theorem w_getI {c i index ci j f : Nat} (w : WI N n p ord L Γ o h) (hd : decode cc pc = .ok (.getfield index, 3)) (hf : am_fl own index ci j f) (hc : wcl c = some ci) (ht : am_isR (am_ty ci j) = false) (hi : wdm n p o c i = true) (kk : am_G k own nm cc nL ret cells slots Q (pc + 3) ls (.int (Γ c i j) :: st) h) : am_G k own nm cc nL ret cells slots Q pc ls (.ref (L c i) :: st) h := by
  refine g_getI hd hf ht ((w.k hi).trans (wcl_k hc)) ?_
  rw [hf.1, w.2.2.2.1 c i ci j hi hc ht]
  exact kk
theorem w_getR {c i index ci j f c' i' : Nat} (w : WI N n p ord L Γ o h) (hd : decode cc pc = .ok (.getfield index, 3)) (hf : am_fl own index ci j f) (hc : wcl c = some ci) (ht : am_isR (am_ty ci j) = true) (hi : wdm n p o c i = true) (hr : wrf c j i = some (c', i')) (kk : am_G k own nm cc nL ret cells slots Q (pc + 3) ls (.ref (L c' i') :: st) h) : am_G k own nm cc nL ret cells slots Q pc ls (.ref (L c i) :: st) h := by
  refine g_getR hd hf ht ((w.k hi).trans (wcl_k hc)) ?_ kk
  rw [hf.1]
  exact w.2.2.2.2.1 c i ci j (c', i') hi hc hr
theorem w_putI {c i index ci j f : Nat} {v : Int32} (w : WI N n p ord L Γ o h) (hd : decode cc pc = .ok (.putfield index, 3)) (hf : am_fl own index ci j f) (hc : wcl c = some ci) (ht : am_isR (am_ty ci j) = false) (hj : j < 100) (hfin : ∀ q, am_C[ci]? = some q → (q.2.1 j).2.2.2 = false) (hi : wdm n p o c i = true) (hn : narrow (am_ty ci j) (.int v) = .int v) (hfit : fits (am_ty ci j) (.int v) = true)
    (kk : ∀ h', WI N n p ord L (u3 Γ c i j v) o h' → am_G k own nm cc nL ret cells slots Q (pc + 3) ls st h') : am_G k own nm cc nL ret cells slots Q pc ls (.int v :: .ref (L c i) :: st) h := by
  refine g_putI hd hf ht (fun q hq => Or.inl (hfin q hq)) ((w.k hi).trans (wcl_k hc)) hn hfit (kk _ ?_)
  rw [hf.1]
  exact w.putI hi hc ht hj v
theorem w_ald {c i j : Nat} (w : WI N n p ord L Γ o h) (hd : decode cc pc = .ok (.iaload, 1)) (hc : c = 9 ∨ c = 10 ∨ c = 13) (hi : wdm n p o c i = true) (hj : j < wln c i) (kk : am_G k own nm cc nL ret cells slots Q (pc + 1) ls (.int (Γ c i j) :: st) h) : am_G k own nm cc nL ret cells slots Q pc ls (.int (nI j) :: .ref (L c i) :: st) h := by
  have h5 := w.2.2.2.2.2.1 c i hi (by omega)
  have hw : wln c i ≤ 24 := by unfold wln; (repeat' split) <;> omega
  refine g_iald hd ?_ (by rw [h5.1]; exact vp_in_nI hj (by omega)) ?_
  · rw [w.k hi]
    rcases hc with rfl | rfl | rfl <;> rfl
  · rw [nI_clamp (by omega), h5.2 j hj]
    exact kk
theorem w_ast {c i j : Nat} {v : Int32} (w : WI N n p ord L Γ o h) (hd : decode cc pc = .ok (.iastore, 1)) (hc : c = 9 ∨ c = 10 ∨ c = 13) (hi : wdm n p o c i = true) (hj : j < wln c i) (kk : ∀ h', WI N n p ord L (u3 Γ c i j v) o h' → am_G k own nm cc nL ret cells slots Q (pc + 1) ls st h') : am_G k own nm cc nL ret cells slots Q pc ls (.int v :: .int (nI j) :: .ref (L c i) :: st) h := by
  have h5 := w.2.2.2.2.2.1 c i hi (by omega)
  have hw : wln c i ≤ 24 := by unfold wln; (repeat' split) <;> omega
  refine g_iast hd ?_ (by rw [h5.1]; exact vp_in_nI hj (by omega)) (kk _ ?_)
  · rw [w.k hi]
    rcases hc with rfl | rfl | rfl <;> rfl
  · rw [nI_clamp (by omega)]
    exact w.putA hi (by omega) hj v
theorem w_row {a : Nat} (w : WI N n p ord L Γ o h) (hd : decode cc pc = .ok (.aaload, 1)) (ha : a < 9) (kk : am_G k own nm cc nL ret cells slots Q (pc + 1) ls (.ref (L 9 a) :: st) h) : am_G k own nm cc nL ret cells slots Q pc ls (.int (nI a) :: .ref (L 8 0) :: st) h := by
  have h7 := w.2.2.2.2.2.2.2.1
  refine g_rald hd (w.k rfl) (by rw [h7.1]; exact vp_in_nI ha (by omega)) ?_
  rw [nI_clamp (by omega), h7.2 a ha]
  exact kk
end WG
