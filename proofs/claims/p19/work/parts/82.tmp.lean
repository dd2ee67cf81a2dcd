/-! ===== a row more of the law's own ===== -/
def zt (Γ : Nat → Nat → Nat → Int32) (o : Nat) : Nat → Nat → Nat → Int32 := fun c i j => if c = 13 ∧ i = o then 0 else Γ c i j
theorem zt_n {Γ : Nat → Nat → Nat → Int32} {o c i j : Nat} (h : ¬ (c = 13 ∧ i = o)) : zt Γ o c i j = Γ c i j := if_neg h
def lT (L : Nat → Nat → Nat) (o a : Nat) : Nat → Nat → Nat := fun c i => if c = 13 ∧ i = o then a else L c i
theorem wdm_o {n p o c i : Nat} (h : wdm n p (o + 1) c i = true) (h2 : ¬ (c = 13 ∧ i = o)) : wdm n p o c i = true := by
  unfold wdm at h ⊢
  split at h <;> first | exact h | exact decide_eq_true (by have := of_decide_eq_true h; omega)
theorem wdm_le {n p o o' c i : Nat} (h : wdm n p o' c i = true) (hle : o' ≤ o) : wdm n p o c i = true := by
  unfold wdm at h ⊢
  split at h <;> first | exact h | exact decide_eq_true (by have := of_decide_eq_true h; omega)
theorem wrf_13 {c j i : Nat} {r : Nat × Nat} (h : wrf c j i = some r) : ¬ r.1 = 13 := by
  unfold wrf at h
  split at h
  all_goals (repeat' (split at h))
  all_goals first | (cases h; simp; done) | cases h
section TMP
variable {N n p : Nat} {ord : List Nat} {L : Nat → Nat → Nat} {Γ : Nat → Nat → Nat → Int32} {o : Nat} {h : am_H}
theorem WI.drop (w : WI N n p ord L Γ o h) {o' : Nat} (hle : o' ≤ o) : WI N n p ord L Γ o' h := by
  obtain ⟨w0, w1, w2, w3, w4, w5, w6, w7, w8, w9⟩ := w
  exact ⟨w0, fun c i hi => w1 c i (wdm_le hi hle), fun c i c' i' hi hi' e => w2 c i c' i' (wdm_le hi hle) (wdm_le hi' hle) e, fun c i ci j hi => w3 c i ci j (wdm_le hi hle), fun c i ci j r hi => w4 c i ci j r (wdm_le hi hle), fun c i hi => w5 c i (wdm_le hi hle), w6, w7, by omega, w9⟩
theorem WI.tmp (w : WI N n p ord L Γ o h) (ho : o < 9) {a : Nat} (ha : ∀ q, am_K h q ≠ 0 → q < a) : WI N n p ord (lT L o a) (zt Γ o) (o + 1) (am_nw h a 11 (wln 13 o)) := by
  obtain ⟨w0, w1, w2, w3, w4, w5, w6, w7, w8, w9⟩ := id w
  have hk0 : ∀ c i, wdm n p o c i = true → am_K h (L c i) ≠ 0 := fun c i hi => by
    rw [w1 c i hi]
    unfold wdm at hi
    split at hi <;> first | decide | exact absurd hi (by decide)
  have hlt : ∀ c i, wdm n p o c i = true → ¬ L c i = a := fun c i hi e => by
    have := ha _ (hk0 c i hi)
    omega
  have h7 : ∀ t, t < 3 → ¬ L 7 t = a := fun t ht e => by
    have : am_K h (L 7 t) ≠ 0 := by rcases (w6 t ht).2.2.1 with z | z <;> rw [z.1] <;> decide
    have := ha _ this
    omega
  have lo : ∀ c i, ¬ (c = 13 ∧ i = o) → lT L o a c i = L c i := fun c i z => if_neg z
  have ln : lT L o a 13 o = a := if_pos ⟨rfl, rfl⟩
  refine ⟨w0, fun c i hi => ?_, fun c i c' i' hi hi' e => ?_, fun c i ci j hi hc hr => ?_, fun c i ci j r hi hc hr => ?_, fun c i hi hc => ?_, fun t ht => ?_, ?_, by omega, ?_⟩
  · by_cases z : c = 13 ∧ i = o
    · obtain ⟨rfl, rfl⟩ := z
      rw [ln, am_K_nw, if_pos rfl]
      rfl
    · have hi0 := wdm_o hi z
      rw [lo c i z, am_K_nw, if_neg (hlt c i hi0)]
      exact w1 c i hi0
  · by_cases z : c = 13 ∧ i = o <;> by_cases z' : c' = 13 ∧ i' = o
    · omega
    · obtain ⟨rfl, rfl⟩ := z
      rw [ln, lo c' i' z'] at e
      exact absurd e.symm (hlt c' i' (wdm_o hi' z'))
    · obtain ⟨rfl, rfl⟩ := z'
      rw [ln, lo c i z] at e
      exact absurd e (hlt c i (wdm_o hi z))
    · rw [lo c i z, lo c' i' z'] at e
      exact w2 c i c' i' (wdm_o hi z) (wdm_o hi' z') e
  · have z : ¬ (c = 13 ∧ i = o) := fun y => by rw [y.1] at hc; cases hc
    have hi0 := wdm_o hi z
    rw [lo c i z, am_I_nw, if_neg (hlt c i hi0), zt_n z]
    exact w3 c i ci j hi0 hc hr
  · have z : ¬ (c = 13 ∧ i = o) := fun y => by rw [y.1] at hc; cases hc
    have hi0 := wdm_o hi z
    have zr : ¬ (r.1 = 13 ∧ r.2 = o) := fun y => wrf_13 hr y.1
    rw [lo c i z, am_R_nw, if_neg (hlt c i hi0), lo r.1 r.2 zr]
    exact w4 c i ci j r hi0 hc hr
  · by_cases z : c = 13 ∧ i = o
    · obtain ⟨rfl, rfl⟩ := z
      rw [ln, am_N_nw, if_pos rfl]
      refine ⟨rfl, fun j hj => ?_⟩
      rw [am_A_nw, if_pos rfl]
      exact (if_pos ⟨rfl, rfl⟩).symm
    · have hi0 := wdm_o hi z
      obtain ⟨q1, q2⟩ := w5 c i hi0 hc
      rw [lo c i z, am_N_nw, if_neg (hlt c i hi0)]
      refine ⟨q1, fun j hj => ?_⟩
      rw [am_A_nw, if_neg (hlt c i hi0), zt_n z]
      exact q2 j hj
  · obtain ⟨l1, l2, l3, l4, l5⟩ := w6 t ht
    have z6 : lT L o a 6 t = L 6 t := lo 6 t (by omega)
    have z7 : ∀ t, lT L o a 7 t = L 7 t := fun t => lo 7 t (by omega)
    have n6 := hlt 6 t (decide_eq_true ht)
    have n7 := h7 t ht
    have hwec : ¬ wec t = 13 := by unfold wec; split <;> decide
    rw [z6, z7, am_I_nw, if_neg n6, am_R_nw, if_neg n6, am_K_nw, if_neg n7, am_N_nw, if_neg n7]
    refine ⟨l1, l2, l3, fun j hj => ?_, fun t' ht' e => ?_⟩
    · rw [am_B_nw, if_neg n7, lo _ _ (fun y => hwec y.1)]
      exact l4 j hj
    · rw [z7] at e
      exact l5 t' ht' e
  · have n8 := hlt 8 0 rfl
    rw [lo 8 0 (by omega), am_N_nw, if_neg n8]
    refine ⟨w7.1, fun b hb => ?_⟩
    rw [am_B_nw, if_neg n8, lo 9 b (by omega)]
    exact w7.2 b hb
  · have n15 := hlt 15 0 rfl
    rw [lo 15 0 (by omega), am_N_nw, if_neg n15]
    refine ⟨w9.1, fun j hj => ?_⟩
    rw [am_A_nw, if_neg n15, zt_n (by omega)]
    exact w9.2 j hj
theorem VW.drop (w : VW N n p ord L Γ o h) {o' : Nat} (hle : o' ≤ o) : VW N n p ord L Γ o' h := by
  obtain ⟨G, f, w⟩ := w
  exact ⟨G, f, w.drop hle⟩
variable {k : am_X} {own nm : String} {cc : ByteArray} {nL : Nat} {ret : Option FieldType} {cells slots : Nat} {Q : State → Prop} {pc : Nat} {ls : List (Nat × Value)} {st : List Value}
theorem v_newT {K : Nat} {kv : Int32} (w : VW N n p ord L Γ o h) (ho : o < 9) (hd : decode cc pc = .ok (.newarray .int, 2)) (hK : wln 13 o = K) (hkv : kv = nI K) (h1 : cells + 1 ≤ (am_kR k).cells) (h2 : slots + K ≤ (am_kR k).slots)
    (kk : ∀ (L' : Nat → Nat → Nat) (h' : am_H), (∀ c i, ¬ (c = 13 ∧ i = o) → L' c i = L c i) → VW N n p ord L' (zt Γ o) (o + 1) h' → am_G k own nm cc nL ret (cells + 1) (slots + K) Q (pc + 2) ls (.ref (L' 13 o) :: st) h') : am_G k own nm cc nL ret cells slots Q pc ls (.int kv :: st) h := by
  obtain ⟨G, f, w⟩ := w
  subst hkv
  have hK24 : K ≤ 24 := by rw [← hK]; show (if o = 0 then 5 else if o = 1 then 16 else if o = 2 then 16 else if o = 3 then 24 else 8) ≤ 24; (repeat' split) <;> omega
  refine g_newI hd aw_int (nI_pos (by omega)) (nI_clamp (by omega)) (by omega) h1 h2 (fun a ha => ?_)
  have w2 := w.tmp ho ha
  rw [hK] at w2
  have e : lT L o a 13 o = a := if_pos ⟨rfl, rfl⟩
  have := kk (lT L o a) (am_nw h a 11 K) (fun c i z => if_neg z) ⟨zt G o, fun c i j z1 z2 z3 => by
    by_cases z : c = 13 ∧ i = o
    · show (if c = 13 ∧ i = o then 0 else G c i j) = if c = 13 ∧ i = o then 0 else Γ c i j
      rw [if_pos z, if_pos z]
    · rw [zt_n z, zt_n z, f c i j z1 z2 z3], w2⟩
  rw [e] at this
  exact this
end TMP
