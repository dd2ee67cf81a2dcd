/-! ===== what holds of the class between calls ===== -/
def CG (T n : Nat) (Γ : Nat → Nat → Nat → Int32) : Prop :=
  (0 ≤ (Γ 5 0 3).toInt ∧ (Γ 5 0 3).toInt ≤ T) ∧ (0 ≤ (Γ 5 0 4).toInt ∧ (Γ 5 0 4).toInt ≤ 4) ∧ (Γ 5 0 5 = 0 ∨ Γ 5 0 5 = 1) ∧ (0 ≤ (Γ 5 0 7).toInt ∧ (Γ 5 0 7).toInt ≤ T) ∧ (0 ≤ (Γ 3 0 1).toInt ∧ (Γ 3 0 1).toInt ≤ 9999) ∧ Γ 5 0 6 = sp_sum (fun j => if Γ 1 j 0 = 0 then 0 else 1) n
/-- a bid of a district: c 0 the one that stands, c 1 the one told -/
def CB (c d : Nat) (Γ : Nat → Nat → Nat → Int32) : Prop := (0 ≤ (Γ c d 1).toInt ∧ (Γ c d 1).toInt ≤ 99) ∧ (0 ≤ (Γ c d 2).toInt ∧ (Γ c d 2).toInt ≤ 999) ∧ (0 ≤ (Γ c d 3).toInt ∧ (Γ c d 3).toInt < (Γ 5 0 7).toInt)
def CD (d : Nat) (Γ : Nat → Nat → Nat → Int32) : Prop :=
  Γ 2 d 0 = nI (d + 1) ∧ (¬ Γ 0 d 0 = 0 → CB 0 d Γ) ∧ (¬ Γ 1 d 0 = 0 → CB 1 d Γ) ∧ (Γ 0 d 0 = 0 → Γ 2 d 8 = 0) ∧ (0 ≤ (Γ 2 d 8).toInt ∧ (Γ 2 d 8).toInt ≤ 999) ∧ (0 ≤ (Γ 2 d 1).toInt ∧ (Γ 2 d 1).toInt ≤ 9999) ∧ (0 ≤ (Γ 2 d 3).toInt ∧ (Γ 2 d 3).toInt ≤ (Γ 2 d 1).toInt) ∧ (0 ≤ (Γ 2 d 2).toInt ∧ (Γ 2 d 2).toInt ≤ 999) ∧ (¬ Γ 0 d 0 = 0 → (Γ 2 d 8).toInt ≤ (Γ 0 d 2).toInt)
def RX (n : Nat) (Γ : Nat → Nat → Nat → Int32) : Prop := ∀ i j, i < n → j < n → i ≠ j →
  (¬ Γ 0 i 0 = 0 → ¬ Γ 0 j 0 = 0 → (Γ 0 i 3).toInt ≠ (Γ 0 j 3).toInt) ∧ (¬ Γ 0 i 0 = 0 → ¬ Γ 1 j 0 = 0 → (Γ 0 i 3).toInt ≠ (Γ 1 j 3).toInt) ∧ (¬ Γ 1 i 0 = 0 → ¬ Γ 1 j 0 = 0 → (Γ 1 i 3).toInt ≠ (Γ 1 j 3).toInt)
def CP (A B : Nat → Nat) (j : Nat) (Γ : Nat → Nat → Nat → Int32) : Prop := Γ 4 j 0 = nI (A j) ∧ A j < 9 ∧ Γ 4 j 1 = nI (B j) ∧ B j < 9 ∧ (1 ≤ (Γ 4 j 2).toInt ∧ (Γ 4 j 2).toInt ≤ 999) ∧ (Γ 4 j 3 = 0 ∨ Γ 4 j 3 = 1)
def CF (n p : Nat) (A B : Nat → Nat) (ord : List Nat) (Γ : Nat → Nat → Nat → Int32) : Prop :=
  (Γ 5 0 5 = 0 → ∀ d, d < n → Γ 2 d 8 = 0) ∧ (¬ Γ 5 0 5 = 0 → (∀ i, i < ord.length → 0 ≤ (Γ 2 (od ord i) 7).toInt ∧ (Γ 2 (od ord i) 7).toInt ≤ 9999) ∧ SEQ (CM p A B (KC Γ)) (Γ 3 0 1).toInt (od ord) (fun i => (Γ 2 (od ord i) 7).toInt) (fun i => (Γ 2 (od ord i) 8).toInt) ord.length)
def CI (T n p : Nat) (A B : Nat → Nat) (ord : List Nat) (Γ : Nat → Nat → Nat → Int32) : Prop :=
  CG T n Γ ∧ (∀ d, d < n → CD d Γ) ∧ RX n Γ ∧ (∀ j, j < p → CP A B j Γ) ∧ ORD Γ n ord ∧ CF n p A B ord Γ
theorem od_ex {l : List Nat} {d : Nat} (h : d ∈ l) : ∃ i, i < l.length ∧ od l i = d := by
  obtain ⟨i, hi, e⟩ := List.mem_iff_getElem.mp h
  refine ⟨i, hi, ?_⟩
  unfold od
  rw [List.getD_eq_getElem?_getD, List.getElem?_eq_getElem hi]
  exact e
theorem CM_congr {p : Nat} {A B : Nat → Nat} {K K' : Nat → Int} {a b : Nat} (e : ∀ j, j < p → K j = K' j) : CM p A B K a b = CM p A B K' a b := zs_congr p fun j hj => by rw [e j hj]
section CIS
variable {T n p : Nat} {A B : Nat → Nat} {ord : List Nat} {Γ G : Nat → Nat → Nat → Int32}
theorem CB.congr {c d : Nat} (h : CB c d Γ) (e : ∀ j, G c d j = Γ c d j) (e7 : (Γ 5 0 7).toInt ≤ (G 5 0 7).toInt) : CB c d G := by
  obtain ⟨a, b, c1, c2⟩ := h
  unfold CB
  rw [e, e, e]
  exact ⟨a, b, c1, by omega⟩
theorem CD.congr {d : Nat} (h : CD d Γ) (e0 : ∀ j, G 0 d j = Γ 0 d j) (e1 : ∀ j, G 1 d j = Γ 1 d j) (e2 : ∀ j, j < 4 ∨ j = 8 → G 2 d j = Γ 2 d j) (e7 : (Γ 5 0 7).toInt ≤ (G 5 0 7).toInt) : CD d G := by
  obtain ⟨a1, a2, a3, a4, a5, a6, a7, a8, a9⟩ := h
  unfold CD
  rw [e2 0 (by omega), e2 1 (by omega), e2 2 (by omega), e2 3 (by omega), e2 8 (by omega), e0 0, e1 0, e0 2]
  exact ⟨a1, fun z => (a2 z).congr e0 e7, fun z => (a3 z).congr e1 e7, a4, a5, a6, a7, a8, a9⟩
theorem RX.congr (h : RX n Γ) (e0 : ∀ d j, G 0 d j = Γ 0 d j) (e1 : ∀ d j, G 1 d j = Γ 1 d j) : RX n G := fun i j hi hj hne => by
  rw [e0, e0, e0, e0, e1, e1, e1, e1]
  exact h i j hi hj hne
theorem CP.congr {j : Nat} (h : CP A B j Γ) (e4 : ∀ i, G 4 j i = Γ 4 j i) : CP A B j G := by
  unfold CP at *
  rw [e4, e4, e4, e4]
  exact h
theorem CG.congr (h : CG T n Γ) (e5 : ∀ j, G 5 0 j = Γ 5 0 j) (e3 : G 3 0 1 = Γ 3 0 1) (e1 : ∀ j, G 1 j 0 = Γ 1 j 0) : CG T n G := by
  unfold CG at *
  rw [e5 3, e5 4, e5 5, e5 6, e5 7, e3, sp_sum_congr n (f := fun j => if G 1 j 0 = 0 then (0 : Int32) else 1) (g := fun j => if Γ 1 j 0 = 0 then 0 else 1) (fun j _ => by rw [e1])]
  exact h
theorem CF.congr (h : CF n p A B ord Γ) (e5 : G 5 0 5 = Γ 5 0 5) (e3 : G 3 0 1 = Γ 3 0 1) (e2 : ∀ d j, j = 7 ∨ j = 8 → G 2 d j = Γ 2 d j) (e4 : ∀ i j, G 4 i j = Γ 4 i j) : CF n p A B ord G := by
  obtain ⟨h1, h2⟩ := h
  refine ⟨fun z d hd => by rw [e2 d 8 (by omega)]; exact h1 (e5.symm.trans z) d hd, fun z => ?_⟩
  obtain ⟨q1, q2⟩ := h2 (fun y => z (e5.trans y))
  refine ⟨fun i hi => by rw [e2 _ 7 (by omega)]; exact q1 i hi, ?_⟩
  rw [frE.kc (Γ := Γ) e4, e3]
  have e7 : (fun i => (G 2 (od ord i) 7).toInt) = fun i => (Γ 2 (od ord i) 7).toInt := funext fun i => by rw [e2 _ 7 (by omega)]
  have e8 : (fun i => (G 2 (od ord i) 8).toInt) = fun i => (Γ 2 (od ord i) 8).toInt := funext fun i => by rw [e2 _ 8 (by omega)]
  rw [e7, e8]
  exact q2
/-- what doesn't matter between calls -/
def irr (c j : Nat) : Prop := c = 9 ∨ c = 10 ∨ (c = 3 ∧ j = 2) ∨ 11 ≤ c
theorem CI.congr (h : CI T n p A B ord Γ) (e : ∀ c i j, ¬ irr c j → G c i j = Γ c i j) : CI T n p A B ord G := by
  obtain ⟨h1, h2, h3, h4, h5, h6⟩ := h
  have q : ∀ c i j, (c ≤ 2 ∨ c = 4 ∨ c = 5 ∨ (c = 3 ∧ j = 1)) → G c i j = Γ c i j := fun c i j z => e c i j (by unfold irr; omega)
  exact ⟨h1.congr (fun j => q _ _ _ (by omega)) (q _ _ _ (by omega)) (fun j => q _ _ _ (by omega)),
    fun d hd => (h2 d hd).congr (fun j => q _ _ _ (by omega)) (fun j => q _ _ _ (by omega)) (fun j _ => q _ _ _ (by omega)) (by rw [q 5 0 7 (by omega)]; exact Int.le_refl _),
    h3.congr (fun d j => q _ _ _ (by omega)) (fun d j => q _ _ _ (by omega)), fun j hj => (h4 j hj).congr (fun i => q _ _ _ (by omega)),
    h5.congr (fun i j _ => q _ _ _ (by omega)), h6.congr (q _ _ _ (by omega)) (q _ _ _ (by omega)) (fun d j _ => q _ _ _ (by omega)) (fun i j => q _ _ _ (by omega))⟩
theorem CG.mono {T' : Nat} (h : CG T n Γ) (ht : T ≤ T') : CG T' n Γ := by
  obtain ⟨a, b, c, d, e⟩ := h
  exact ⟨by omega, b, c, by omega, e⟩
theorem CI.mono {T' : Nat} (h : CI T n p A B ord Γ) (ht : T ≤ T') : CI T' n p A B ord Γ := ⟨h.1.mono ht, h.2⟩
theorem CP.kc {j : Nat} (h : CP A B j Γ) : 0 ≤ KC Γ j ∧ KC Γ j ≤ 999 := by
  unfold KC
  have := h.2.2.2.2.1
  split <;> omega
theorem CI.cj (h : CI T n p A B ord Γ) : cJ p A B Γ := fun j hj => by
  have q := h.2.2.2.1 j hj
  exact ⟨q.1, q.2.1, q.2.2.1, q.2.2.2.1, q.kc⟩
theorem CI.sc (h : CI T n p A B ord Γ) : SC Γ n p A B := ⟨h.cj, fun d hd => (h.2.1 d hd).1, h.1.2.2.2.2.1⟩
theorem CI.dst (h : CI T n p A B ord Γ) : dst Γ n := fun i j hi hj hne a b => (h.2.2.1 i j hi hj hne).1 a b
theorem CI.st (h : CI T n p A B ord Γ) {i : Nat} (hi : i < ord.length) : od ord i < n ∧ ¬ Γ 0 (od ord i) 0 = 0 := h.2.2.2.2.1.mem.mp (od_mem hi)
theorem CI.C0 (h : CI T n p A B ord Γ) (a b : Nat) (_ : a < 9) (_ : b < 9) : 0 ≤ CM p A B (KC Γ) a b := (CM_b p (fun j hj => (h.cj j hj).2.2.2.2) a b).1
theorem not_od (h : CI T n p A B ord Γ) {d : Nat} (z : d < n → Γ 0 d 0 = 0) : ∀ k, k < ord.length → d ≠ od ord k := fun k hk e => by
  obtain ⟨a, b⟩ := h.st hk
  rw [← e] at a b
  exact b (z a)
theorem keep_need (h : CI T n p A B ord Γ) {i : Nat} {a : Int32} (h1 : 0 ≤ a.toInt) (h2 : a.toInt ≤ 999) : CI T n p A B ord (u3 Γ 2 i 2 a) := by
  obtain ⟨r1, r2, r3, r4, r5, r6⟩ := h
  have F : ∀ c i' j, ¬ (c = 2 ∧ i' = i ∧ j = 2) → u3 Γ 2 i 2 a c i' j = Γ c i' j := fun c i' j z => u3_n z
  refine ⟨r1.congr (fun j => F _ _ _ (by omega)) (F _ _ _ (by omega)) (fun j => F _ _ _ (by omega)), fun d hd => ?_, r3.congr (fun d j => F _ _ _ (by omega)) (fun d j => F _ _ _ (by omega)), fun j hj => (r4 j hj).congr (fun i => F _ _ _ (by omega)), r5.congr (fun i j _ => F _ _ _ (by omega)), r6.congr (F _ _ _ (by omega)) (F _ _ _ (by omega)) (fun d j _ => F _ _ _ (by omega)) (fun i j => F _ _ _ (by omega))⟩
  have e7 : (Γ 5 0 7).toInt ≤ (u3 Γ 2 i 2 a 5 0 7).toInt := by rw [F 5 0 7 (by omega)]; exact Int.le_refl _
  by_cases c : d = i
  · subst c
    obtain ⟨a1, a2, a3, a4, a5, a6, a7, a8, a9⟩ := r2 d hd
    unfold CD
    rw [u3_s, F 2 d 0 (by omega), F 2 d 1 (by omega), F 2 d 3 (by omega), F 2 d 8 (by omega), F 0 d 0 (by omega), F 1 d 0 (by omega), F 0 d 2 (by omega)]
    exact ⟨a1, fun z => (a2 z).congr (fun j => F _ _ _ (by omega)) e7, fun z => (a3 z).congr (fun j => F _ _ _ (by omega)) e7, a4, a5, a6, a7, ⟨h1, h2⟩, a9⟩
  · exact (r2 d hd).congr (fun j => F _ _ _ (by omega)) (fun j => F _ _ _ (by omega)) (fun j _ => F _ _ _ (by omega)) e7
theorem keep_source (h : CI T n p A B ord Γ) (hf : Γ 5 0 5 = 0) {a : Int32} (h1 : 0 ≤ a.toInt) (h2 : a.toInt ≤ 9999) : CI T n p A B ord (u3 Γ 3 0 1 a) := by
  obtain ⟨r1, r2, r3, r4, r5, r6⟩ := h
  have F : ∀ c i' j, ¬ (c = 3 ∧ j = 1) → u3 Γ 3 0 1 a c i' j = Γ c i' j := fun c i' j z => u3_n (by omega)
  refine ⟨?_, fun d hd => (r2 d hd).congr (fun j => F _ _ _ (by omega)) (fun j => F _ _ _ (by omega)) (fun j _ => F _ _ _ (by omega)) (by rw [F 5 0 7 (by omega)]; exact Int.le_refl _), r3.congr (fun d j => F _ _ _ (by omega)) (fun d j => F _ _ _ (by omega)), fun j hj => (r4 j hj).congr (fun i => F _ _ _ (by omega)), r5.congr (fun i j _ => F _ _ _ (by omega)), ⟨fun _ d hd => ?_, fun z => ?_⟩⟩
  · obtain ⟨a1, a2, a3, a4, a5, a6⟩ := r1
    unfold CG
    rw [F 5 0 3 (by omega), F 5 0 4 (by omega), F 5 0 5 (by omega), F 5 0 6 (by omega), F 5 0 7 (by omega), u3_s, sp_sum_congr n (f := fun j => if u3 Γ 3 0 1 a 1 j 0 = 0 then (0 : Int32) else 1) (g := fun j => if Γ 1 j 0 = 0 then 0 else 1) (fun j _ => by rw [F 1 j 0 (by omega)])]
    exact ⟨a1, a2, a3, a4, ⟨h1, h2⟩, a6⟩
  · rw [F 2 d 8 (by omega)]
    exact r6.1 hf d hd
  · rw [F 5 0 5 (by omega)] at z
    exact absurd hf z
theorem keep_pipeflag (h : CI T n p A B ord Γ) (hf : Γ 5 0 5 = 0) {i : Nat} {v : Int32} (hv : v = 0 ∨ v = 1) : CI T n p A B ord (u3 Γ 4 i 3 v) := by
  obtain ⟨r1, r2, r3, r4, r5, r6⟩ := h
  have F : ∀ c i' j, ¬ (c = 4 ∧ i' = i ∧ j = 3) → u3 Γ 4 i 3 v c i' j = Γ c i' j := fun c i' j z => u3_n z
  refine ⟨r1.congr (fun j => F _ _ _ (by omega)) (F _ _ _ (by omega)) (fun j => F _ _ _ (by omega)), fun d hd => (r2 d hd).congr (fun j => F _ _ _ (by omega)) (fun j => F _ _ _ (by omega)) (fun j _ => F _ _ _ (by omega)) (by rw [F 5 0 7 (by omega)]; exact Int.le_refl _), r3.congr (fun d j => F _ _ _ (by omega)) (fun d j => F _ _ _ (by omega)), fun j hj => ?_, r5.congr (fun i j _ => F _ _ _ (by omega)), ⟨fun _ d hd => ?_, fun z => ?_⟩⟩
  · obtain ⟨a1, a2, a3, a4, a5, a6⟩ := r4 j hj
    unfold CP
    rw [F 4 j 0 (by omega), F 4 j 1 (by omega), F 4 j 2 (by omega)]
    refine ⟨a1, a2, a3, a4, a5, ?_⟩
    by_cases c : j = i
    · subst c
      rw [u3_s]
      exact hv
    · rw [F 4 j 3 (by omega)]
      exact a6
  · rw [F 2 d 8 (by omega)]
    exact r6.1 hf d hd
  · rw [F 5 0 5 (by omega)] at z
    exact absurd hf z
end CIS
