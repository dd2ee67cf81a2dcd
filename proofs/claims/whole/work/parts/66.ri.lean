/-! ===== how the class and the model stand to each other ===== -/
def RG (T n p : Nat) (Γ : Nat → Nat → Nat → Int32) : Prop :=
  Γ 11 0 3 = nI n ∧ Γ 11 0 24 = nI p ∧ Γ 11 0 0 = Γ 5 0 3 ∧ (0 ≤ (Γ 5 0 3).toInt ∧ (Γ 5 0 3).toInt ≤ 1000) ∧ (0 ≤ (Γ 5 0 4).toInt ∧ (Γ 5 0 4).toInt ≤ 4) ∧ Γ 11 0 1 = (if Γ 5 0 5 = 0 then Γ 5 0 4 else -1) ∧ Γ 11 0 16 = Γ 5 0 7 ∧ Γ 5 0 7 = nI T ∧ Γ 11 0 23 = Γ 5 0 8 ∧ Γ 11 0 2 = Γ 3 0 1 ∧ (0 ≤ (Γ 3 0 1).toInt ∧ (Γ 3 0 1).toInt ≤ 9999) ∧ Γ 5 0 6 = sp_sum (fun j => if Γ 13 14 j = 0 then 0 else 1) n
def RD (T d : Nat) (Γ : Nat → Nat → Nat → Int32) : Prop :=
  (Γ 2 d 0 = nI (d + 1) ∧ Γ 12 4 d = Γ 2 d 1 ∧ Γ 12 5 d = Γ 2 d 2 ∧ Γ 12 6 d = Γ 2 d 3 ∧ Γ 12 17 d = Γ 2 d 8 ∧ Γ 12 18 d = Γ 2 d 9 ∧ Γ 12 19 d = Γ 2 d 10 ∧ Γ 12 20 d = Γ 2 d 11 ∧ Γ 12 21 d = Γ 2 d 12 ∧ Γ 12 22 d = Γ 2 d 13) ∧
  ((Γ 13 10 d = 0 ↔ Γ 0 d 0 = 0) ∧ (Γ 13 14 d = 0 ↔ Γ 1 d 0 = 0)) ∧
  (¬ Γ 0 d 0 = 0 → Γ 12 7 d = Γ 0 d 1 ∧ Γ 12 8 d = Γ 0 d 2 ∧ Γ 12 9 d = Γ 0 d 3 ∧ (Γ 13 15 d = 0 ↔ Γ 2 d 6 = 0) ∧ (0 ≤ (Γ 0 d 2).toInt ∧ (Γ 0 d 2).toInt ≤ 9999) ∧ (0 ≤ (Γ 0 d 3).toInt ∧ (Γ 0 d 3).toInt < T)) ∧
  (¬ Γ 1 d 0 = 0 → Γ 12 11 d = Γ 1 d 1 ∧ Γ 12 12 d = Γ 1 d 2 ∧ Γ 12 13 d = Γ 1 d 3 ∧ (0 ≤ (Γ 1 d 2).toInt ∧ (Γ 1 d 2).toInt ≤ 9999) ∧ (0 ≤ (Γ 1 d 3).toInt ∧ (Γ 1 d 3).toInt < T)) ∧
  (Γ 0 d 0 = 0 → Γ 2 d 8 = 0) ∧ (0 ≤ (Γ 2 d 8).toInt ∧ (Γ 2 d 8).toInt ≤ 9999) ∧ (0 ≤ (Γ 2 d 1).toInt ∧ (Γ 2 d 1).toInt ≤ 9999) ∧ (0 ≤ (Γ 2 d 3).toInt ∧ (Γ 2 d 3).toInt ≤ (Γ 2 d 1).toInt) ∧ (0 ≤ (Γ 2 d 2).toInt ∧ (Γ 2 d 2).toInt ≤ 999)
def RX (n : Nat) (Γ : Nat → Nat → Nat → Int32) : Prop := ∀ i j, i < n → j < n → i ≠ j →
  (¬ Γ 0 i 0 = 0 → ¬ Γ 0 j 0 = 0 → (Γ 0 i 3).toInt ≠ (Γ 0 j 3).toInt) ∧ (¬ Γ 0 i 0 = 0 → ¬ Γ 1 j 0 = 0 → (Γ 0 i 3).toInt ≠ (Γ 1 j 3).toInt) ∧ (¬ Γ 1 i 0 = 0 → ¬ Γ 1 j 0 = 0 → (Γ 1 i 3).toInt ≠ (Γ 1 j 3).toInt)
def RP (A B : Nat → Nat) (j : Nat) (Γ : Nat → Nat → Nat → Int32) : Prop :=
  (Γ 12 25 j = nI (A j) ∧ A j ≤ 8 ∧ Γ 12 26 j = nI (B j) ∧ B j < 8 ∧ A j ≠ B j) ∧ Γ 4 j 0 = nI (nu (A j)) ∧ Γ 4 j 1 = nI (nu (B j)) ∧ Γ 12 27 j = Γ 4 j 2 ∧ (1 ≤ (Γ 4 j 2).toInt ∧ (Γ 4 j 2).toInt ≤ 999) ∧ (Γ 13 28 j = 0 ↔ Γ 4 j 3 = 0)
def RF (n p : Nat) (A B : Nat → Nat) (ord : List Nat) (Γ : Nat → Nat → Nat → Int32) : Prop :=
  (Γ 5 0 5 = 0 → ∀ d, d < n → Γ 2 d 8 = 0) ∧ (¬ Γ 5 0 5 = 0 → (∀ i, i < ord.length → 0 ≤ (Γ 2 (od ord i) 7).toInt ∧ (Γ 2 (od ord i) 7).toInt ≤ 9999) ∧ SEQ (CM p (nuf A) (nuf B) (KG Γ)) (Γ 3 0 1).toInt (od ord) (fun i => (Γ 2 (od ord i) 7).toInt) (fun i => (Γ 2 (od ord i) 8).toInt) ord.length)
/-- rows of districts and pipes that there aren't yet -/
def RZ (n p : Nat) (Γ : Nat → Nat → Nat → Int32) : Prop := (∀ d, n ≤ d → (Γ 12 6 d = 0 ∧ Γ 12 17 d = 0 ∧ Γ 12 18 d = 0 ∧ Γ 12 19 d = 0 ∧ Γ 12 20 d = 0 ∧ Γ 12 21 d = 0 ∧ Γ 12 22 d = 0) ∧ Γ 13 10 d = 0 ∧ Γ 13 14 d = 0) ∧ ∀ j, p ≤ j → Γ 13 28 j = 0
def RI (T n p : Nat) (A B : Nat → Nat) (ord : List Nat) (Γ : Nat → Nat → Nat → Int32) : Prop :=
  RG T n p Γ ∧ (∀ d, d < n → RD T d Γ) ∧ RX n Γ ∧ (∀ j, j < p → RP A B j Γ) ∧ ORD Γ n ord ∧ RF n p A B ord Γ ∧ RZ n p Γ
section RIS
variable {T n p : Nat} {A B : Nat → Nat} {ord : List Nat} {Γ G : Nat → Nat → Nat → Int32}
theorem RD.congr {d : Nat} (h : RD T d Γ) (e0 : ∀ j, G 0 d j = Γ 0 d j) (e1 : ∀ j, G 1 d j = Γ 1 d j) (e2 : ∀ j, j ≠ 7 → G 2 d j = Γ 2 d j) (e12 : ∀ i, i < 23 → G 12 i d = Γ 12 i d) (e13 : ∀ i, i ≠ 28 → G 13 i d = Γ 13 i d) : RD T d G := by
  unfold RD at *
  rw [e0 0, e0 1, e0 2, e0 3, e1 0, e1 1, e1 2, e1 3, e2 0 (by omega), e2 1 (by omega), e2 2 (by omega), e2 3 (by omega), e2 6 (by omega), e2 8 (by omega), e2 9 (by omega), e2 10 (by omega), e2 11 (by omega), e2 12 (by omega), e2 13 (by omega), e12 4 (by omega), e12 5 (by omega), e12 6 (by omega), e12 7 (by omega), e12 8 (by omega), e12 9 (by omega), e12 11 (by omega), e12 12 (by omega), e12 13 (by omega), e12 17 (by omega), e12 18 (by omega), e12 19 (by omega), e12 20 (by omega), e12 21 (by omega), e12 22 (by omega), e13 10 (by decide), e13 14 (by decide), e13 15 (by decide)]
  exact h
theorem RX.congr (h : RX n Γ) (e0 : ∀ d j, G 0 d j = Γ 0 d j) (e1 : ∀ d j, G 1 d j = Γ 1 d j) : RX n G := fun i j hi hj hne => by
  rw [e0, e0, e0, e0, e1, e1, e1, e1]
  exact h i j hi hj hne
theorem RP.congr {j : Nat} (h : RP A B j Γ) (e4 : ∀ i, G 4 j i = Γ 4 j i) (e12 : ∀ i, 25 ≤ i → i < 28 → G 12 i j = Γ 12 i j) (e13 : G 13 28 j = Γ 13 28 j) : RP A B j G := by
  unfold RP at *
  rw [e4, e4, e4, e4, e12 25 (by omega) (by omega), e12 26 (by omega) (by omega), e12 27 (by omega) (by omega), e13]
  exact h
theorem RG.congr (h : RG T n p Γ) (e5 : ∀ j, G 5 0 j = Γ 5 0 j) (e3 : G 3 0 1 = Γ 3 0 1) (e11 : ∀ j, j ≠ 30 → j ≠ 34 → G 11 0 j = Γ 11 0 j) (e13 : ∀ j, G 13 14 j = Γ 13 14 j) : RG T n p G := by
  unfold RG at *
  rw [e5 3, e5 4, e5 5, e5 6, e5 7, e5 8, e3, e11 0 (by omega) (by omega), e11 1 (by omega) (by omega), e11 2 (by omega) (by omega), e11 3 (by omega) (by omega), e11 16 (by omega) (by omega), e11 23 (by omega) (by omega), e11 24 (by omega) (by omega), sp_sum_congr n (f := fun j => if G 13 14 j = 0 then (0 : Int32) else 1) (g := fun j => if Γ 13 14 j = 0 then 0 else 1) (fun j _ => by rw [e13])]
  exact h
theorem KG_congr (e12 : ∀ j, G 12 27 j = Γ 12 27 j) (e13 : ∀ j, G 13 28 j = Γ 13 28 j) : KG G = KG Γ := by
  funext j
  unfold KG
  rw [e12, e13]
theorem RF.congr (h : RF n p A B ord Γ) (e5 : G 5 0 5 = Γ 5 0 5) (e3 : G 3 0 1 = Γ 3 0 1) (e2 : ∀ d j, j = 7 ∨ j = 8 → G 2 d j = Γ 2 d j) (e12 : ∀ j, G 12 27 j = Γ 12 27 j) (e13 : ∀ j, G 13 28 j = Γ 13 28 j) : RF n p A B ord G := by
  obtain ⟨h1, h2⟩ := h
  refine ⟨fun z d hd => by rw [e2 d 8 (by omega)]; exact h1 (e5.symm.trans z) d hd, fun z => ?_⟩
  obtain ⟨q1, q2⟩ := h2 (fun y => z (e5.trans y))
  refine ⟨fun i hi => by rw [e2 _ 7 (by omega)]; exact q1 i hi, ?_⟩
  rw [KG_congr e12 e13, e3]
  have e7 : (fun i => (G 2 (od ord i) 7).toInt) = fun i => (Γ 2 (od ord i) 7).toInt := funext fun i => by rw [e2 _ 7 (by omega)]
  have e8 : (fun i => (G 2 (od ord i) 8).toInt) = fun i => (Γ 2 (od ord i) 8).toInt := funext fun i => by rw [e2 _ 8 (by omega)]
  rw [e7, e8]
  exact q2
theorem RZ.congr (h : RZ n p Γ) (e12 : ∀ i d, i < 23 → n ≤ d → G 12 i d = Γ 12 i d) (e13 : ∀ d, n ≤ d → G 13 10 d = Γ 13 10 d ∧ G 13 14 d = Γ 13 14 d) (e28 : ∀ j, p ≤ j → G 13 28 j = Γ 13 28 j) : RZ n p G := by
  obtain ⟨h1, h2⟩ := h
  refine ⟨fun d hd => ?_, fun j hj => by rw [e28 j hj]; exact h2 j hj⟩
  rw [e12 6 d (by omega) hd, e12 17 d (by omega) hd, e12 18 d (by omega) hd, e12 19 d (by omega) hd, e12 20 d (by omega) hd, e12 21 d (by omega) hd, e12 22 d (by omega) hd, (e13 d hd).1, (e13 d hd).2]
  exact h1 d hd
/-- what doesn't matter between calls -/
def irr (c i j : Nat) : Prop := c = 9 ∨ c = 10 ∨ (c = 3 ∧ j = 2) ∨ (c = 11 ∧ (j = 30 ∨ j = 34)) ∨ (c = 12 ∧ (i = 29 ∨ i = 31 ∨ i = 32 ∨ i = 33)) ∨ c = 14 ∨ c = 15
theorem RI.congr (h : RI T n p A B ord Γ) (e : ∀ c i j, ¬ irr c i j → G c i j = Γ c i j) : RI T n p A B ord G := by
  obtain ⟨h1, h2, h3, h4, h5, h6, h7⟩ := h
  have q : ∀ c i j, (c ≤ 2 ∨ c = 4 ∨ c = 5 ∨ c = 13 ∨ (c = 3 ∧ j = 1) ∨ (c = 11 ∧ j ≠ 30 ∧ j ≠ 34) ∨ (c = 12 ∧ i < 28)) → G c i j = Γ c i j := fun c i j z => e c i j (by unfold irr; omega)
  exact ⟨h1.congr (fun j => q _ _ _ (by omega)) (q _ _ _ (by omega)) (fun j a b => q _ _ _ (by omega)) (fun j => q _ _ _ (by omega)),
    fun d hd => (h2 d hd).congr (fun j => q _ _ _ (by omega)) (fun j => q _ _ _ (by omega)) (fun j _ => q _ _ _ (by omega)) (fun i _ => q _ _ _ (by omega)) (fun i _ => q _ _ _ (by omega)),
    h3.congr (fun d j => q _ _ _ (by omega)) (fun d j => q _ _ _ (by omega)), fun j hj => (h4 j hj).congr (fun i => q _ _ _ (by omega)) (fun i _ _ => q _ _ _ (by omega)) (q _ _ _ (by omega)),
    h5.congr (fun i j _ => q _ _ _ (by omega)), h6.congr (q _ _ _ (by omega)) (q _ _ _ (by omega)) (fun d j _ => q _ _ _ (by omega)) (fun j => q _ _ _ (by omega)) (fun j => q _ _ _ (by omega)), h7.congr (fun i d _ _ => q _ _ _ (by omega)) (fun d _ => ⟨q _ _ _ (by omega), q _ _ _ (by omega)⟩) (fun j _ => q _ _ _ (by omega))⟩
theorem RI.thrown (h : RI T n p A B ord Γ) (k : Int32) : RI T n p A B ord (u3 Γ 11 0 34 k) := h.congr fun c i j z => u3_n (fun y => z (by unfold irr; omega))
theorem CM_congr {K K' : Nat → Int} {a b : Nat} (e : ∀ j, j < p → K j = K' j) : CM p A B K a b = CM p A B K' a b := zs_congr p fun j hj => by rw [e j hj]
theorem RI.kc (h : RI T n p A B ord Γ) {j : Nat} (hj : j < p) : KC Γ j = KG Γ j ∧ 0 ≤ KG Γ j ∧ KG Γ j ≤ 999 := by
  obtain ⟨-, -, -, h4, h5, h6⟩ := h.2.2.2.1 j hj
  unfold KC KG
  by_cases c : Γ 4 j 3 = 0
  · rw [if_pos c, if_pos (h6.mpr c), h4]
    exact ⟨rfl, by omega, by omega⟩
  · rw [if_neg c, if_neg (fun z => c (h6.mp z))]
    exact ⟨rfl, by omega, by omega⟩
theorem RI.sc (h : RI T n p A B ord Γ) : SC Γ n p (nuf A) (nuf B) := by
  refine ⟨fun j hj => ?_, fun d hd => (h.2.1 d hd).1.1, h.1.2.2.2.2.2.2.2.2.2.2.1⟩
  obtain ⟨⟨-, hA, -, hB, -⟩, h2, h3, -⟩ := h.2.2.2.1 j hj
  obtain ⟨k1, k2, k3⟩ := h.kc hj
  rw [k1]
  exact ⟨h2, nu_lt hA, h3, nu_lt (by omega), k2, k3⟩
theorem RI.pj (h : RI T n p A B ord Γ) : pJ p A B Γ := fun j hj => (h.2.2.2.1 j hj).1
theorem RI.cm (h : RI T n p A B ord Γ) : CM p (nuf A) (nuf B) (KC Γ) = CM p (nuf A) (nuf B) (KG Γ) := by
  funext a b
  exact CM_congr fun j hj => (h.kc hj).1
theorem RI.dst (h : RI T n p A B ord Γ) : dst Γ n := fun i j hi hj hne a b => (h.2.2.1 i j hi hj hne).1 a b
theorem sp_ma_iff {i j : Nat} (e1 : Γ 12 7 i = Γ 0 i 1) (e2 : Γ 12 7 j = Γ 0 j 1) (e3 : Γ 12 9 i = Γ 0 i 3) (e4 : Γ 12 9 j = Γ 0 j 3) : ¬ sp_ma Γ i j = 0 ↔ ahd Γ i j := by
  unfold sp_ma ahd
  rw [e1, e2, e3, e4]
  by_cases c : Γ 0 j 1 < Γ 0 i 1
  · rw [if_pos c]
    exact ⟨fun _ => Or.inl (Int32.lt_iff_toInt_lt.mp c), fun _ => by decide⟩
  · rw [if_neg c]
    have c' : ¬ (Γ 0 j 1).toInt < (Γ 0 i 1).toInt := fun z => c (Int32.lt_iff_toInt_lt.mpr z)
    by_cases d : Γ 0 i 1 = Γ 0 j 1
    · rw [if_pos d]
      have d' : (Γ 0 i 1).toInt = (Γ 0 j 1).toInt := by rw [d]
      by_cases f : Γ 0 j 3 ≤ Γ 0 i 3
      · rw [if_pos f]
        have := Int32.le_iff_toInt_le.mp f
        exact ⟨fun z => absurd rfl z, fun z => by omega⟩
      · rw [if_neg f]
        have : ¬ (Γ 0 j 3).toInt ≤ (Γ 0 i 3).toInt := fun z => f (Int32.le_iff_toInt_le.mpr z)
        exact ⟨fun _ => Or.inr ⟨d', by omega⟩, fun _ => by decide⟩
    · rw [if_neg d]
      have d' : ¬ (Γ 0 i 1).toInt = (Γ 0 j 1).toInt := fun z => d (Int32.toInt_inj.mp z)
      exact ⟨fun z => absurd rfl z, fun z => by omega⟩
/-- the model's rows of bids that stand are the class's -/
def RS (n : Nat) (Γ : Nat → Nat → Nat → Int32) : Prop := ∀ d, d < n → (Γ 13 10 d = 0 ↔ Γ 0 d 0 = 0) ∧ (¬ Γ 0 d 0 = 0 → Γ 12 7 d = Γ 0 d 1 ∧ Γ 12 9 d = Γ 0 d 3)
theorem RI.rs (h : RI T n p A B ord Γ) : RS n Γ := fun d hd => by
  obtain ⟨-, h2, h3, -⟩ := h.2.1 d hd
  exact ⟨h2.1, fun z => ⟨(h3 z).1, (h3 z).2.2.1⟩⟩
theorem RS.place (h : RS n Γ) (ho : ORD Γ n ord) {d : Nat} (hd : d < n) (hs : ¬ Γ 0 d 0 = 0) : sp_place Γ n d = nI (ord.countP (fun x => ahB Γ x d)) := by
  unfold sp_place
  rw [ho.1]
  refine sp_sum_cnt n fun j hj => ?_
  obtain ⟨a1, a2⟩ := h j hj
  obtain ⟨b1, b2⟩ := h d hd
  by_cases c : Γ 0 j 0 = 0
  · rw [if_pos (a1.mpr c), if_neg]
    unfold stB
    simp [c]
  · rw [if_neg (fun z => c (a1.mp z))]
    have hst : stB Γ j = true := decide_eq_true c
    have hm := sp_ma_iff (a2 c).1 (b2 hs).1 (a2 c).2 (b2 hs).2
    rw [hst, Bool.true_and]
    by_cases e : sp_ma Γ j d = 0
    · rw [if_pos e, if_neg (fun z => (hm.mpr (ahB_iff.mp z)) e)]
    · rw [if_neg e, if_pos (ahB_iff.mpr (hm.mp e))]
theorem od_ex {l : List Nat} {d : Nat} (h : d ∈ l) : ∃ i, i < l.length ∧ od l i = d := by
  obtain ⟨i, hi, e⟩ := List.mem_iff_getElem.mp h
  exact ⟨i, hi, by rw [← od_get hi]; exact e⟩
theorem RS.at (h : RS n Γ) (ho : ORD Γ n ord) (hn : n ≤ 8) {i : Nat} (hi : i < ord.length) : ∀ m, m ≤ n → sp_at Γ n (nI i) m = if od ord i < m then nI (od ord i) else -1
  | 0, _ => by rw [if_neg (Nat.not_lt_zero _)]; rfl
  | m + 1, hm => by
    have hl := ho.len
    unfold sp_at
    rw [RS.at h ho hn hi m (by omega)]
    by_cases c : Γ 13 10 m = 0
    · rw [if_pos c]
      have hne : od ord i ≠ m := fun z => by
        have := (ho.mem.mp (od_mem hi)).2
        rw [z] at this
        exact this ((h m (by omega)).1.mp c)
      by_cases d : od ord i < m
      · rw [if_pos d, if_pos (by omega)]
      · rw [if_neg d, if_neg (by omega)]
    · rw [if_neg c]
      have hs : ¬ Γ 0 m 0 = 0 := fun z => c ((h m (by omega)).1.mpr z)
      obtain ⟨k, hk, ek⟩ := od_ex (ho.mem.mpr ⟨show m < n by omega, hs⟩)
      have hp := h.place ho (show m < n by omega) hs
      rw [hp, ← ek, ho.place hk]
      by_cases e : k = i
      · subst e
        rw [if_pos rfl, if_pos (by omega)]
      · rw [if_neg (fun z => e ((nI_eq (by omega) (by omega)).mp z))]
        have hne : od ord i ≠ od ord k := fun z => e (ho.inj i k hi hk z).symm
        by_cases d : od ord i < od ord k
        · rw [if_pos d, if_pos (by omega)]
        · rw [if_neg d, if_neg (by omega)]
theorem RS.standing (h : RS n Γ) (ho : ORD Γ n ord) : sp_sum (fun j => if Γ 13 10 j = 0 then 0 else 1) n = nI ord.length := by
  have h1 := ho.1 (fun _ => true)
  rw [List.countP_true] at h1
  rw [h1]
  refine sp_sum_cnt n fun j hj => ?_
  by_cases c : Γ 0 j 0 = 0
  · rw [if_pos ((h j hj).1.mpr c), if_neg]
    unfold stB
    simp [c]
  · rw [if_neg (fun z => c ((h j hj).1.mp z)), if_pos]
    unfold stB
    simp [c]
theorem sj_of (h : RS n Γ) (ho : ORD Γ n ord) (hn : n ≤ 8) (hp : pJ p A B Γ) (hk : ∀ j, j < p → 0 ≤ KG Γ j ∧ KG Γ j ≤ 999) (hv : 0 ≤ (Γ 11 0 2).toInt ∧ (Γ 11 0 2).toInt ≤ 9999) : SJ Γ n p A B (od ord) ord.length := by
  have hl := ho.len
  refine ⟨by omega, h.standing ho, fun i hi => ?_, ho.inj, hp, hk, hv.1, hv.2⟩
  have hm := (ho.mem.mp (od_mem hi)).1
  rw [h.at ho hn hi n (Nat.le_refl _), if_pos hm]
  exact ⟨rfl, by omega⟩
theorem RI.sj (h : RI T n p A B ord Γ) (hn : n ≤ 8) : SJ Γ n p A B (od ord) ord.length :=
  sj_of h.rs h.2.2.2.2.1 hn h.pj (fun j hj => (h.kc hj).2) (by rw [h.1.2.2.2.2.2.2.2.2.2.1]; exact h.1.2.2.2.2.2.2.2.2.2.2.1)
theorem RI.en (h : RI T n p A B ord Γ) : Γ 11 0 3 = nI n := h.1.1
theorem RI.ep (h : RI T n p A B ord Γ) : Γ 11 0 24 = nI p := h.1.2.1
theorem RI.fl (h : RI T n p A B ord Γ) : Γ 11 0 1 = -1 ↔ ¬ Γ 5 0 5 = 0 := by
  have h1 := h.1.2.2.2.2.2.1
  have h2 := h.1.2.2.2.2.1
  by_cases c : Γ 5 0 5 = 0
  · rw [if_pos c] at h1
    refine ⟨fun z => ?_, fun z => absurd c z⟩
    rw [h1] at z
    rw [z] at h2
    exact absurd h2.1 (by decide)
  · rw [if_neg c] at h1
    exact ⟨fun _ => c, fun _ => h1⟩
end RIS
