/-! ===== the order of the bids that stand ===== -/
def LE7 (L L' : Nat → Nat → Nat) : Prop := ∀ c i, ¬ c = 7 → L' c i = L c i
theorem LE7.tr {L L1 L2 : Nat → Nat → Nat} (h1 : LE7 L L1) (h2 : LE7 L1 L2) : LE7 L L2 := fun c i z => (h2 c i z).trans (h1 c i z)
def l7 (L : Nat → Nat → Nat) (t b : Nat) : Nat → Nat → Nat := fun c i => if c = 7 ∧ i = t then b else L c i
theorem l7_le {L : Nat → Nat → Nat} {t b : Nat} : LE7 L (l7 L t b) := fun _ _ z => if_neg (fun q => z q.1)
theorem WI.ordU {N n p : Nat} {ord : List Nat} {L : Nat → Nat → Nat} {Γ : Nat → Nat → Nat → Int32} {o : Nat} {h h' : am_H} {ord' : List Nat} {b' m' : Nat} {g : Nat → Option Nat} (w : WI N n p ord L Γ o h) (u : LU h h' (L 6 1) (L 7 1) b' m' g) (hm : m' = ord'.length) (h1 : ∀ e ∈ ord', e < n) (h2 : ord'.length ≤ 8) (hg : ∀ j (hj : j < ord'.length), g j = some (L 2 (ord'[j]))) : WI N n p ord' (l7 L 1 b') Γ o h' := by
  subst hm
  refine w.listU (t := 1) (by decide) (n' := n) (p' := p) (ord' := ord') (L' := l7 L 1 b') (Γ' := Γ) (b' := b') (g := g) u ⟨w.1.1, w.1.2.1, h1, h2⟩ (fun c i hi => ⟨hi, if_neg (fun q => by rw [q.1] at hi; cases hi), fun _ => rfl⟩) (fun c i hi hi' => by rw [hi] at hi'; cases hi') ⟨if_pos ⟨rfl, rfl⟩, fun t' _ ht => if_neg (fun q => ht q.2)⟩ (fun t' h3 ht => ?_) (fun j hj => ?_)
  · match t', h3, ht with
    | 0, _, _ => rfl
    | 1, _, z => exact absurd rfl z
    | 2, _, _ => rfl
  · exact hg j hj
/-- put d at place k -/
def ins (l : List Nat) (k d : Nat) : List Nat := l.take k ++ d :: l.drop k
theorem ins_len {l : List Nat} {k d : Nat} (hk : k ≤ l.length) : (ins l k d).length = l.length + 1 := by
  unfold ins
  rw [List.length_append, List.length_cons, List.length_take, List.length_drop]
  omega
theorem ins_mem {l : List Nat} {k d e : Nat} (h : e ∈ ins l k d) : e = d ∨ e ∈ l := by
  unfold ins at h
  rcases List.mem_append.mp h with z | z
  · exact Or.inr (List.mem_of_mem_take z)
  · rcases List.mem_cons.mp z with q | q
    · exact Or.inl q
    · exact Or.inr (List.mem_of_mem_drop q)
theorem ins_lt {l : List Nat} {k d j : Nat} (hk : k ≤ l.length) (hj : j < k) : (ins l k d)[j]? = l[j]? := by
  unfold ins
  rw [List.getElem?_append_left (by rw [List.length_take]; omega), List.getElem?_take, if_pos hj]
theorem ins_eq {l : List Nat} {k d : Nat} (hk : k ≤ l.length) : (ins l k d)[k]? = some d := by
  unfold ins
  rw [List.getElem?_append_right (by rw [List.length_take]; omega), List.length_take, Nat.min_eq_left hk, Nat.sub_self]
  rfl
theorem ins_gt {l : List Nat} {k d j : Nat} (hk : k ≤ l.length) (hj : k < j) : (ins l k d)[j]? = l[j - 1]? := by
  unfold ins
  rw [List.getElem?_append_right (by rw [List.length_take]; omega), List.length_take, Nat.min_eq_left hk]
  obtain ⟨x, rfl⟩ : ∃ x, j = k + 1 + x := ⟨j - (k + 1), by omega⟩
  rw [show k + 1 + x - k = x + 1 by omega, List.getElem?_cons_succ, List.getElem?_drop, show k + x = k + 1 + x - 1 by omega]
def cntN (P : Nat → Bool) : Nat → Nat
  | 0 => 0
  | j + 1 => cntN P j + (if P j = true then 1 else 0)
theorem cntN_le (P : Nat → Bool) : ∀ n, cntN P n ≤ n
  | 0 => Nat.le_refl _
  | n + 1 => by have := cntN_le P n; unfold cntN; split <;> omega
theorem cntN_congr {P Q : Nat → Bool} : ∀ n, (∀ j, j < n → P j = Q j) → cntN P n = cntN Q n
  | 0, _ => rfl
  | n + 1, h => by
    unfold cntN
    rw [cntN_congr n (fun j hj => h j (by omega)), h n (by omega)]
theorem sp_sum_cnt {f : Nat → Int32} {P : Nat → Bool} : ∀ n, (∀ j, j < n → f j = if P j = true then 1 else 0) → sp_sum f n = nI (cntN P n)
  | 0, _ => rfl
  | n + 1, h => by
    show sp_sum f n + f n = nI (cntN P n + _)
    rw [sp_sum_cnt n (fun j hj => h j (by omega)), h n (by omega)]
    by_cases c : P n = true
    · rw [if_pos c, if_pos c]
      exact nI_1 _
    · rw [if_neg c, if_neg c]
      exact Int32.add_zero _
theorem ins_countP {l : List Nat} {k d : Nat} (P : Nat → Bool) : (ins l k d).countP P = l.countP P + (if P d = true then 1 else 0) := by
  unfold ins
  rw [List.countP_append, List.countP_cons]
  have h1 : (l.take k).countP P + (l.drop k).countP P = l.countP P := by rw [← List.countP_append, List.take_append_drop]
  omega
theorem cnt_list {P : Nat → Bool} : ∀ (l : List Nat), cntN (fun j => P (od l j)) l.length = l.countP P := by
  intro l
  have key : ∀ (m : Nat), m ≤ l.length → cntN (fun j => P (od l j)) m = (l.take m).countP P := fun m => by
    induction m with
    | zero => intro _; rfl
    | succ m ih =>
      intro hm
      have h1 : l.take (m + 1) = l.take m ++ [od l m] := by
        unfold od
        rw [List.take_succ, List.getD_eq_getElem?_getD, List.getElem?_eq_getElem (by omega)]
        rfl
      rw [h1, List.countP_append]
      show cntN (fun j => P (od l j)) m + _ = _
      rw [ih (by omega), List.countP_singleton]
  rw [key l.length (Nat.le_refl _), List.take_length]
/-- i's bid is ahead of j's -/
def ahd (Γ : Nat → Nat → Nat → Int32) (i j : Nat) : Prop := (Γ 0 j 1).toInt < (Γ 0 i 1).toInt ∨ ((Γ 0 i 1).toInt = (Γ 0 j 1).toInt ∧ (Γ 0 i 3).toInt < (Γ 0 j 3).toInt)
theorem sp_ahead_iff {Γ : Nat → Nat → Nat → Int32} {i j : Nat} : ¬ sp_ahead Γ i j = 0 ↔ ahd Γ i j := by
  unfold sp_ahead ahd
  by_cases e : Γ 0 i 1 = Γ 0 j 1
  · rw [if_pos e]
    have e' : (Γ 0 i 1).toInt = (Γ 0 j 1).toInt := by rw [e]
    by_cases c : Γ 0 j 3 ≤ Γ 0 i 3
    · rw [if_pos c]
      have := Int32.le_iff_toInt_le.mp c
      exact ⟨fun z => absurd rfl z, fun z => by omega⟩
    · rw [if_neg c]
      have : ¬ (Γ 0 j 3).toInt ≤ (Γ 0 i 3).toInt := fun z => c (Int32.le_iff_toInt_le.mpr z)
      exact ⟨fun _ => Or.inr ⟨e', by omega⟩, fun _ => by decide⟩
  · rw [if_neg e]
    have e' : ¬ (Γ 0 i 1).toInt = (Γ 0 j 1).toInt := fun z => e (Int32.toInt_inj.mp z)
    by_cases c : Γ 0 i 1 ≤ Γ 0 j 1
    · rw [if_pos c]
      have := Int32.le_iff_toInt_le.mp c
      exact ⟨fun z => absurd rfl z, fun z => by omega⟩
    · rw [if_neg c]
      have : ¬ (Γ 0 i 1).toInt ≤ (Γ 0 j 1).toInt := fun z => c (Int32.le_iff_toInt_le.mpr z)
      exact ⟨fun _ => Or.inl (by omega), fun _ => by decide⟩
noncomputable def ahB (Γ : Nat → Nat → Nat → Int32) (i j : Nat) : Bool := @decide (ahd Γ i j) (Classical.propDecidable _)
theorem ahB_iff {Γ : Nat → Nat → Nat → Int32} {i j : Nat} : ahB Γ i j = true ↔ ahd Γ i j := by unfold ahB; exact @decide_eq_true_iff _ (Classical.propDecidable _)
def stB (Γ : Nat → Nat → Nat → Int32) (j : Nat) : Bool := decide (¬ Γ 0 j 0 = 0)
/-- l is the order of the bids that stand of the first m districts -/
def ORD (Γ : Nat → Nat → Nat → Int32) (m : Nat) (l : List Nat) : Prop :=
  (∀ P : Nat → Bool, l.countP P = cntN (fun j => stB Γ j && P j) m) ∧ (∀ i j, i < j → j < l.length → ahd Γ (od l i) (od l j)) ∧ (∀ e ∈ l, e < m)
/-- no two bids that stand were told at once -/
def dst (Γ : Nat → Nat → Nat → Int32) (n : Nat) : Prop := ∀ i j, i < n → j < n → i ≠ j → ¬ Γ 0 i 0 = 0 → ¬ Γ 0 j 0 = 0 → (Γ 0 i 3).toInt ≠ (Γ 0 j 3).toInt
theorem ORD.len {Γ : Nat → Nat → Nat → Int32} {m : Nat} {l : List Nat} (h : ORD Γ m l) : l.length ≤ m := by
  have h1 := h.1 (fun _ => true)
  rw [List.countP_true] at h1
  rw [h1]
  exact cntN_le _ _
theorem cntN_pos {P : Nat → Bool} : ∀ n, 0 < cntN P n → ∃ j, j < n ∧ P j = true
  | 0, h => absurd h (Nat.not_lt_zero _)
  | n + 1, h => by
    unfold cntN at h
    by_cases c : P n = true
    · exact ⟨n, by omega, c⟩
    · rw [if_neg c] at h
      obtain ⟨j, a, b⟩ := cntN_pos n (by omega)
      exact ⟨j, by omega, b⟩
theorem cntN_in {P : Nat → Bool} : ∀ n j, j < n → P j = true → 0 < cntN P n
  | 0, j, h, _ => absurd h (Nat.not_lt_zero _)
  | n + 1, j, h, hp => by
    unfold cntN
    by_cases c : j = n
    · subst c
      rw [if_pos hp]
      omega
    · have := cntN_in n j (by omega) hp
      omega
theorem ORD.mem {Γ : Nat → Nat → Nat → Int32} {m : Nat} {l : List Nat} (h : ORD Γ m l) {e : Nat} : e ∈ l ↔ e < m ∧ ¬ Γ 0 e 0 = 0 := by
  have h1 := h.1 (fun x => x == e)
  constructor
  · intro he
    refine ⟨h.2.2 e he, ?_⟩
    have : 0 < l.countP (fun x => x == e) := List.countP_pos_iff.mpr ⟨e, he, by simp⟩
    rw [h1] at this
    obtain ⟨j, -, a⟩ := cntN_pos m this
    simp only [Bool.and_eq_true, beq_iff_eq] at a
    rw [← a.2]
    exact of_decide_eq_true a.1
  · rintro ⟨he, hs⟩
    have : 0 < l.countP (fun x => x == e) := by
      rw [h1]
      exact cntN_in m e he (by simp [stB, hs])
    obtain ⟨a, b, c⟩ := List.countP_pos_iff.mp this
    rw [← (beq_iff_eq.mp c)]
    exact b
theorem od_mem {l : List Nat} {i : Nat} (h : i < l.length) : od l i ∈ l := by
  unfold od
  rw [List.getD_eq_getElem?_getD, List.getElem?_eq_getElem h]
  exact List.getElem_mem h
theorem ahd_irr {Γ : Nat → Nat → Nat → Int32} {i : Nat} : ¬ ahd Γ i i := by unfold ahd; omega
theorem ahd_tr {Γ : Nat → Nat → Nat → Int32} {i j k : Nat} (h1 : ahd Γ i j) (h2 : ahd Γ j k) : ahd Γ i k := by unfold ahd at *; omega
theorem ahd_asym {Γ : Nat → Nat → Nat → Int32} {i j : Nat} (h1 : ahd Γ i j) : ¬ ahd Γ j i := by unfold ahd at *; omega
theorem ORD.inj {Γ : Nat → Nat → Nat → Int32} {m : Nat} {l : List Nat} (h : ORD Γ m l) (i k : Nat) (hi : i < l.length) (hk : k < l.length) (e : od l i = od l k) : i = k := by
  rcases Nat.lt_trichotomy i k with c | c | c
  · have := h.2.1 i k c hk
    rw [e] at this
    exact absurd this ahd_irr
  · exact c
  · have := h.2.1 k i c hi
    rw [e] at this
    exact absurd this ahd_irr
/-- how many are ahead of the one at place i: i -/
theorem ORD.place {Γ : Nat → Nat → Nat → Int32} {m : Nat} {l : List Nat} (h : ORD Γ m l) {i : Nat} (hi : i < l.length) : l.countP (fun x => ahB Γ x (od l i)) = i := by
  rw [← cnt_list]
  have key : ∀ n, n ≤ l.length → cntN (fun j => ahB Γ (od l j) (od l i)) n = min n i := fun n => by
    induction n with
    | zero => intro _; rw [Nat.zero_min]; rfl
    | succ n ih =>
      intro hn
      unfold cntN
      rw [ih (by omega)]
      by_cases c : n < i
      · rw [if_pos (ahB_iff.mpr (h.2.1 n i c hi))]
        omega
      · have hnot : ¬ ahd Γ (od l n) (od l i) := by
          by_cases e : n = i
          · subst e
            exact ahd_irr
          · exact ahd_asym (h.2.1 i n (by omega) (by omega))
        rw [if_neg (fun z => hnot (ahB_iff.mp z))]
        omega
  rw [key l.length (Nat.le_refl _)]
  omega
theorem od_ins_lt {l : List Nat} {k d j : Nat} (hk : k ≤ l.length) (hj : j < k) : od (ins l k d) j = od l j := by
  unfold od
  rw [List.getD_eq_getElem?_getD, List.getD_eq_getElem?_getD, ins_lt hk hj]
theorem od_ins_eq {l : List Nat} {k d : Nat} (hk : k ≤ l.length) : od (ins l k d) k = d := by
  unfold od
  rw [List.getD_eq_getElem?_getD, ins_eq hk]
  rfl
theorem od_ins_gt {l : List Nat} {k d j : Nat} (hk : k ≤ l.length) (hj : k < j) : od (ins l k d) j = od l (j - 1) := by
  unfold od
  rw [List.getD_eq_getElem?_getD, List.getD_eq_getElem?_getD, ins_gt hk hj]
/-- the next district's bid put in its place -/
theorem ORD.ins {Γ : Nat → Nat → Nat → Int32} {m n : Nat} {l : List Nat} (h : ORD Γ m l) (hm : m < n) (hs : ¬ Γ 0 m 0 = 0) (hd : dst Γ n) : ORD Γ (m + 1) (ins l (l.countP (fun x => ahB Γ x m)) m) := by
  obtain ⟨h1, h2, h3⟩ := id h
  obtain ⟨k, ek⟩ : ∃ k, k = l.countP (fun x => ahB Γ x m) := ⟨_, rfl⟩
  rw [← ek]
  have hk : k ≤ l.length := by rw [ek]; exact List.countP_le_length
  have mono : ∀ j, j < l.length → ahd Γ (od l j) m → ∀ i, i < j → ahd Γ (od l i) m := fun j hj z i hi => ahd_tr (h2 i j hi hj) z
  have tri : ∀ j, j < l.length → ahd Γ (od l j) m ∨ ahd Γ m (od l j) := fun j hj => by
    obtain ⟨q1, q2⟩ := h.mem.mp (od_mem hj)
    have := hd (od l j) m (by omega) hm (by omega) q2 hs
    unfold ahd
    omega
  have key : ∀ q, q ≤ l.length → (∀ j, j < q → ahd Γ (od l j) m) ∨ cntN (fun j => ahB Γ (od l j) m) q < q := fun q => by
    induction q with
    | zero => intro _; exact Or.inl (fun j hj => absurd hj (Nat.not_lt_zero _))
    | succ q ih =>
      intro hq
      rcases ih (by omega) with z | z
      · by_cases c : ahd Γ (od l q) m
        · exact Or.inl fun j hj => by
            by_cases e : j = q
            · rw [e]; exact c
            · exact z j (by omega)
        · right
          unfold cntN
          have := cntN_le (fun j => ahB Γ (od l j) m) q
          rw [if_neg (fun y => c (ahB_iff.mp y))]
          omega
      · right
        unfold cntN
        split <;> omega
  have ek2 : k = cntN (fun j => ahB Γ (od l j) m) l.length := ek.trans (cnt_list l).symm
  have hin : ∀ j, j < l.length → (ahd Γ (od l j) m ↔ j < k) := by
    have cnt : ∀ q, q ≤ l.length → ∀ r, (∀ j, j < r → ahd Γ (od l j) m) → (∀ j, r ≤ j → j < l.length → ¬ ahd Γ (od l j) m) → r ≤ l.length → cntN (fun j => ahB Γ (od l j) m) q = min q r := fun q => by
      induction q with
      | zero => intro _ r _ _ _; rw [Nat.zero_min]; rfl
      | succ q ih =>
        intro hq r a b hr
        unfold cntN
        rw [ih (by omega) r a b hr]
        by_cases c : q < r
        · rw [if_pos (ahB_iff.mpr (a q c))]
          omega
        · rw [if_neg (fun z => b q (by omega) (by omega) (ahB_iff.mp z))]
          omega
    have ex : ∃ r, r ≤ l.length ∧ (∀ j, j < r → ahd Γ (od l j) m) ∧ (∀ j, r ≤ j → j < l.length → ¬ ahd Γ (od l j) m) := by
      have go : ∀ q, q ≤ l.length → ∃ r, r ≤ q ∧ (∀ j, j < r → ahd Γ (od l j) m) ∧ (∀ j, r ≤ j → j < q → ¬ ahd Γ (od l j) m) := fun q => by
        induction q with
        | zero => intro _; exact ⟨0, Nat.le_refl _, fun j hj => absurd hj (Nat.not_lt_zero _), fun j _ hj => absurd hj (Nat.not_lt_zero _)⟩
        | succ q ih =>
          intro hq
          obtain ⟨r, r1, r2, r3⟩ := ih (by omega)
          by_cases c : ahd Γ (od l q) m
          · refine ⟨q + 1, Nat.le_refl _, fun j hj => ?_, fun j a b => absurd b (by omega)⟩
            by_cases e : j = q
            · rw [e]; exact c
            · exact mono q (by omega) c j (by omega)
          · refine ⟨r, by omega, r2, fun j a b => ?_⟩
            by_cases e : j = q
            · rw [e]; exact c
            · exact r3 j a (by omega)
      exact go l.length (Nat.le_refl _)
    obtain ⟨r, r1, r2, r3⟩ := ex
    have hkr : k = r := by rw [ek2, cnt l.length (Nat.le_refl _) r r2 r3 r1]; omega
    intro j hj
    rw [hkr]
    constructor
    · intro z
      rcases Nat.lt_or_ge j r with c | c
      · exact c
      · exact absurd z (r3 j c hj)
    · intro z
      exact r2 j z
  have hlen := ins_len (d := m) hk
  refine ⟨fun P => ?_, fun i j hij hj => ?_, fun e he => ?_⟩
  · rw [ins_countP, h1 P]
    show _ = cntN (fun j => stB Γ j && P j) m + (if (stB Γ m && P m) = true then 1 else 0)
    have : stB Γ m = true := decide_eq_true hs
    rw [this, Bool.true_and]
  · rw [hlen] at hj
    rcases Nat.lt_trichotomy j k with c | c | c
    · rw [od_ins_lt hk (by omega), od_ins_lt hk c]
      exact h2 i j hij (by omega)
    · subst c
      rw [od_ins_lt hk hij, od_ins_eq hk]
      exact (hin i (by omega)).mpr hij
    · rw [od_ins_gt hk c]
      rcases Nat.lt_trichotomy i k with d | d | d
      · rw [od_ins_lt hk d]
        exact h2 i (j - 1) (by omega) (by omega)
      · subst d
        rw [od_ins_eq hk]
        rcases tri (j - 1) (by omega) with q | q
        · have := (hin (j - 1) (by omega)).mp q
          omega
        · exact q
      · rw [od_ins_gt hk d]
        exact h2 (i - 1) (j - 1) (by omega) (by omega)
  · rcases ins_mem he with z | z
    · omega
    · have := h3 e z
      omega
theorem ORD.skip {Γ : Nat → Nat → Nat → Int32} {m : Nat} {l : List Nat} (h : ORD Γ m l) (hs : Γ 0 m 0 = 0) : ORD Γ (m + 1) l := by
  obtain ⟨h1, h2, h3⟩ := h
  refine ⟨fun P => ?_, h2, fun e he => by have := h3 e he; omega⟩
  rw [h1 P]
  show _ = cntN (fun j => stB Γ j && P j) m + (if (stB Γ m && P m) = true then 1 else 0)
  have : stB Γ m = false := decide_eq_false (fun z => z hs)
  rw [this, Bool.false_and, if_neg (by decide)]
  rfl
theorem ORD.nil {Γ : Nat → Nat → Nat → Int32} : ORD Γ 0 [] := ⟨fun _ => rfl, fun _ _ _ h => absurd h (Nat.not_lt_zero _), fun _ h => by cases h⟩
theorem ORD.congr {Γ G : Nat → Nat → Nat → Int32} {m : Nat} {l : List Nat} (h : ORD Γ m l) (e : ∀ i j, j ≤ 3 → G 0 i j = Γ 0 i j) : ORD G m l := by
  obtain ⟨h1, h2, h3⟩ := h
  refine ⟨fun P => ?_, fun i j a b => ?_, h3⟩
  · rw [h1 P]
    exact cntN_congr m fun j _ => by unfold stB; rw [e j 0 (by omega)]
  · have := h2 i j a b
    unfold ahd at *
    rw [e _ 1 (by omega), e _ 1 (by omega), e _ 3 (by omega), e _ 3 (by omega)]
    exact this
