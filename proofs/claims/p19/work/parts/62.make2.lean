theorem am_same.tr {h1 h2 h3 : am_H} {q : Nat} (a : am_same h1 h2 q) (b : am_same h2 h3 q) : am_same h1 h3 q := by
  obtain ⟨a1, a2, a3, a4, a5, a6, a7⟩ := a
  obtain ⟨b1, b2, b3, b4, b5, b6, b7⟩ := b
  exact ⟨b1.trans a1, b2.trans a2, fun f => (b3 f).trans (a3 f), fun f => (b4 f).trans (a4 f), b5.trans a5, b6.trans a6, b7.trans a7⟩
theorem hB0_same {h : am_H} {s q : Nat} (e : q ≠ s) : am_same h (hB0 h s) q := (((((am_same_nw e).tr (am_same_sI e)).tr (am_same_sI e)).tr (am_same_sI e)).tr (am_same_sI e))
theorem hD_same {h : am_H} {a s b q : Nat} {i t e : Int32} (h1 : q ≠ a) (h2 : q ≠ s) (h3 : q ≠ b) : am_same h (hD h a s b i t e) q :=
  (((((((((((((((am_same_sI h1).tr (hB0_same h2)).tr (am_same_sR h1)).tr (hB0_same h3)).tr (am_same_sR h1)).tr (am_same_sI h1)).tr (am_same_sI h1)).tr (am_same_sI h1)).tr (am_same_sI h1)).tr (am_same_sI h1)).tr (am_same_sI h1)).tr (am_same_sI h1)).tr (am_same_sI h1)).tr (am_same_sI h1)).tr (am_same_sI h1)).tr (am_same_sI h1)
theorem hD_K {h : am_H} {a s b : Nat} {i t e : Int32} (h1 : s ≠ a) (h2 : b ≠ a) (h3 : s ≠ b) : am_K (hD h a s b i t e) a = am_K h a ∧ am_K (hD h a s b i t e) s = 1 ∧ am_K (hD h a s b i t e) b = 1 := by
  have key : ∀ q, am_K (hD h a s b i t e) q = if q = b then 1 else if q = s then 1 else am_K h q := fun q => by
    show am_K (am_nw (hD1 h a s) b 1 0) q = _
    rw [am_K_nw]
    by_cases c : q = b
    · rw [if_pos c, if_pos c]
    · rw [if_neg c, if_neg c]
      show am_K (am_nw (am_sI h 103 a 0) s 1 0) q = _
      rw [am_K_nw]
      rfl
  refine ⟨?_, ?_, ?_⟩
  · rw [key, if_neg (fun z => h2 z.symm), if_neg (fun z => h1 z.symm)]
  · rw [key, if_neg h3, if_pos rfl]
  · rw [key, if_pos rfl]
theorem hD_Ia {h : am_H} {a s b : Nat} {i t e : Int32} (h1 : s ≠ a) (h2 : b ≠ a) (h0 : ∀ f, am_I h f a = 0) (f : Nat) : am_I (hD h a s b i t e) f a = if f = 102 then e else if f = 101 then t else if f = 100 then i else 0 := by
  have g1 : ¬ a = s := fun z => h1 z.symm
  have g2 : ¬ a = b := fun z => h2 z.symm
  unfold hD hD2 hD1 hB0
  simp only [am_I_sI, am_I_sR, am_I_nw, g1, g2, h0, and_true, and_false, if_false]
  by_cases c1 : f = 102
  · simp only [c1, if_true]
  · by_cases c2 : f = 101
    · simp only [c2, if_true]
      first | done | rfl
    · by_cases c3 : f = 100
      · simp only [c3, if_true]
        first | done | rfl
      · simp only [c1, c2, c3, if_false]
        simp only [ite_self]
theorem hD_Is {h : am_H} {a s b : Nat} {i t e : Int32} (h1 : s ≠ a) (h3 : s ≠ b) (f : Nat) : am_I (hD h a s b i t e) f s = 0 := by
  unfold hD hD2 hD1 hB0
  simp only [am_I_sI, am_I_sR, am_I_nw, h1, h3, and_true, and_false, if_false, if_true, ite_self]
theorem hD_Ib {h : am_H} {a s b : Nat} {i t e : Int32} (h2 : b ≠ a) (h3 : s ≠ b) (f : Nat) : am_I (hD h a s b i t e) f b = 0 := by
  unfold hD hD2 hD1 hB0
  simp only [am_I_sI, am_I_sR, am_I_nw, h2, and_true, and_false, if_false, if_true, ite_self]
theorem hD_R {h : am_H} {a s b : Nat} {i t e : Int32} (h1 : s ≠ a) (h2 : b ≠ a) : am_R (hD h a s b i t e) 104 a = some s ∧ am_R (hD h a s b i t e) 105 a = some b := by
  have g1 : ¬ a = s := fun z => h1 z.symm
  have g2 : ¬ a = b := fun z => h2 z.symm
  constructor
  · show am_R (am_sR (hB0 (hD1 h a s) b) 105 a (some b)) 104 a = some s
    rw [am_R_sR, if_neg (by omega)]
    show am_R (am_nw (hD1 h a s) b 1 0) 104 a = some s
    rw [am_R_nw, if_neg g2]
    show am_R (am_sR (hB0 (am_sI h 103 a 0) s) 104 a (some s)) 104 a = some s
    rw [am_R_sR, if_pos ⟨rfl, rfl⟩]
  · show am_R (am_sR (hB0 (hD1 h a s) b) 105 a (some b)) 105 a = some b
    rw [am_R_sR, if_pos ⟨rfl, rfl⟩]
/-- the world's numbers with a district more -/
def sp_cdist (n : Nat) (a c : Int32) (Γ : Nat → Nat → Nat → Int32) : Nat → Nat → Nat → Int32 := fun c' i' j' => if c' ≤ 2 ∧ i' = n then (if c' = 2 then (if j' = 2 then c else if j' = 1 then a else if j' = 0 then nI n + 1 else 0) else 0) else Γ c' i' j'
def LEd (n p o : Nat) (L L' : Nat → Nat → Nat) : Prop := ∀ c i, wdm n p o c i = true → L' c i = L c i
theorem wdm_n1 {n p o c i : Nat} (h : wdm (n + 1) p o c i = true) (h2 : wdm n p o c i = false) : c ≤ 2 ∧ i = n := by
  unfold wdm at h h2
  split at h <;> simp only at h2
  · exact ⟨by omega, by have := of_decide_eq_true h; have := of_decide_eq_false h2; omega⟩
  · exact ⟨by omega, by have := of_decide_eq_true h; have := of_decide_eq_false h2; omega⟩
  · exact ⟨by omega, by have := of_decide_eq_true h; have := of_decide_eq_false h2; omega⟩
  all_goals first | exact Bool.noConfusion h | (rw [h] at h2; cases h2)
theorem wdm_p1 {n p o c i : Nat} (h : wdm n (p + 1) o c i = true) (h2 : wdm n p o c i = false) : c = 4 ∧ i = p := by
  unfold wdm at h h2
  split at h <;> simp only at h2
  all_goals first | exact Bool.noConfusion h | (rw [h] at h2; cases h2; done) | exact ⟨rfl, by have := of_decide_eq_true h; have := of_decide_eq_false h2; omega⟩
theorem wdm_up {n p o c i : Nat} (h : wdm n p o c i = true) : wdm (n + 1) p o c i = true := by
  unfold wdm at h ⊢
  split at h <;> first | exact h | exact decide_eq_true (by have := of_decide_eq_true h; omega)
theorem wdm_upp {n p o c i : Nat} (h : wdm n p o c i = true) : wdm n (p + 1) o c i = true := by
  unfold wdm at h ⊢
  split at h <;> first | exact h | exact decide_eq_true (by have := of_decide_eq_true h; omega)
theorem wdm_old {n p o c i : Nat} (h : wdm n p o c i = true) (hc : c ≤ 2) : i < n := by
  match c, hc with
  | 0, _ => exact of_decide_eq_true h
  | 1, _ => exact of_decide_eq_true h
  | 2, _ => exact of_decide_eq_true h
def lD (L : Nat → Nat → Nat) (n b' a s b : Nat) : Nat → Nat → Nat := fun c i => if c = 7 ∧ i = 0 then b' else if c = 2 ∧ i = n then a else if c = 0 ∧ i = n then s else if c = 1 ∧ i = n then b else L c i
/-- a district joins the world -/
theorem WI.addD {N n p : Nat} {ord : List Nat} {L : Nat → Nat → Nat} {Γ : Nat → Nat → Nat → Int32} {o : Nat} {hx h' : am_H} (w : WI N n p ord L Γ o hx) {a s b b' : Nat} {t e : Int32} {g : Nat → Option Nat} (hn : n < 8) (ha : am_K hx a = 0) (hs0 : am_K (am_nw hx a 2 0) s = 0) (hb0 : am_K (am_nw hx a 2 0) b = 0) (hsa : s ≠ a) (hba : b ≠ a) (hsb : s ≠ b)
    (u : LU (hD (am_nw hx a 2 0) a s b (nI n + 1) t e) h' (L 6 0) (L 7 0) b' (n + 1) g) (g1 : ∀ i, i < n → g i = am_B (hD (am_nw hx a 2 0) a s b (nI n + 1) t e) (L 7 0) i) (g2 : g n = some a) :
    WI N (n + 1) p ord (lD L n b' a s b) (sp_cdist n t e Γ) o h' := by
  obtain ⟨h2, eh2⟩ : ∃ h2, h2 = hD (am_nw hx a 2 0) a s b (nI n + 1) t e := ⟨_, rfl⟩
  rw [← eh2] at u g1
  have hs1 : am_K hx s = 0 := by rw [am_K_nw, if_neg hsa] at hs0; exact hs0
  have hb1 : am_K hx b = 0 := by rw [am_K_nw, if_neg hba] at hb0; exact hb0
  have hold : ∀ q, am_K hx q ≠ 0 → am_same hx h2 q := fun q hq => by
    rw [eh2]
    have q1 : q ≠ a := fun z => hq (by rw [z]; exact ha)
    exact (am_same_nw q1).tr (hD_same q1 (fun z => hq (by rw [z]; exact hs1)) (fun z => hq (by rw [z]; exact hb1)))
  have w2 : WI N n p ord L Γ o h2 := w.same hold
  have hKK := hD_K (h := am_nw hx a 2 0) (i := nI n + 1) (t := t) (e := e) hsa hba hsb
  rw [← eh2] at hKK
  obtain ⟨kA, kS, kB⟩ := hKK
  rw [am_K_nw, if_pos rfl] at kA
  have iA := hD_Ia (h := am_nw hx a 2 0) (i := nI n + 1) (t := t) (e := e) hsa hba (fun f => by rw [am_I_nw, if_pos rfl])
  have iS := hD_Is (h := am_nw hx a 2 0) (i := nI n + 1) (t := t) (e := e) hsa hsb
  have iB := hD_Ib (h := am_nw hx a 2 0) (i := nI n + 1) (t := t) (e := e) hba hsb
  have rA := hD_R (h := am_nw hx a 2 0) (i := nI n + 1) (t := t) (e := e) hsa hba
  rw [← eh2] at iA iS iB rA
  have hne : ∀ c i, wdm n p o c i = true → L c i ≠ a ∧ L c i ≠ s ∧ L c i ≠ b := fun c i hi => by
    have := w.k0 hi
    exact ⟨fun z => this (by rw [z]; exact ha), fun z => this (by rw [z]; exact hs1), fun z => this (by rw [z]; exact hb1)⟩
  have hL : ∀ c i, wdm n p o c i = true → lD L n b' a s b c i = L c i := fun c i hi => by
    unfold lD
    have h7 : ¬ (c = 7 ∧ i = 0) := fun z => by rw [z.1] at hi; cases hi
    have hc : c ≤ 2 → i < n := wdm_old hi
    rw [if_neg h7, if_neg (fun z => by have := hc (by omega); omega), if_neg (fun z => by have := hc (by omega); omega), if_neg (fun z => by have := hc (by omega); omega)]
  have l2 : lD L n b' a s b 2 n = a := by unfold lD; rw [if_neg (by omega), if_pos ⟨rfl, rfl⟩]
  have l0 : lD L n b' a s b 0 n = s := by unfold lD; rw [if_neg (by omega), if_neg (by omega), if_pos ⟨rfl, rfl⟩]
  have l1 : lD L n b' a s b 1 n = b := by unfold lD; rw [if_neg (by omega), if_neg (by omega), if_neg (by omega), if_pos ⟨rfl, rfl⟩]
  have hB : ∀ j (hj : j < (wls n p ord 0).length), am_B h2 (L 7 0) j = some (L 2 ((wls n p ord 0)[j])) := (w2.2.2.2.2.2.2.1 0 (by decide)).2.2.2.1
  refine w2.listU (t := 0) (by decide) (n' := n + 1) (p' := p) (ord' := ord) (b' := b') (g := g) (by rw [show (wls (n + 1) p ord 0).length = n + 1 from List.length_range]; exact u) ⟨by omega, w.1.2.1, fun x hx' => by have := w.1.2.2.2.1 x hx'; omega, w.1.2.2.2.2⟩ (fun c i hi => ⟨wdm_up hi, hL c i hi, fun j => ?_⟩) (fun c i hi hi' => ?_) ⟨if_pos ⟨rfl, rfl⟩, fun t' _ ht => ?_⟩ (fun t' h3 ht => ?_) (fun j hj => ?_)
  · unfold sp_cdist
    rw [if_neg (fun z => by have := wdm_old hi z.1; omega)]
  · obtain ⟨hc, rfl⟩ := wdm_n1 hi hi'
    have hG : ∀ j, sp_cdist i t e Γ c i j = if c = 2 then (if j = 2 then e else if j = 1 then t else if j = 0 then nI i + 1 else 0) else 0 := fun j => if_pos ⟨hc, rfl⟩
    have hcc : c = 0 ∨ c = 1 ∨ c = 2 := by omega
    refine ⟨Or.inl hc, ?_, fun c2 i2 h3 => ?_, fun ci j hci hj => ?_, fun ci j r hci hr => ?_, fun c2 i2 h3 h4 h5 => ?_⟩
    · rcases hcc with rfl | rfl | rfl
      · rw [l0, kS]; rfl
      · rw [l1, kB]; rfl
      · rw [l2, kA]; rfl
    · obtain ⟨q1, q2, q3⟩ := hne c2 i2 h3
      rcases hcc with rfl | rfl | rfl
      · rw [l0]; exact q2
      · rw [l1]; exact q3
      · rw [l2]; exact q1
    · rw [hG j]
      rcases hcc with rfl | rfl | rfl
      · cases hci
        rw [l0, iS]
        rfl
      · cases hci
        rw [l1, iB]
        rfl
      · cases hci
        rw [l2, iA, if_pos rfl]
        by_cases c1 : j = 2
        · rw [if_pos (by omega), if_pos c1]
        · by_cases c2 : j = 1
          · rw [if_neg (by omega), if_pos (by omega), if_neg c1, if_pos c2]
          · by_cases c3 : j = 0
            · rw [if_neg (by omega), if_neg (by omega), if_pos (by omega), if_neg c1, if_neg c2, if_pos c3]
            · rw [if_neg (by omega), if_neg (by omega), if_neg (by omega), if_neg c1, if_neg c2, if_neg c3]
    · rcases hcc with rfl | rfl | rfl
      · cases hr
      · cases hr
      · cases hci
        have hr' : (if j = 4 then some (0, i) else if j = 5 then some (1, i) else none) = some r := hr
        by_cases c1 : j = 4
        · rw [if_pos c1] at hr'
          cases hr'
          rw [l2, c1, l0]
          exact rA.1
        · rw [if_neg c1] at hr'
          by_cases c2 : j = 5
          · rw [if_pos c2] at hr'
            cases hr'
            rw [l2, c2, l1]
            exact rA.2
          · rw [if_neg c2] at hr'
            cases hr'
    · obtain ⟨hc2, rfl⟩ := wdm_n1 h3 h4
      have hcc2 : c2 = 0 ∨ c2 = 1 ∨ c2 = 2 := by omega
      refine ⟨?_, rfl⟩
      rcases hcc with rfl | rfl | rfl <;> rcases hcc2 with rfl | rfl | rfl <;> first | rfl | skip
      · rw [l0, l1] at h5; exact absurd h5 hsb
      · rw [l0, l2] at h5; exact absurd h5 hsa
      · rw [l1, l0] at h5; exact absurd h5.symm hsb
      · rw [l1, l2] at h5; exact absurd h5 hba
      · rw [l2, l0] at h5; exact absurd h5.symm hsa
      · rw [l2, l1] at h5; exact absurd h5.symm hba
  · unfold lD
    rw [if_neg (fun z => ht z.2), if_neg (by omega), if_neg (by omega), if_neg (by omega)]
  · match t', h3, ht with
    | 0, _, z => exact absurd rfl z
    | 1, _, _ => rfl
    | 2, _, _ => rfl
  · have hj' : j < n + 1 := by rw [show (wls (n + 1) p ord 0).length = n + 1 from List.length_range] at hj; exact hj
    have e1 : (wls (n + 1) p ord 0)[j] = j := List.getElem_range hj
    show g j = some (lD L n b' a s b 2 ((wls (n + 1) p ord 0)[j]))
    rw [e1]
    by_cases c : j = n
    · rw [c, g2, l2]
    · have hjn : j < (wls n p ord 0).length := by rw [show (wls n p ord 0).length = n from List.length_range]; omega
      rw [g1 j (by omega), hB j hjn, show (wls n p ord 0)[j] = j from List.getElem_range hjn, hL 2 j (decide_eq_true (by omega))]
def hP (h : am_H) (a : Nat) (f t l1 : Int32) : am_H := am_sI (am_sI (am_sI (am_sI h 303 a 0) 300 a f) 301 a t) 302 a l1
def sp_cpipe (p : Nat) (f t l1 : Int32) (Γ : Nat → Nat → Nat → Int32) : Nat → Nat → Nat → Int32 := fun c' i' j' => if c' = 4 ∧ i' = p then (if j' = 2 then l1 else if j' = 1 then t else if j' = 0 then f else 0) else Γ c' i' j'
def lP (L : Nat → Nat → Nat) (p b' a : Nat) : Nat → Nat → Nat := fun c i => if c = 7 ∧ i = 2 then b' else if c = 4 ∧ i = p then a else L c i
theorem hP_I {h : am_H} {a : Nat} {f t l1 : Int32} (h0 : ∀ f, am_I h f a = 0) (k : Nat) : am_I (hP h a f t l1) k a = if k = 302 then l1 else if k = 301 then t else if k = 300 then f else 0 := by
  unfold hP
  rw [am_I_sI]
  by_cases c1 : k = 302
  · rw [if_pos ⟨c1, rfl⟩, if_pos c1]
  · rw [if_neg (fun z => c1 z.1), if_neg c1, am_I_sI]
    by_cases c2 : k = 301
    · rw [if_pos ⟨c2, rfl⟩, if_pos c2]
    · rw [if_neg (fun z => c2 z.1), if_neg c2, am_I_sI]
      by_cases c3 : k = 300
      · rw [if_pos ⟨c3, rfl⟩, if_pos c3]
      · rw [if_neg (fun z => c3 z.1), if_neg c3, am_I_sI]
        split
        · rfl
        · exact h0 k
/-- a pipe joins the world -/
theorem WI.addP {N n p : Nat} {ord : List Nat} {L : Nat → Nat → Nat} {Γ : Nat → Nat → Nat → Int32} {o : Nat} {hx h' : am_H} (w : WI N n p ord L Γ o hx) {a b' : Nat} {f t l1 : Int32} {g : Nat → Option Nat} (hp : p < 24) (ha : am_K hx a = 0)
    (u : LU (hP (am_nw hx a 4 0) a f t l1) h' (L 6 2) (L 7 2) b' (p + 1) g) (g1 : ∀ i, i < p → g i = am_B (hP (am_nw hx a 4 0) a f t l1) (L 7 2) i) (g2 : g p = some a) :
    WI N n (p + 1) ord (lP L p b' a) (sp_cpipe p f t l1 Γ) o h' := by
  obtain ⟨h2, eh2⟩ : ∃ h2, h2 = hP (am_nw hx a 4 0) a f t l1 := ⟨_, rfl⟩
  rw [← eh2] at u g1
  have hold : ∀ q, am_K hx q ≠ 0 → am_same hx h2 q := fun q hq => by
    rw [eh2]
    have q1 : q ≠ a := fun z => hq (by rw [z]; exact ha)
    exact ((((am_same_nw q1).tr (am_same_sI q1)).tr (am_same_sI q1)).tr (am_same_sI q1)).tr (am_same_sI q1)
  have w2 : WI N n p ord L Γ o h2 := w.same hold
  have kA : am_K h2 a = 4 := by rw [eh2]; show am_K (am_nw hx a 4 0) a = 4; rw [am_K_nw, if_pos rfl]
  have iA := hP_I (h := am_nw hx a 4 0) (a := a) (f := f) (t := t) (l1 := l1) (fun f => by rw [am_I_nw, if_pos rfl])
  rw [← eh2] at iA
  have hne : ∀ c i, wdm n p o c i = true → L c i ≠ a := fun c i hi z => w.k0 hi (by rw [z]; exact ha)
  have hL : ∀ c i, wdm n p o c i = true → lP L p b' a c i = L c i := fun c i hi => by
    unfold lP
    have h7 : ¬ (c = 7 ∧ i = 2) := fun z => by rw [z.1] at hi; cases hi
    rw [if_neg h7, if_neg (fun z => by rw [z.1, z.2] at hi; exact absurd (of_decide_eq_true hi) (Nat.lt_irrefl _))]
  have l4 : lP L p b' a 4 p = a := by unfold lP; rw [if_neg (by omega), if_pos ⟨rfl, rfl⟩]
  have hB : ∀ j (hj : j < (wls n p ord 2).length), am_B h2 (L 7 2) j = some (L 4 ((wls n p ord 2)[j])) := (w2.2.2.2.2.2.2.1 2 (by decide)).2.2.2.1
  refine w2.listU (t := 2) (by decide) (n' := n) (p' := p + 1) (ord' := ord) (b' := b') (g := g) (by rw [show (wls n (p + 1) ord 2).length = p + 1 from List.length_range]; exact u) ⟨w.1.1, by omega, w.1.2.2.2.1, w.1.2.2.2.2⟩ (fun c i hi => ⟨wdm_upp hi, hL c i hi, fun j => ?_⟩) (fun c i hi hi' => ?_) ⟨if_pos ⟨rfl, rfl⟩, fun t' _ ht => ?_⟩ (fun t' h3 ht => ?_) (fun j hj => ?_)
  · unfold sp_cpipe
    rw [if_neg (fun z => by rw [z.1, z.2] at hi; exact absurd (of_decide_eq_true hi) (Nat.lt_irrefl _))]
  · obtain ⟨rfl, rfl⟩ := wdm_p1 hi hi'
    have hG : ∀ j, sp_cpipe i f t l1 Γ 4 i j = if j = 2 then l1 else if j = 1 then t else if j = 0 then f else 0 := fun j => if_pos ⟨rfl, rfl⟩
    refine ⟨Or.inr rfl, by rw [l4]; exact kA, fun c2 i2 h3 => by rw [l4]; exact hne c2 i2 h3, fun ci j hci hj => ?_, fun ci j r hci hr => (by cases hr), fun c2 i2 h3 h4 h5 => ?_⟩
    · rw [hG j]
      cases hci
      rw [l4, iA]
      by_cases c1 : j = 2
      · rw [if_pos (by omega), if_pos c1]
      · by_cases c2 : j = 1
        · rw [if_neg (by omega), if_pos (by omega), if_neg c1, if_pos c2]
        · by_cases c3 : j = 0
          · rw [if_neg (by omega), if_neg (by omega), if_pos (by omega), if_neg c1, if_neg c2, if_pos c3]
          · rw [if_neg (by omega), if_neg (by omega), if_neg (by omega), if_neg c1, if_neg c2, if_neg c3]
    · obtain ⟨rfl, rfl⟩ := wdm_p1 h3 h4
      exact ⟨rfl, rfl⟩
  · unfold lP
    rw [if_neg (fun z => ht z.2), if_neg (by omega)]
  · match t', h3, ht with
    | 0, _, _ => rfl
    | 1, _, _ => rfl
    | 2, _, z => exact absurd rfl z
  · have hj' : j < p + 1 := by rw [show (wls n (p + 1) ord 2).length = p + 1 from List.length_range] at hj; exact hj
    have e1 : (wls n (p + 1) ord 2)[j] = j := List.getElem_range hj
    show g j = some (lP L p b' a 4 ((wls n (p + 1) ord 2)[j]))
    rw [e1]
    by_cases c : j = p
    · rw [c, g2, l4]
    · have hjn : j < (wls n p ord 2).length := by rw [show (wls n p ord 2).length = p from List.length_range]; omega
      rw [g1 j (by omega), hB j hjn, show (wls n p ord 2)[j] = j from List.getElem_range hjn, hL 4 j (decide_eq_true (by omega))]
