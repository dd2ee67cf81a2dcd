/-! ===== sums of Int32 as integers; the way found, as a chain; what flowing more on it does ===== -/
theorem tI_add {a b : Int32} (h1 : -2147483648 ≤ a.toInt + b.toInt) (h2 : a.toInt + b.toInt < 2147483648) : (a + b).toInt = a.toInt + b.toInt := by
  rw [Int32.toInt_add]
  exact Int.bmod_eq_of_le (by omega) (by omega)
theorem tI_sub {a b : Int32} (h1 : -2147483648 ≤ a.toInt - b.toInt) (h2 : a.toInt - b.toInt < 2147483648) : (a - b).toInt = a.toInt - b.toInt := by
  rw [Int32.toInt_sub]
  exact Int.bmod_eq_of_le (by omega) (by omega)
theorem tI_neg {a : Int32} (h1 : -2147483648 < a.toInt) : (-a).toInt = - a.toInt := by
  have := Int32.toInt_lt a
  rw [Int32.toInt_neg]
  exact Int.bmod_eq_of_le (by omega) (by omega)
theorem tI_0 : (0 : Int32).toInt = 0 := by decide
theorem nI_rem24 : ∀ w, w < 48 → nI w - nI w / 24 * 24 = nI (w % 24) := by decide +kernel
theorem nI_sub24 (x : Nat) : nI (x + 24) - nI 24 = nI x := by
  rw [← nI_add]
  exact Int32.add_sub_cancel _ _
/-- the node of the flow's theory: 0 is the source -/
def nu (u : Nat) : Nat := if u = 8 then 0 else u + 1
theorem nu_inj {a b : Nat} (ha : a ≤ 8) (hb : b ≤ 8) (h : nu a = nu b) : a = b := by
  unfold nu at h
  split at h <;> split at h <;> omega
theorem nu_lt {a : Nat} (ha : a ≤ 8) : nu a < 9 := by unfold nu; split <;> omega
def nuf (A : Nat → Nat) : Nat → Nat := fun j => nu (A j)
/-- which way of the pipe: 1 forth -/
def wd (w : Nat) : Int32 := if w < 24 then 1 else 0
def chJ (q : Nat) (A B : Nat → Nat) (Γ : Nat → Nat → Nat → Int32) (r : Nat → Nat) (m : Nat) (wf pf : Nat → Nat) : Prop :=
  ∀ i, 0 < i → i < m → pf i < i ∧ wf i < 48 ∧ Γ 12 31 (r i) = nI (wf i) ∧ wf i % 24 < q ∧ ¬ sp_rm Γ (wf i % 24) (wd (wf i)) ≤ 0 ∧ ((wf i < 24 ∧ B (wf i % 24) = r i ∧ A (wf i % 24) = r (pf i)) ∨ (24 ≤ wf i ∧ A (wf i % 24) = r i ∧ B (wf i % 24) = r (pf i)))
theorem bJ.ch {q : Nat} {A B : Nat → Nat} {Γ Γ0 : Nat → Nat → Nat → Int32} {r : Nat → Nat} {m : Nat} (h : bJ q A B (sp_pw Γ0 1) (sp_pw Γ0 0) Γ r m) (hfr : fr31 Γ0 Γ) : ∃ wf pf, chJ q A B Γ r m wf pf := by
  have h7 := h.2.2.2.2.2.2.1
  have ⟨f, hf⟩ := Classical.axiomOfChoice (r := fun (i : Nat) (y : Nat × Nat) => 0 < i → i < m → y.2 < i ∧ y.1 < 48 ∧ Γ 12 31 (r i) = nI y.1 ∧ edgeIn q A B (sp_pw Γ0 1) (sp_pw Γ0 0) y.1 (r i) (r y.2)) (fun i => by
    by_cases c : 0 < i ∧ i < m
    · obtain ⟨w, i', q1, q2, q3, q4⟩ := h7 i c.1 c.2
      exact ⟨(w, i'), fun _ _ => ⟨q1, q2, q3, q4⟩⟩
    · exact ⟨(0, 0), fun a b => absurd ⟨a, b⟩ c⟩)
  refine ⟨fun i => (f i).1, fun i => (f i).2, fun i h0 hi => ?_⟩
  obtain ⟨q1, q2, q3, q4⟩ := hf i h0 hi
  refine ⟨q1, q2, q3, ?_⟩
  rcases q4 with ⟨a1, a2, a3, a4, a5⟩ | ⟨a1, a2, a3, a4, a5⟩
  · have e : (f i).1 % 24 = (f i).1 := Nat.mod_eq_of_lt a2
    show (f i).1 % 24 < q ∧ ¬ sp_rm Γ ((f i).1 % 24) (wd (f i).1) ≤ 0 ∧ (((f i).1 < 24 ∧ B ((f i).1 % 24) = r i ∧ A ((f i).1 % 24) = r (f i).2) ∨ (24 ≤ (f i).1 ∧ A ((f i).1 % 24) = r i ∧ B ((f i).1 % 24) = r (f i).2))
    rw [e]
    refine ⟨a1, ?_, Or.inl ⟨a2, a3, a4⟩⟩
    unfold wd
    rw [if_pos a2, hfr.rm]
    exact a5
  · have e : (f i).1 % 24 = (f i).1 - 24 := by omega
    show (f i).1 % 24 < q ∧ ¬ sp_rm Γ ((f i).1 % 24) (wd (f i).1) ≤ 0 ∧ (((f i).1 < 24 ∧ B ((f i).1 % 24) = r i ∧ A ((f i).1 % 24) = r (f i).2) ∨ (24 ≤ (f i).1 ∧ A ((f i).1 % 24) = r i ∧ B ((f i).1 % 24) = r (f i).2))
    rw [e]
    refine ⟨a2, ?_, Or.inr ⟨a1, a3, a4⟩⟩
    unfold wd
    rw [if_neg (by omega), hfr.rm]
    exact a5
/-- the ranks along the way, from the end -/
def cc (pf : Nat → Nat) (i0 : Nat) : Nat → Nat
  | 0 => i0
  | s + 1 => pf (cc pf i0 s)
theorem cc_lt {pf : Nat → Nat} {i0 m : Nat} (hp : ∀ i, 0 < i → i < m → pf i < i) (h0 : i0 < m) : ∀ S, (∀ s, s < S → 0 < cc pf i0 s) → cc pf i0 S < m ∧ ∀ s, s < S → cc pf i0 S < cc pf i0 s
  | 0, _ => ⟨h0, fun s hs => absurd hs (Nat.not_lt_zero _)⟩
  | S + 1, h => by
    obtain ⟨h1, h2⟩ := cc_lt hp h0 S (fun s hs => h s (by omega))
    have h3 := hp _ (h S (by omega)) h1
    refine ⟨Nat.lt_trans h3 h1, fun s hs => ?_⟩
    show pf (cc pf i0 S) < _
    by_cases c : s = S
    · rw [c]; exact h3
    · exact Nat.lt_trans h3 (h2 s (by omega))
/-- no pipe is twice on the way -/
theorem ch_once {q : Nat} {A B : Nat → Nat} {Γ : Nat → Nat → Nat → Int32} {r : Nat → Nat} {m : Nat} {wf pf : Nat → Nat} (h : chJ q A B Γ r m wf pf) (hinj : ∀ i j, i < m → j < m → r i = r j → i = j) {i j : Nat} (hi : 0 < i) (him : i < m) (hj : 0 < j) (hji : j ≤ pf i) : wf i % 24 ≠ wf j % 24 := by
  intro e
  obtain ⟨a1, a2, a3, a4, a5, a6⟩ := h i hi him
  obtain ⟨b1, b2, b3, b4, b5, b6⟩ := h j hj (by omega)
  rw [← e] at b6
  rcases a6 with ⟨-, x1, x2⟩ | ⟨-, x1, x2⟩ <;> rcases b6 with ⟨-, y1, y2⟩ | ⟨-, y1, y2⟩
  · have := hinj i j him (by omega) (x1.symm.trans y1)
    omega
  · have := hinj i (pf j) him (by omega) (x1.symm.trans y2)
    omega
  · have := hinj i (pf j) him (by omega) (x1.symm.trans y2)
    omega
  · have := hinj i j him (by omega) (x1.symm.trans y1)
    omega
/-- the flow and the most of a pipe -/
def FG (Γ : Nat → Nat → Nat → Int32) (j : Nat) : Int := (Γ 12 29 j).toInt
def KG (Γ : Nat → Nat → Nat → Int32) (j : Nat) : Int := if Γ 13 28 j = 0 then (Γ 12 27 j).toInt else 0
def capJ (q : Nat) (Γ : Nat → Nat → Nat → Int32) : Prop := ∀ j, j < q → 0 ≤ FG Γ j ∧ FG Γ j ≤ KG Γ j ∧ KG Γ j ≤ 999
theorem rm_I {q : Nat} {Γ : Nat → Nat → Nat → Int32} (h : capJ q Γ) {j : Nat} (hj : j < q) : (sp_rm Γ j 1).toInt = KG Γ j - FG Γ j ∧ (sp_rm Γ j 0).toInt = FG Γ j := by
  obtain ⟨h1, h2, h3⟩ := h j hj
  unfold sp_rm
  unfold FG KG at *
  by_cases c : Γ 13 28 j = 0
  · rw [if_pos c] at h2 h3
    rw [if_pos c, if_pos c, if_pos c, if_neg (by decide), if_pos rfl]
    exact ⟨tI_sub (by omega) (by omega), rfl⟩
  · rw [if_neg c] at h2 h3
    rw [if_neg c, if_neg c, if_neg c]
    have e0 := tI_0
    exact ⟨by omega, by omega⟩
/-- what more flows on a pipe of the way -/
theorem aug_in {q : Nat} {A B : Nat → Nat} {F F' : Nat → Int} {j u v : Nat} {d by' : Int} (hj : j < q) (hA : A j ≤ 8) (hB : B j ≤ 8) (hne : A j ≠ B j) (h : ∀ i, i < q → i ≠ j → F' i = F i) (hd : F' j = F j + d) (hw : (d = by' ∧ B j = v ∧ A j = u) ∨ (d = -by' ∧ A j = v ∧ B j = u)) (x : Nat) :
    inflow (NM q (nuf A) (nuf B) F') x = inflow (NM q (nuf A) (nuf B) F) x + (if x = nu v then by' else 0) - (if x = nu u then by' else 0) := by
  have hn : nuf A j ≠ nuf B j := fun z => hne (nu_inj hA hB z)
  have e : inflow (NM q (nuf A) (nuf B) F') x = inflow (nup (NM q (nuf A) (nuf B) F) (nuf A j) (nuf B j) d) x := zs_congr 9 fun y _ => NM_upd hj hn h hd y x
  rw [e, nup_in (u := nuf A j) (v := nuf B j) (nu_lt hA) (nu_lt hB) hn]
  rw [show nuf A j = nu (A j) from rfl, show nuf B j = nu (B j) from rfl]
  rcases hw with ⟨rfl, rfl, rfl⟩ | ⟨rfl, rfl, rfl⟩
  · rfl
  · have h1 : nu (A j) ≠ nu (B j) := hn
    by_cases c1 : x = nu (B j)
    · rw [if_pos c1, if_pos c1, if_neg (fun z => h1 (z.symm.trans c1)), if_neg (fun z => h1 (z.symm.trans c1))]
      omega
    · rw [if_neg c1, if_neg c1]
      split <;> omega
/-- a closed search makes a full cut -/
theorem cut_of {q : Nat} {A B : Nat → Nat} {Γ Γ0 : Nat → Nat → Nat → Int32} {r : Nat → Nat} {m t : Nat} (hcap : capJ q Γ0) (hA : ∀ j, j < q → A j ≤ 8 ∧ B j ≤ 8) (hb : bJ q A B (sp_pw Γ0 1) (sp_pw Γ0 0) Γ r m) (ht : t < 8) (he : Γ 12 31 t = -1) (hcl : ∀ i j, i < m → j < q → clo A B (sp_pw Γ0 1) (sp_pw Γ0 0) r m i j) :
    ∃ S : Nat → Bool, S 0 = true ∧ S (t + 1) = false ∧ ∀ a b, S a = true → S b = false → NM q (nuf A) (nuf B) (FG Γ0) a b = CM q (nuf A) (nuf B) (KG Γ0) a b := by
  obtain ⟨h1, h2, h3, h4, h5, h6, h7, h8⟩ := id hb
  have hm := hb.le
  have ⟨S, hS⟩ : ∃ S : Nat → Bool, ∀ v, S v = true ↔ ∃ i, i < m ∧ nu (r i) = v := Classical.axiomOfChoice (r := fun (v : Nat) (b : Bool) => b = true ↔ ∃ i, i < m ∧ nu (r i) = v) (fun v => by
    by_cases c : ∃ i, i < m ∧ nu (r i) = v
    · exact ⟨true, fun _ => c, fun _ => rfl⟩
    · exact ⟨false, ⟨(fun z => Bool.noConfusion z), fun z => absurd z c⟩⟩)
  have hF : ∀ v, S v = false → ∀ i, i < m → nu (r i) ≠ v := fun v z i hi e => by
    rw [(hS v).mpr ⟨i, hi, e⟩] at z
    cases z
  refine ⟨S, ?_, ?_, ?_⟩
  · exact (hS 0).mpr ⟨0, by omega, by rw [h2]; rfl⟩
  · cases hs : S (t + 1) with
    | false => rfl
    | true =>
      exfalso
      obtain ⟨i, hi, e⟩ := (hS _).mp hs
      have e2 : r i = t := nu_inj (h4 i hi).2 (by omega) (e.trans (by unfold nu; rw [if_neg (by omega)]))
      rcases Nat.eq_zero_or_pos i with c | c
      · subst c
        omega
      · obtain ⟨w, i', -, hw, q1, -⟩ := h7 i c hi
        rw [e2, he] at q1
        exact nI_neg1 (by omega) q1.symm
  · intro a b ha hb'
    refine NM_cut (S := S) (fun j hj => ?_) ha hb'
    obtain ⟨hA8, hB8⟩ := hA j hj
    obtain ⟨c1, c2, c3⟩ := hcap j hj
    obtain ⟨r1, r0⟩ := rm_I hcap hj
    refine ⟨fun z1 z2 => ?_, fun z1 z2 => ?_⟩
    · obtain ⟨i, hi, e⟩ := (hS _).mp z1
      have e2 : A j = r i := (nu_inj (h4 i hi).2 hA8 e).symm
      have hn : ¬ sp_pw Γ0 1 j := fun z => by
        obtain ⟨i2, x1, x2⟩ := (hcl i j hi hj).1 e2 z
        exact hF _ z2 i2 x1 (by rw [x2]; rfl)
      have hn2 : sp_rm Γ0 j 1 ≤ 0 := Classical.byContradiction hn
      have := Int32.le_iff_toInt_le.mp hn2
      rw [r1, tI_0] at this
      omega
    · obtain ⟨i, hi, e⟩ := (hS _).mp z2
      have e2 : B j = r i := (nu_inj (h4 i hi).2 hB8 e).symm
      have hn : ¬ sp_pw Γ0 0 j := fun z => by
        obtain ⟨i2, x1, x2⟩ := (hcl i j hi hj).2 e2 z
        exact hF _ z1 i2 x1 (by rw [x2]; rfl)
      have hn2 : sp_rm Γ0 j 0 ≤ 0 := Classical.byContradiction hn
      have := Int32.le_iff_toInt_le.mp hn2
      rw [r0, tI_0] at this
      omega
