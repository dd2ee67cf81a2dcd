/-! ===== the world when a list changes ===== -/
def LU (h h' : am_H) (a b b' m' : Nat) (g : Nat → Option Nat) : Prop :=
  (∀ q, am_K h q ≠ 0 → am_K h' q = am_K h q ∧ am_N h' q = am_N h q ∧ am_A h' q = am_A h q ∧ am_L h' q = am_L h q) ∧
  (∀ q f, am_K h q ≠ 0 → q ≠ a → am_I h' f q = am_I h f q) ∧
  (∀ q f, am_K h q ≠ 0 → q ≠ a → am_R h' f q = am_R h f q) ∧
  (∀ q, am_K h q ≠ 0 → q ≠ b → am_B h' q = am_B h q) ∧
  am_I h' 602 a = nI m' ∧ am_R h' 601 a = some b' ∧ (b' = b ∨ am_K h b' = 0) ∧
  ((am_K h' b' = 13 ∧ m' ≤ am_N h' b' ∧ am_N h' b' ≤ 100) ∨ (am_K h' b' = 16 ∧ m' = 0 ∧ am_N h' b' = 0 ∧ b' = b)) ∧ (∀ j, j < m' → am_B h' b' j = g j)
theorem AD.lu {h h' : am_H} {a b m : Nat} {z : Int32} {g : Nat → Option Nat} (ha : LA h a b m) (hd : AD (am_sI h 600 a z) a b m g h') : ∃ b', LU h h' a b b' (m + 1) g := by
  obtain ⟨hk, hm, hr, hm24, hbb, hel⟩ := ha
  have hka : am_K h a ≠ 0 := by rw [hk]; decide
  rcases hd with ⟨c1, c2, rfl⟩ | ⟨b', c', c1, c2, c3, rfl⟩
  · have c1' : am_K h b = 13 := c1
    have c2' : m < am_N h b := c2
    refine ⟨b, fun q _ => ⟨rfl, rfl, rfl, rfl⟩, fun q f _ hq => ?_, fun q f _ hq => rfl, fun q _ hq => ?_, ?_, hr, Or.inl rfl, Or.inl ⟨c1, c2', ?_⟩, fun j _ => ?_⟩
    · show am_I (am_sI (am_sBr (am_sI h 600 a z) b g) 602 a (nI (m + 1))) f q = _
      rw [am_I_sI, if_neg (fun y => hq y.2), am_I_sBr, am_I_sI, if_neg (fun y => hq y.2)]
    · show am_B (am_sBr (am_sI h 600 a z) b g) q = _
      funext i
      rw [am_B_sBr, if_neg hq]
      rfl
    · rw [am_I_sI, if_pos ⟨rfl, rfl⟩]
    · show am_N h b ≤ 100
      rcases hbb with y | y <;> omega
    · show am_B (am_sBr (am_sI h 600 a z) b g) b j = _
      rw [am_B_sBr, if_pos rfl]
  · have c1' : am_K h b' = 0 := c1
    have hn : ∀ q, am_K h q ≠ 0 → q ≠ b' := fun q hq y => hq (by rw [y]; exact c1')
    refine ⟨b', fun q hq => ⟨?_, ?_, ?_, ?_⟩, fun q f hq hqa => ?_, fun q f hq hqa => ?_, fun q hq _ => ?_, ?_, ?_, Or.inr c1', Or.inl ⟨?_, ?_, ?_⟩, fun j _ => ?_⟩
    · show am_K (am_nw (am_sI h 600 a z) b' 13 c') q = _
      rw [am_K_nw, if_neg (hn q hq)]
      rfl
    · show am_N (am_nw (am_sI h 600 a z) b' 13 c') q = _
      rw [am_N_nw, if_neg (hn q hq)]
      rfl
    · show am_A (am_nw (am_sI h 600 a z) b' 13 c') q = _
      funext i
      rw [am_A_nw, if_neg (hn q hq)]
      rfl
    · show am_L (am_nw (am_sI h 600 a z) b' 13 c') q = _
      funext i
      rw [am_L_nw, if_neg (hn q hq)]
      rfl
    · rw [am_I_sI, if_neg (fun y => hqa y.2)]
      show am_I (am_nw (am_sI h 600 a z) b' 13 c') f q = _
      rw [am_I_nw, if_neg (hn q hq), am_I_sI, if_neg (fun y => hqa y.2)]
    · show am_R (am_sR (am_nw (am_sI h 600 a z) b' 13 c') 601 a (some b')) f q = _
      rw [am_R_sR, if_neg (fun y => hqa y.2), am_R_nw, if_neg (hn q hq)]
      rfl
    · show am_B (am_sBr (am_sR (am_nw (am_sI h 600 a z) b' 13 c') 601 a (some b')) b' g) q = _
      funext i
      rw [am_B_sBr, if_neg (hn q hq)]
      show am_B (am_nw (am_sI h 600 a z) b' 13 c') q i = _
      rw [am_B_nw, if_neg (hn q hq)]
      rfl
    · rw [am_I_sI, if_pos ⟨rfl, rfl⟩]
    · show am_R (am_sR (am_nw (am_sI h 600 a z) b' 13 c') 601 a (some b')) 601 a = _
      rw [am_R_sR, if_pos ⟨rfl, rfl⟩]
    · show am_K (am_nw (am_sI h 600 a z) b' 13 c') b' = 13
      rw [am_K_nw, if_pos rfl]
    · show m + 1 ≤ am_N (am_nw (am_sI h 600 a z) b' 13 c') b'
      rw [am_N_nw, if_pos rfl]
      exact c2
    · show am_N (am_nw (am_sI h 600 a z) b' 13 c') b' ≤ 100
      rw [am_N_nw, if_pos rfl]
      exact c3
    · show am_B (am_sBr _ b' g) b' j = _
      rw [am_B_sBr, if_pos rfl]
theorem LU.clear {h : am_H} {a b m : Nat} {z : Int32} {g g' : Nat → Option Nat} (ha : LA h a b m) : LU h (am_sBr (am_sI (am_sI h 600 a z) 602 a (nI 0)) b g) a b b 0 g' := by
  obtain ⟨hk, hm, hr, hm24, hbb, hel⟩ := ha
  refine ⟨fun q _ => ⟨rfl, rfl, rfl, rfl⟩, fun q f _ hq => ?_, fun q f _ hq => rfl, fun q _ hq => ?_, ?_, hr, Or.inl rfl, ?_, fun j hj => absurd hj (Nat.not_lt_zero _)⟩
  · rw [am_I_sBr, am_I_sI, if_neg (fun y => hq y.2), am_I_sI, if_neg (fun y => hq y.2)]
  · funext i
    rw [am_B_sBr, if_neg hq]
    rfl
  · rw [am_I_sBr, am_I_sI, if_pos ⟨rfl, rfl⟩]
  · rcases hbb with y | y
    · exact Or.inl ⟨y.1, Nat.zero_le _, y.2.2⟩
    · exact Or.inr ⟨y.1, rfl, y.2.2, rfl⟩
section WL
variable {N n p : Nat} {ord : List Nat} {L : Nat → Nat → Nat} {Γ : Nat → Nat → Nat → Int32} {o : Nat} {h h' : am_H}
theorem WI.k0 (w : WI N n p ord L Γ o h) {c i : Nat} (hi : wdm n p o c i = true) : am_K h (L c i) ≠ 0 := by
  rw [w.k hi]
  unfold wdm at hi
  unfold wk
  split <;> first | decide | skip
  split at hi <;> first | (rename_i z; exact fun _ => absurd rfl z) | cases hi | simp_all
theorem wls_dm {n p : Nat} {ord : List Nat} (ho : ∀ e ∈ ord, e < n) {t j : Nat} (ht : t < 3) (hj : j < (wls n p ord t).length) : wdm n p o (wec t) ((wls n p ord t)[j]) = true := by
  match t, ht with
  | 0, _ => exact decide_eq_true (List.mem_range.mp (show (wls n p ord 0)[j] ∈ List.range n from List.getElem_mem hj))
  | 1, _ => exact decide_eq_true (ho _ (List.getElem_mem _))
  | 2, _ => exact decide_eq_true (List.mem_range.mp (show (wls n p ord 2)[j] ∈ List.range p from List.getElem_mem hj))
theorem WI.la (w : WI N n p ord L Γ o h) {t : Nat} (ht : t < 3) : LA h (L 6 t) (L 7 t) (wls n p ord t).length := by
  obtain ⟨l1, l2, l3, l4, -⟩ := w.2.2.2.2.2.2.1 t ht
  refine ⟨w.k (decide_eq_true ht), l1, l2, w.len ht, ?_, fun i hi y hy => ?_⟩
  · rcases l3 with z | z
    · exact Or.inl z
    · exact Or.inr ⟨z.1, by rw [z.2.1]; rfl, z.2.2⟩
  · rw [l4 i hi] at hy
    cases Option.some.inj hy
    have hd := wls_dm (o := o) w.1.2.2.2.1 ht hi
    rw [w.k hd]
    match t, ht with
    | 0, _ => exact Or.inl rfl
    | 1, _ => exact Or.inl rfl
    | 2, _ => exact Or.inr rfl
theorem WI.k7 (w : WI N n p ord L Γ o h) {t : Nat} (ht : t < 3) : am_K h (L 7 t) = 13 ∨ am_K h (L 7 t) = 16 := by
  rcases (w.2.2.2.2.2.2.1 t ht).2.2.1 with z | z
  · exact Or.inl z.1
  · exact Or.inr z.1
/-- what isn't in the world may change -/
theorem WI.same (w : WI N n p ord L Γ o h) (e : ∀ q, am_K h q ≠ 0 → am_same h h' q) : WI N n p ord L Γ o h' := by
  obtain ⟨w0, w1, w2, w3, w4, w5, w6, w7, w8, w9⟩ := id w
  have s : ∀ {c i}, wdm n p o c i = true → am_same h h' (L c i) := fun hi => e _ (w.k0 hi)
  refine ⟨w0, fun c i hi => (s hi).1.trans (w1 c i hi), w2, fun c i ci j hi hc ht => ((s hi).2.2.1 _).trans (w3 c i ci j hi hc ht), fun c i ci j r hi hc hr => ((s hi).2.2.2.1 _).trans (w4 c i ci j r hi hc hr), fun c i hi hc => ?_, fun t ht => ?_, ?_, ?_, ?_⟩
  · obtain ⟨q1, q2⟩ := w5 c i hi hc
    exact ⟨(s hi).2.1.trans q1, fun j hj => by rw [(s hi).2.2.2.2.1]; exact q2 j hj⟩
  · obtain ⟨l1, l2, l3, l4, l5⟩ := w6 t ht
    have s6 : am_same h h' (L 6 t) := s (decide_eq_true ht)
    have s7 : am_same h h' (L 7 t) := e _ (by rcases w.k7 ht with z | z <;> rw [z] <;> decide)
    refine ⟨(s6.2.2.1 _).trans l1, (s6.2.2.2.1 _).trans l2, by rw [s7.1, s7.2.1]; exact l3, fun j hj => by rw [s7.2.2.2.2.2.1]; exact l4 j hj, by rw [s7.1]; exact l5⟩
  · have s8 : am_same h h' (L 8 0) := s rfl
    exact ⟨s8.2.1.trans w7.1, fun a ha => by rw [s8.2.2.2.2.2.1]; exact w7.2 a ha⟩
  · exact w8
  · have s8 : am_same h h' (L 15 0) := s rfl
    exact ⟨s8.2.1.trans w9.1, fun j hj => by rw [s8.2.2.2.2.1]; exact w9.2 j hj⟩
theorem wdm7 {n p o i : Nat} : wdm n p o 7 i = false := rfl
/-- a list with its new content -/
theorem WI.listU (w : WI N n p ord L Γ o h) {t : Nat} (ht : t < 3) {n' p' b' : Nat} {ord' : List Nat} {L' : Nat → Nat → Nat} {Γ' : Nat → Nat → Nat → Int32} {g : Nat → Option Nat}
    (u : LU h h' (L 6 t) (L 7 t) b' (wls n' p' ord' t).length g) (hs : n' ≤ 8 ∧ p' ≤ 24 ∧ (∀ e ∈ ord', e < n') ∧ ord'.length ≤ 8)
    (hsub : ∀ c i, wdm n p o c i = true → wdm n' p' o c i = true ∧ L' c i = L c i ∧ ∀ j, Γ' c i j = Γ c i j)
    (hnew : ∀ c i, wdm n' p' o c i = true → wdm n p o c i = false → (c ≤ 2 ∨ c = 4) ∧ am_K h (L' c i) = wk c ∧ (∀ c2 i2, wdm n p o c2 i2 = true → L c2 i2 ≠ L' c i) ∧ (∀ ci j, wcl c = some ci → am_isR (am_ty ci j) = false → am_I h (100 * ci + j) (L' c i) = Γ' c i j) ∧ (∀ ci j r, wcl c = some ci → wrf c j i = some r → am_R h (100 * ci + j) (L' c i) = some (L' r.1 r.2)) ∧ ∀ c2 i2, wdm n' p' o c2 i2 = true → wdm n p o c2 i2 = false → L' c i = L' c2 i2 → c = c2 ∧ i = i2)
    (h7 : L' 7 t = b' ∧ ∀ t', t' < 3 → t' ≠ t → L' 7 t' = L 7 t') (hoth : ∀ t', t' < 3 → t' ≠ t → wls n' p' ord' t' = wls n p ord t')
    (hg : ∀ j (hj : j < (wls n' p' ord' t).length), g j = some (L' (wec t) ((wls n' p' ord' t)[j]))) : WI N n' p' ord' L' Γ' o h' := by
  obtain ⟨w0, w1, w2, w3, w4, w5, w6, w7, w8, w9⟩ := id w
  obtain ⟨u1, u2, u3, u4, u5, u6, u7, u8, u9⟩ := u
  have hn : ∀ c i, wdm n' p' o c i = true → ¬ wdm n p o c i = true → wdm n p o c i = false := fun c i _ z => by
    cases e : wdm n p o c i with
    | true => exact absurd e z
    | false => rfl
  have hk : ∀ c i, wdm n' p' o c i = true → am_K h (L' c i) = wk c := fun c i hi => by
    by_cases z : wdm n p o c i = true
    · rw [(hsub c i z).2.1]
      exact w1 c i z
    · exact (hnew c i hi (hn c i hi z)).2.1
  have hwk : ∀ c i, wdm n' p' o c i = true → wk c ≠ 0 ∧ wk c ≠ 13 ∧ wk c ≠ 16 := fun c i hi => by
    by_cases z : wdm n p o c i = true
    · have h1 := w.k0 z
      rw [w.k z] at h1
      exact ⟨h1, by unfold wk; split <;> decide, by unfold wk; split <;> decide⟩
    · have hc := (hnew c i hi (hn c i hi z)).1
      have : c = 0 ∨ c = 1 ∨ c = 2 ∨ c = 4 := by omega
      rcases this with rfl | rfl | rfl | rfl <;> decide
  have hk0 : ∀ c i, wdm n' p' o c i = true → am_K h (L' c i) ≠ 0 := fun c i hi => by rw [hk c i hi]; exact (hwk c i hi).1
  have h6t : wdm n p o 6 t = true := decide_eq_true ht
  have hna : ∀ c i, wdm n' p' o c i = true → ¬ (c = 6 ∧ i = t) → L' c i ≠ L 6 t := fun c i hi hne e => by
    by_cases z : wdm n p o c i = true
    · rw [(hsub c i z).2.1] at e
      exact hne (w.ij z h6t e)
    · exact (hnew c i hi (hn c i hi z)).2.2.1 6 t h6t e.symm
  have hnb : ∀ c i, wdm n' p' o c i = true → L' c i ≠ L 7 t := fun c i hi e => by
    have h1 := hk c i hi
    rw [e] at h1
    have h2 := hwk c i hi
    rcases w.k7 ht with z | z
    · exact h2.2.1 (h1.symm.trans z)
    · exact h2.2.2 (h1.symm.trans z)
  have hold : ∀ c i, wdm n' p' o c i = true → ¬ (c ≤ 2 ∨ c = 4) → wdm n p o c i = true := fun c i hi hc => by
    by_cases z : wdm n p o c i = true
    · exact z
    · exact absurd (hnew c i hi (hn c i hi z)).1 hc
  refine ⟨⟨hs.1, hs.2.1, w0.2.2.1, hs.2.2⟩, fun c i hi => (u1 _ (hk0 c i hi)).1.trans (hk c i hi), fun c i c' i' hi hi' e => ?_, fun c i ci j hi hc hj => ?_, fun c i ci j r hi hc hr => ?_, fun c i hi hc => ?_, fun t' ht' => ?_, ?_, ?_, ?_⟩
  · by_cases z : wdm n p o c i = true
    · by_cases z' : wdm n p o c' i' = true
      · rw [(hsub c i z).2.1, (hsub c' i' z').2.1] at e
        exact w2 c i c' i' z z' e
      · rw [(hsub c i z).2.1] at e
        exact absurd e ((hnew c' i' hi' (hn c' i' hi' z')).2.2.1 c i z)
    · by_cases z' : wdm n p o c' i' = true
      · rw [(hsub c' i' z').2.1] at e
        exact absurd e.symm ((hnew c i hi (hn c i hi z)).2.2.1 c' i' z')
      · exact (hnew c i hi (hn c i hi z)).2.2.2.2.2 c' i' hi' (hn c' i' hi' z') e
  · have h6 : ¬ (c = 6 ∧ i = t) := fun y => by rw [y.1] at hc; cases hc
    rw [u2 _ _ (hk0 c i hi) (hna c i hi h6)]
    by_cases z : wdm n p o c i = true
    · rw [(hsub c i z).2.1, (hsub c i z).2.2]
      exact w3 c i ci j z hc hj
    · exact (hnew c i hi (hn c i hi z)).2.2.2.1 ci j hc hj
  · have h6 : ¬ (c = 6 ∧ i = t) := fun y => by rw [y.1] at hc; cases hc
    rw [u3 _ _ (hk0 c i hi) (hna c i hi h6)]
    by_cases z : wdm n p o c i = true
    · rw [(hsub c i z).2.1, w4 c i ci j r z hc hr]
      have hr2 : wdm n p o r.1 r.2 = true := by
        clear u1 u2 u3 u4 hk hk0 hna hnb hold hwk hnew hsub
        unfold wrf at hr
        split at hr
        · unfold wdm at z
          split at hr
          · cases hr; exact z
          · split at hr
            · cases hr; exact z
            · cases hr
        · split at hr
          · cases hr; rfl
          · split at hr
            · cases hr; rfl
            · split at hr
              · cases hr; rfl
              · split at hr
                · cases hr; rfl
                · split at hr
                  · cases hr; rfl
                  · cases hr
        · split at hr
          · cases hr; rfl
          · split at hr
            · cases hr; rfl
            · split at hr
              · cases hr; rfl
              · cases hr
        · cases hr
      rw [(hsub _ _ hr2).2.1]
    · exact (hnew c i hi (hn c i hi z)).2.2.2.2.1 ci j r hc hr
  · have z := hold c i hi (by omega)
    obtain ⟨q1, q2⟩ := w5 c i z hc
    have u1' := u1 _ (hk0 c i hi)
    rw [(hsub c i z).2.1] at u1' ⊢
    refine ⟨u1'.2.1.trans q1, fun j hj => ?_⟩
    rw [u1'.2.2.1, (hsub c i z).2.2]
    exact q2 j hj
  · have h6t' : wdm n p o 6 t' = true := decide_eq_true ht'
    have e6 : L' 6 t' = L 6 t' := (hsub 6 t' h6t').2.1
    have k7 : ∀ x, x < 3 → am_K h (L 7 x) ≠ 0 := fun x hx => by rcases w.k7 hx with z | z <;> rw [z] <;> decide
    by_cases e : t' = t
    · subst e
      obtain ⟨l1, l2, l3, l4, l5⟩ := w6 t' ht
      rw [e6, h7.1]
      refine ⟨u5, u6, ?_, fun j hj => (u9 j hj).trans (hg j hj), fun t'' h3 e2 => ?_⟩
      · rcases u8 with y | y
        · exact Or.inl y
        · exact Or.inr ⟨y.1, List.eq_nil_of_length_eq_zero y.2.1, y.2.2.1⟩
      · by_cases e3 : t'' = t'
        · exact Or.inl e3
        · rw [h7.2 t'' h3 e3] at e2
          rcases u7 with y | y
          · rw [y] at e2 ⊢
            rcases l5 t'' h3 e2 with q | q
            · exact Or.inl q
            · exact Or.inr ((u1 _ (k7 t' ht)).1.trans q)
          · exact absurd y (by rw [← e2]; exact k7 t'' h3)
    · obtain ⟨l1, l2, l3, l4, l5⟩ := w6 t' ht'
      have e7 := h7.2 t' ht' e
      have n6 : L 6 t' ≠ L 6 t := fun y => e (w.ij h6t' h6t y).2
      have k6 := w.k0 h6t'
      have ew := hoth t' ht' e
      have u17 := u1 _ (k7 t' ht')
      rw [e6, e7, ew]
      refine ⟨(u2 _ _ k6 n6).trans l1, (u3 _ _ k6 n6).trans l2, by rw [u17.1, u17.2.1]; exact l3, ?_, fun t'' h3 e2 => ?_⟩
      · have hB : ∀ j (hj : j < (wls n p ord t').length), am_B h' (L 7 t') j = some (L' (wec t') ((wls n p ord t')[j])) := fun j hj => by
          rw [(hsub _ _ (wls_dm w0.2.2.2.1 ht' hj)).2.1]
          by_cases y : L 7 t' = L 7 t
          · exfalso
            rcases l5 t ht y.symm with q | q
            · exact e q.symm
            · rcases l3 with x | x
              · rw [x.1] at q; cases q
              · rw [x.2.1] at hj
                exact absurd hj (Nat.not_lt_zero _)
          · rw [u4 _ (k7 t' ht') y]
            exact l4 j hj
        exact hB
      · by_cases e3 : t'' = t
        · subst e3
          rw [h7.1] at e2
          rcases u7 with y | y
          · rw [y] at e2
            rcases l5 t'' ht e2 with q | q
            · exact Or.inl q
            · exact Or.inr (u17.1.trans q)
          · exact absurd y (by rw [e2]; exact k7 t' ht')
        · rw [h7.2 t'' h3 e3] at e2
          rcases l5 t'' h3 e2 with q | q
          · exact Or.inl q
          · exact Or.inr (u17.1.trans q)
  · have h8 : wdm n p o 8 0 = true := rfl
    have h8' : wdm n' p' o 8 0 = true := rfl
    have e8 := (hsub 8 0 h8).2.1
    have k8 := hk0 8 0 h8'
    have nb := hnb 8 0 h8'
    have u18 := u1 _ k8
    rw [e8] at u18 k8 nb ⊢
    refine ⟨u18.2.1.trans w7.1, fun a ha => ?_⟩
    have h9 : wdm n p o 9 a = true := decide_eq_true ha
    rw [u4 _ k8 nb, (hsub 9 a h9).2.1]
    exact w7.2 a ha
  · exact w8
  · have h8 : wdm n p o 15 0 = true := rfl
    have u18 := u1 _ (hk0 15 0 rfl)
    rw [(hsub 15 0 h8).2.1] at u18 ⊢
    exact ⟨u18.2.1.trans w9.1, fun j hj => by rw [u18.2.2.1, (hsub 15 0 h8).2.2]; exact w9.2 j hj⟩
end WL
