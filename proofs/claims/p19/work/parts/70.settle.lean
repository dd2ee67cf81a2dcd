/-! ===== a round settled ===== -/
section KEEP4
variable {T n p : Nat} {A B : Nat → Nat} {ord ord' : List Nat} {Γ : Nat → Nat → Nat → Int32}
theorem sp_silent_fr {d : Nat} {Γ : Nat → Nat → Nat → Int32} {c i j : Nat} (h : ¬ (c ≤ 2 ∧ i = d)) : sp_silent Γ d c i j = Γ c i j := by
  unfold sp_silent
  split
  · split
    · rw [u3_n (by omega)]
    · rw [u3_n (by omega), u3_n (by omega)]
  · rw [u3_n (by omega), u3_n (by omega), u3_n (by omega), u3_n (by omega), u3_n (by omega), u3_n (by omega)]
theorem csets_fr {c i j : Nat} : ∀ m, ¬ (c ≤ 2 ∧ i < m) → sp_csets m Γ c i j = Γ c i j
  | 0, _ => rfl
  | m + 1, h => by
    show sp_silent (sp_csets m Γ) m c i j = _
    rw [sp_silent_fr (by omega)]
    exact csets_fr m (by omega)
/-- what becomes of a district's bids -/
def SV (d : Nat) (Γ G : Nat → Nat → Nat → Int32) : Prop :=
  (Γ 1 d 0 = 0 → G 0 d 0 = (if Γ 2 d 6 = 0 then Γ 0 d 0 else 0) ∧ G 0 d 1 = Γ 0 d 1 ∧ G 0 d 2 = Γ 0 d 2 ∧ G 0 d 3 = Γ 0 d 3 ∧ G 2 d 6 = 1) ∧
  (¬ Γ 1 d 0 = 0 → G 0 d 0 = 1 ∧ G 0 d 1 = Γ 1 d 1 ∧ G 0 d 2 = Γ 1 d 2 ∧ G 0 d 3 = Γ 1 d 3 ∧ G 2 d 6 = 0) ∧ G 1 d 0 = 0 ∧ (∀ j, j ≠ 6 → G 2 d j = Γ 2 d j)
theorem silent_SV {d : Nat} (X : Nat → Nat → Nat → Int32) (h0 : ∀ j, X 0 d j = Γ 0 d j) (h1 : ∀ j, X 1 d j = Γ 1 d j) (h2 : ∀ j, X 2 d j = Γ 2 d j) : SV d Γ (sp_silent X d) := by
  unfold SV sp_silent
  rw [← h1 0, ← h2 6, ← h0 0, ← h0 1, ← h0 2, ← h0 3, ← h1 1, ← h1 2, ← h1 3]
  by_cases c : X 1 d 0 = 0
  · rw [if_pos c]
    by_cases e : X 2 d 6 = 0
    · rw [if_pos e, if_pos e]
      refine ⟨fun _ => ⟨?_, ?_, ?_, ?_, u3_s⟩, fun z => absurd c z, ?_, fun j hj => ?_⟩
      · rw [u3_n (by omega)]
      · rw [u3_n (by omega)]
      · rw [u3_n (by omega)]
      · rw [u3_n (by omega)]
      · rw [u3_n (by omega)]; exact c
      · rw [u3_n (by omega)]; exact h2 j
    · rw [if_neg e, if_neg e]
      refine ⟨fun _ => ⟨?_, ?_, ?_, ?_, u3_s⟩, fun z => absurd c z, ?_, fun j hj => ?_⟩
      · rw [u3_n (by omega), u3_s]
      · rw [u3_n (by omega), u3_n (by omega)]
      · rw [u3_n (by omega), u3_n (by omega)]
      · rw [u3_n (by omega), u3_n (by omega)]
      · rw [u3_n (by omega), u3_n (by omega)]; exact c
      · rw [u3_n (by omega), u3_n (by omega)]; exact h2 j
  · rw [if_neg c]
    refine ⟨fun z => absurd z c, fun _ => ⟨?_, ?_, ?_, ?_, u3_s⟩, ?_, fun j hj => ?_⟩
    · rw [u3_n (by omega), u3_n (by omega), u3_n (by omega), u3_n (by omega), u3_n (by omega), u3_s]
    · rw [u3_n (by omega), u3_n (by omega), u3_n (by omega), u3_n (by omega), u3_s]
    · rw [u3_n (by omega), u3_n (by omega), u3_n (by omega), u3_s]
    · rw [u3_n (by omega), u3_n (by omega), u3_s]
    · rw [u3_n (by omega), u3_s]
    · rw [u3_n (by omega), u3_n (by omega), u3_n (by omega), u3_n (by omega), u3_n (by omega), u3_n (by omega)]; exact h2 j
theorem csets_at {d : Nat} : ∀ m, d < m → SV d Γ (sp_csets m Γ)
  | 0, h => absurd h (Nat.not_lt_zero _)
  | m + 1, h => by
    show SV d Γ (sp_silent (sp_csets m Γ) m)
    by_cases e : d = m
    · subst e
      exact silent_SV _ (fun j => csets_fr d (by omega)) (fun j => csets_fr d (by omega)) (fun j => csets_fr d (by omega))
    · have q := csets_at m (show d < m by omega)
      unfold SV at *
      rw [sp_silent_fr (by omega), sp_silent_fr (by omega), sp_silent_fr (by omega), sp_silent_fr (by omega), sp_silent_fr (by omega), sp_silent_fr (by omega)]
      refine ⟨q.1, q.2.1, q.2.2.1, fun j hj => ?_⟩
      rw [sp_silent_fr (by omega)]
      exact q.2.2.2 j hj
theorem sp_sum_0 : ∀ n, sp_sum (fun _ => 0) n = 0
  | 0 => rfl
  | n + 1 => by show sp_sum (fun _ => 0) n + 0 = 0; rw [sp_sum_0 n]; rfl
theorem settle_st {d : Nat} {G : Nat → Nat → Nat → Int32} (hSV : SV d Γ G) (z : ¬ G 0 d 0 = 0) : (Γ 1 d 0 = 0 ∧ ¬ Γ 0 d 0 = 0 ∧ G 0 d 3 = Γ 0 d 3 ∧ G 0 d 2 = Γ 0 d 2) ∨ (¬ Γ 1 d 0 = 0 ∧ G 0 d 3 = Γ 1 d 3 ∧ G 0 d 2 = Γ 1 d 2) := by
  obtain ⟨a1, a2, -, -⟩ := hSV
  by_cases c : Γ 1 d 0 = 0
  · left
    obtain ⟨b0, b1, b2, b3, b4⟩ := a1 c
    refine ⟨c, fun y => z ?_, b3, b2⟩
    rw [b0, y]
    split <;> rfl
  · right
    obtain ⟨b0, b1, b2, b3, b4⟩ := a2 c
    exact ⟨c, b3, b2⟩
theorem silent_fr1 {d : Nat} {Γ : Nat → Nat → Nat → Int32} {i j : Nat} (h : j ≠ 0) : sp_silent Γ d 1 i j = Γ 1 i j := by
  unfold sp_silent
  split
  · split
    · rw [u3_n (by omega)]
    · rw [u3_n (by omega), u3_n (by omega)]
  · rw [u3_n (by omega), u3_n (by omega), u3_n (by omega), u3_n (by omega), u3_n (by omega), u3_n (by omega)]
theorem csets_fr1 {Γ : Nat → Nat → Nat → Int32} {i j : Nat} (h : j ≠ 0) : ∀ m, sp_csets m Γ 1 i j = Γ 1 i j
  | 0 => rfl
  | m + 1 => by
    show sp_silent (sp_csets m Γ) m 1 i j = _
    rw [silent_fr1 h]
    exact csets_fr1 h m
theorem cclose_SV {n d : Nat} {Γ : Nat → Nat → Nat → Int32} (hd : d < n) : SV d Γ (sp_cclose n Γ) := by
  have q := csets_at (Γ := Γ) n hd
  unfold SV sp_cclose at *
  rw [u3_n (by omega), u3_n (by omega), u3_n (by omega), u3_n (by omega), u3_n (by omega), u3_n (by omega)]
  refine ⟨q.1, q.2.1, q.2.2.1, fun j hj => ?_⟩
  rw [u3_n (by omega)]
  exact q.2.2.2 j hj
theorem cclose_fr {n c i j : Nat} {Γ : Nat → Nat → Nat → Int32} (h : ¬ (c ≤ 2 ∧ i < n)) (h2 : ¬ (c = 5 ∧ j = 6)) : sp_cclose n Γ c i j = Γ c i j := by
  unfold sp_cclose
  rw [u3_n (by omega)]
  exact csets_fr n h
theorem lt_4 {a : Int32} (h : 0 ≤ a.toInt ∧ a.toInt ≤ 4) : a < 4 ↔ ¬ a = 4 := by
  rw [Int32.lt_iff_toInt_lt, ← Int32.toInt_inj]
  have : (4 : Int32).toInt = 4 := rfl
  omega
theorem cclose_1 {d j : Nat} (h : j ≠ 0) : sp_cclose n Γ 1 d j = Γ 1 d j := by
  unfold sp_cclose
  rw [u3_n (by omega)]
  exact csets_fr1 h n
theorem cclose_6 : sp_cclose n Γ 5 0 6 = 0 := u3_s
theorem settle_dst (h : CI T n p A B ord Γ) {G : Nat → Nat → Nat → Int32} (hSV : ∀ d, d < n → SV d Γ G) : dst G n := by
  intro x y hx hy hne z1 z2
  obtain ⟨s1, s2, s3⟩ := h.2.2.1 x y hx hy hne
  rcases settle_st (hSV x hx) z1 with ⟨a1, a2, a3, -⟩ | ⟨a1, a3, -⟩ <;> rcases settle_st (hSV y hy) z2 with ⟨b1, b2, b3, -⟩ | ⟨b1, b3, -⟩
  · rw [a3, b3]; exact s1 a2 b2
  · rw [a3, b3]; exact s2 a2 b1
  · rw [a3, b3]
    exact fun e => (h.2.2.1 y x hy hx (fun q => hne q.symm)).2.1 b2 a1 e.symm
  · rw [a3, b3]; exact s3 a1 b1
theorem settle_cb (h : CI T n p A B ord Γ) (d : Nat) (hd : d < n) (z : ¬ (sp_cclose n Γ) 0 d 0 = 0) : CB 0 d (sp_cclose n Γ) := by
  obtain ⟨a1, a2, -, -⟩ := cclose_SV (Γ := Γ) hd
  obtain ⟨-, q2, q3, -⟩ := h.2.1 d hd
  have e7 : sp_cclose n Γ 5 0 7 = Γ 5 0 7 := cclose_fr (by omega) (by omega)
  by_cases c : Γ 1 d 0 = 0
  · obtain ⟨b0, b1, b2, b3, -⟩ := a1 c
    have s : ¬ Γ 0 d 0 = 0 := fun y => z (by rw [b0, y]; split <;> rfl)
    have q := q2 s
    unfold CB at *
    rw [b1, b2, b3, e7]
    exact q
  · obtain ⟨b0, b1, b2, b3, -⟩ := a2 c
    have q := q3 c
    unfold CB at *
    rw [b1, b2, b3, e7]
    exact q
theorem close_dst (h : CI T n p A B ord Γ) : dst (sp_cclose n Γ) n := settle_dst h fun d hd => cclose_SV hd
theorem close_cap (h : CI T n p A B ord Γ) (d : Nat) (hd : d < n) (z : ¬ (sp_cclose n Γ) 0 d 0 = 0) : 0 ≤ ((sp_cclose n Γ) 0 d 2).toInt ∧ ((sp_cclose n Γ) 0 d 2).toInt ≤ 9999 := by
  have := (settle_cb h d hd z).2.1
  omega
theorem close_sc (h : CI T n p A B ord Γ) : SC (sp_cclose n Γ) n p A B := by
  obtain ⟨h1, h2, h3, h4⟩ := h.sc
  have e4 : ∀ i j, sp_cclose n Γ 4 i j = Γ 4 i j := fun i j => cclose_fr (by omega) (by omega)
  have e3 : sp_cclose n Γ 3 0 1 = Γ 3 0 1 := cclose_fr (by omega) (by omega)
  refine ⟨fun j hj => ?_, fun d hd => ?_, by rw [e3]; exact h3, by rw [e3]; exact h4⟩
  · have q := h1 j hj
    unfold KC at *
    rw [e4, e4, e4, e4]
    exact q
  · rw [(cclose_SV hd).2.2.2 0 (by omega)]
    exact h2 d hd
/-- the settled world, no round counted -/
theorem keep_settle (h : CI T n p A B ord Γ) (hf : Γ 5 0 5 = 0) (ho : ORD (sp_cclose n Γ) n ord') : CI T n p A B ord' (sp_cclose n Γ) := by
  obtain ⟨r1, r2, r3, r4, r5, r6⟩ := id h
  obtain ⟨g1, g2, g3, g4, g5, g6⟩ := id r1
  have f5 : ∀ j, j ≠ 6 → sp_cclose n Γ 5 0 j = Γ 5 0 j := fun j hj => cclose_fr (by omega) (by omega)
  have f3 : sp_cclose n Γ 3 0 1 = Γ 3 0 1 := cclose_fr (by omega) (by omega)
  refine ⟨?_, fun d hd => ?_, fun x y hx hy hne => ?_, fun j hj => (r4 j hj).congr (fun k => cclose_fr (by omega) (by omega)), ho, ⟨fun _ d hd => ?_, fun z => absurd ((f5 5 (by decide)).trans hf) z⟩⟩
  · unfold CG
    rw [f5 3 (by decide), f5 4 (by decide), f5 5 (by decide), f5 7 (by decide), f3, cclose_6]
    refine ⟨g1, g2, g3, g4, g5, ?_⟩
    rw [sp_sum_congr n (f := fun j => if sp_cclose n Γ 1 j 0 = 0 then (0 : Int32) else 1) (g := fun _ => 0) (fun j hj => by rw [(cclose_SV hj).2.2.1, if_pos rfl])]
    exact (sp_sum_0 n).symm
  · obtain ⟨q1, q2, q3, q4, q5, q6, q7, q8, q9⟩ := r2 d hd
    obtain ⟨a1, a2, a3, a4⟩ := cclose_SV (Γ := Γ) hd
    have got0 := r6.1 hf d hd
    unfold CD
    rw [a4 0 (by decide), a4 1 (by decide), a4 2 (by decide), a4 3 (by decide), a4 8 (by decide), a3]
    refine ⟨q1, settle_cb h d hd, fun z => absurd rfl z, fun _ => got0, q5, q6, q7, q8, fun z => ?_⟩
    have := (settle_cb h d hd z).2.1
    rw [got0, tI_0]
    omega
  · refine ⟨close_dst h x y hx hy hne, fun _ z => absurd (cclose_SV hy).2.2.1 z, fun _ z => absurd (cclose_SV hy).2.2.1 z⟩
  · rw [(cclose_SV hd).2.2.2 8 (by decide)]
    exact r6.1 hf d hd
theorem keep_round {R : Nat → Nat → Nat → Int32} (h : CI T n p A B ord R) (hlt : (R 5 0 4).toInt < 4) : CI T n p A B ord (u3 R 5 0 4 (R 5 0 4 + 1)) := by
  obtain ⟨r1, r2, r3, r4, r5, r6⟩ := h
  obtain ⟨g1, g2, g3, g4, g5, g6⟩ := r1
  have F : ∀ c i j, ¬ (c = 5 ∧ j = 4) → u3 R 5 0 4 (R 5 0 4 + 1) c i j = R c i j := fun c i j z => u3_n (by omega)
  refine ⟨?_, fun d hd => (r2 d hd).congr (fun j => F _ _ _ (by omega)) (fun j => F _ _ _ (by omega)) (fun j _ => F _ _ _ (by omega)) (by rw [F 5 0 7 (by omega)]; exact Int.le_refl _), r3.congr (fun d j => F _ _ _ (by omega)) (fun d j => F _ _ _ (by omega)), fun j hj => (r4 j hj).congr (fun k => F _ _ _ (by omega)), r5.congr (fun i j _ => F _ _ _ (by omega)), r6.congr (F _ _ _ (by omega)) (F _ _ _ (by omega)) (fun d j _ => F _ _ _ (by omega)) (fun i j => F _ _ _ (by omega))⟩
  have h1 : (1 : Int32).toInt = 1 := rfl
  have hs : (R 5 0 4 + 1).toInt = (R 5 0 4).toInt + 1 := by rw [tI_add] <;> omega
  unfold CG
  rw [u3_s, F 5 0 3 (by omega), F 5 0 5 (by omega), F 5 0 6 (by omega), F 5 0 7 (by omega), F 3 0 1 (by omega), hs, sp_sum_congr n (f := fun j => if u3 R 5 0 4 (R 5 0 4 + 1) 1 j 0 = 0 then (0 : Int32) else 1) (g := fun j => if R 1 j 0 = 0 then 0 else 1) (fun j _ => by rw [F 1 j 0 (by omega)])]
  exact ⟨g1, by omega, g3, g4, g5, g6⟩
/-- not over -/
theorem keep_close_0c (h : CI T n p A B ord Γ) (hf : Γ 5 0 5 = 0) (hr : Γ 5 0 4 < 4) (ho : ORD (sp_cclose n Γ) n ord') : CI T n p A B ord' (u3 (sp_cclose n Γ) 5 0 4 ((sp_cclose n Γ) 5 0 4 + 1)) := by
  refine keep_round (keep_settle h hf ho) ?_
  rw [cclose_fr (by omega) (by omega)]
  exact Int32.lt_iff_toInt_lt.mp hr
end KEEP4
