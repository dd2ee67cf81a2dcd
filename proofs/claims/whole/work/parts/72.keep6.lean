/-! ===== close ===== -/
theorem silent_fr1 {d : Nat} {Γ : Nat → Nat → Nat → Int32} {i j : Nat} (h : j ≠ 0) : sp_silent Γ d 1 i j = Γ 1 i j := by
  unfold sp_silent
  split
  · split
    · rw [u3_n (by omega)]
    · rw [u3_n (by omega), u3_n (by omega)]
  · rw [u3_n (by omega), u3_n (by omega), u3_n (by omega), u3_n (by omega), u3_n (by omega), u3_n (by omega)]
theorem csets_fr1 {Γ : Nat → Nat → Nat → Int32} {i j : Nat} (h : j ≠ 0) : ∀ m, sp_csets m Γ 1 i j = Γ 1 i j
  | 0 => rfl
  | m + 1 => by
    show sp_silent (sp_csets m Γ) m 1 i j = _
    rw [silent_fr1 h]
    exact csets_fr1 h m
theorem cclose_SV {n d : Nat} {Γ : Nat → Nat → Nat → Int32} (hd : d < n) : SV d Γ (sp_cclose n Γ) := by
  have q := csets_at (Γ := Γ) n hd
  unfold SV sp_cclose at *
  rw [u3_n (by omega), u3_n (by omega), u3_n (by omega), u3_n (by omega), u3_n (by omega), u3_n (by omega)]
  refine ⟨q.1, q.2.1, q.2.2.1, fun j hj => ?_⟩
  rw [u3_n (by omega)]
  exact q.2.2.2 j hj
theorem cclose_fr {n c i j : Nat} {Γ : Nat → Nat → Nat → Int32} (h : ¬ (c ≤ 2 ∧ i < n)) (h2 : ¬ (c = 5 ∧ j = 6)) : sp_cclose n Γ c i j = Γ c i j := by
  unfold sp_cclose
  rw [u3_n (by omega)]
  exact csets_fr n h
/-- settled, both sides, no round counted: X is the world when the model begins -/
def mixR (n : Nat) (Γ X : Nat → Nat → Nat → Int32) : Nat → Nat → Nat → Int32 := fun c i j => if c ≤ 10 then sp_cclose n Γ c i j else if c = 11 ∧ i = 0 ∧ j = 1 then Γ 11 0 1 else sp_msets n X c i j
section KEEP6
variable {T n p : Nat} {A B : Nat → Nat} {ord ord' : List Nat} {Γ X : Nat → Nat → Nat → Int32}
theorem mixR_c {c i j : Nat} (h : c ≤ 10) : mixR n Γ X c i j = sp_cclose n Γ c i j := if_pos h
theorem mixR_m {c i j : Nat} (h : 11 ≤ c) (h2 : ¬ (c = 11 ∧ j = 1)) : mixR n Γ X c i j = sp_msets n X c i j := (if_neg (by omega)).trans (if_neg (by omega))
theorem settle_R (h : RI T n p A B ord Γ) (hf : Γ 5 0 5 = 0) (hX : ∀ c i j, 11 ≤ c → X c i j = Γ c i j) (ho : ORD (sp_cclose n Γ) n ord') : RI T n p A B ord' (mixR n Γ X) := by
  refine keep_settle h hf (ho.congr fun i j _ => mixR_c (by omega)) (fun d hd => ?_) (fun d hd => ?_) ?_ (fun c i j h1 h2 h3 h4 => ?_) (fun d j hj => ?_)
  · have q := cclose_SV (Γ := Γ) hd
    unfold SV at *
    rw [mixR_c (by omega), mixR_c (by omega), mixR_c (by omega), mixR_c (by omega), mixR_c (by omega), mixR_c (by omega)]
    refine ⟨q.1, q.2.1, q.2.2.1, fun j hj => ?_⟩
    rw [mixR_c (by omega)]
    exact q.2.2.2 j hj
  · have q := msets_at (Γ := X) n hd
    unfold SM at *
    rw [mixR_m (by omega) (by omega), mixR_m (by omega) (by omega), mixR_m (by omega) (by omega), mixR_m (by omega) (by omega), mixR_m (by omega) (by omega), mixR_m (by omega) (by omega), mixR_m (by omega) (by omega)]
    rw [hX 13 14 d (by omega), hX 13 10 d (by omega), hX 13 15 d (by omega), hX 12 7 d (by omega), hX 12 8 d (by omega), hX 12 9 d (by omega), hX 12 11 d (by omega), hX 12 12 d (by omega), hX 12 13 d (by omega), hX 13 28 d (by omega)] at q
    refine ⟨q.1, q.2.1, q.2.2.1, fun k hk => ?_, q.2.2.2.2⟩
    rw [mixR_m (by omega) (by omega), q.2.2.2.1 k hk, hX _ _ _ (by omega)]
  · rw [mixR_c (by omega)]
    exact u3_s
  · by_cases e : c ≤ 10
    · rw [mixR_c e, cclose_fr h1 h2]
    · by_cases e2 : c = 11 ∧ i = 0 ∧ j = 1
      · obtain ⟨rfl, rfl, rfl⟩ := e2
        exact (if_neg e).trans (if_pos ⟨rfl, rfl, rfl⟩)
      · show (if c ≤ 10 then _ else if c = 11 ∧ i = 0 ∧ j = 1 then Γ 11 0 1 else sp_msets n X c i j) = _
        rw [if_neg e, if_neg e2, msets_fr h3 n h4, hX _ _ _ (by omega)]
  · rw [mixR_c (by omega)]
    unfold sp_cclose
    rw [u3_n (by omega)]
    exact csets_fr1 hj n
theorem mixR_close {c i j : Nat} (h : 11 ≤ c) (h2 : ¬ (c = 11 ∧ j = 1)) : sp_mclose n X c i j = mixR n Γ X c i j := by
  rw [mixR_m h h2]
  unfold sp_mclose
  rw [u3_n (by omega)]
theorem close_sj (hR : RI T n p A B ord' (mixR n Γ X)) (hn : n ≤ 8) : SJ (sp_mclose n X) n p A B (od ord') ord'.length := (hR.sj hn).congr fun c i j z => mixR_close (by omega) (by omega)
theorem RI.st (h : RI T n p A B ord Γ) {i : Nat} (hi : i < ord.length) : od ord i < n ∧ ¬ Γ 0 (od ord i) 0 = 0 := h.2.2.2.2.1.mem.mp (od_mem hi)
theorem close_mo (hR : RI T n p A B ord' (mixR n Γ X)) (i : Nat) (hi : i < ord'.length) : 0 ≤ (sp_mclose n X 12 8 (od ord' i)).toInt ∧ (sp_mclose n X 12 8 (od ord' i)).toInt ≤ 9999 := by
  obtain ⟨a1, a2⟩ := hR.st hi
  have q := (hR.2.1 _ a1).2.2.1 a2
  rw [mixR_close (Γ := Γ) (by omega) (by omega), q.2.1]
  exact q.2.2.2.2.1
theorem close_sc (h : RI T n p A B ord Γ) : SC (sp_cclose n Γ) n p (nuf A) (nuf B) := by
  obtain ⟨h1, h2, h3, h4⟩ := h.sc
  have e4 : ∀ i j, sp_cclose n Γ 4 i j = Γ 4 i j := fun i j => cclose_fr (by omega) (by omega)
  have e3 : sp_cclose n Γ 3 0 1 = Γ 3 0 1 := cclose_fr (by omega) (by omega)
  refine ⟨fun j hj => ?_, fun d hd => ?_, by rw [e3]; exact h3, by rw [e3]; exact h4⟩
  · have q := h1 j hj
    unfold KC at *
    rw [e4, e4, e4, e4]
    exact q
  · rw [(cclose_SV hd).2.2.2 0 (by omega)]
    exact h2 d hd
theorem close_dst (h : RI T n p A B ord Γ) : dst (sp_cclose n Γ) n := settle_dst h fun d hd => cclose_SV hd
theorem close_cap (h : RI T n p A B ord Γ) (d : Nat) (hd : d < n) (z : ¬ (sp_cclose n Γ) 0 d 0 = 0) : 0 ≤ ((sp_cclose n Γ) 0 d 2).toInt ∧ ((sp_cclose n Γ) 0 d 2).toInt ≤ 9999 := settle_units h (fun d hd => cclose_SV hd) d hd z
theorem close_told (h : RI T n p A B ord Γ) (hX : ∀ c i j, 11 ≤ c → X c i j = Γ c i j) : sp_sum (fun j => if (u3 X 11 0 34 0) 13 14 j = 0 then (0 : Int32) else 1) n = Γ 5 0 6 := by
  rw [h.1.2.2.2.2.2.2.2.2.2.2.2]
  exact sp_sum_congr n fun j _ => by rw [u3_n (by omega), hX _ _ _ (by omega)]
theorem lt_4 {a : Int32} (h : 0 ≤ a.toInt ∧ a.toInt ≤ 4) : a < 4 ↔ ¬ a = 4 := by
  rw [Int32.lt_iff_toInt_lt, ← Int32.toInt_inj]
  have : (4 : Int32).toInt = 4 := rfl
  omega
/-- not over -/
theorem keep_close_0c (h : RI T n p A B ord Γ) (hf : Γ 5 0 5 = 0) (hr : Γ 5 0 4 < 4) (ho : ORD (sp_cclose n Γ) n ord') : RI T n p A B ord' (sp_mclose n (u3 (sp_cclose n Γ) 5 0 4 ((sp_cclose n Γ) 5 0 4 + 1))) := by
  obtain ⟨X, eX⟩ : ∃ X, X = u3 (sp_cclose n Γ) 5 0 4 ((sp_cclose n Γ) 5 0 4 + 1) := ⟨_, rfl⟩
  have hX : ∀ c i j, 11 ≤ c → X c i j = Γ c i j := fun c i j z => by rw [eX, u3_n (by omega), cclose_fr (by omega) (by omega)]
  have hR := settle_R h hf hX ho
  rw [← eX]
  have m4 : sp_mclose n X 5 0 4 = Γ 5 0 4 + 1 := by
    unfold sp_mclose
    rw [u3_n (by omega), sp_msets_g (by omega) (by omega), eX, u3_s, cclose_fr (by omega) (by omega)]
  have m1 : sp_mclose n X 11 0 1 = Γ 11 0 1 + 1 := by
    unfold sp_mclose
    rw [u3_s, sp_msets_g (by omega) (by omega), hX _ _ _ (by omega)]
  have g5 := h.1.2.2.2.2.1
  have g6 := h.1.2.2.2.2.2.1
  rw [if_pos hf] at g6
  have hlt := Int32.lt_iff_toInt_lt.mp hr
  have h4 : (4 : Int32).toInt = 4 := rfl
  have hs : (Γ 5 0 4 + 1).toInt = (Γ 5 0 4).toInt + 1 := by
    rw [tI_add] <;> have h1 : (1 : Int32).toInt = 1 := rfl <;> omega
  refine keep_round hR ?_ (fun c i j z1 z2 => ?_) ?_ ?_
  · rw [mixR_c (by omega), cclose_fr (by omega) (by omega)]
    exact hf
  · by_cases e : c ≤ 10
    · rw [mixR_c e]
      unfold sp_mclose
      rw [u3_n (by omega), sp_msets_g (by omega) (by omega), eX, u3_n (by omega)]
    · by_cases e2 : c = 11 ∧ j = 1
      · obtain ⟨rfl, rfl⟩ := e2
        have e3 : ¬ i = 0 := fun z => z2 ⟨rfl, z, rfl⟩
        unfold sp_mclose
        rw [u3_n (by omega)]
        exact ((if_neg e).trans (if_neg (by omega))).symm
      · exact mixR_close (by omega) e2
  · rw [m4, hs]; omega
  · rw [m1, m4, g6]
end KEEP6
