/-! ===== bursts ===== -/
theorem sum_od {f : Nat → Int32} {ord : List Nat} {n : Nat} (hlt : ∀ i, i < ord.length → od ord i < n) (hinj : ∀ i k, i < ord.length → k < ord.length → od ord i = od ord k → i = k) (hz : ∀ d, d < n → (∀ k, k < ord.length → d ≠ od ord k) → f d = 0) : sp_sum (fun k => f (od ord k)) ord.length = sp_sum f n := by
  classical
  have key : ∀ k, k ≤ ord.length → sp_sum (fun k => f (od ord k)) k = sp_sum (fun d => if ∃ i, i < k ∧ od ord i = d then f d else 0) n := by
    intro k
    induction k with
    | zero =>
      intro _
      rw [sp_sum_congr n (g := fun _ => 0) (fun j _ => if_neg (fun ⟨i, hi, _⟩ => absurd hi (Nat.not_lt_zero _)))]
      exact (sp_sum_0 n).symm
    | succ k ih =>
      intro hk
      show sp_sum (fun k => f (od ord k)) k + f (od ord k) = _
      rw [ih (by omega), sp_sum_upd (f := fun d => if ∃ i, i < k ∧ od ord i = d then f d else 0) (g := fun d => if ∃ i, i < k + 1 ∧ od ord i = d then f d else 0) n (hlt k (by omega)) (fun j hj hne => ?_)]
      · congr 1
        have p1 : (∃ i, i < k + 1 ∧ od ord i = od ord k) := ⟨k, by omega, rfl⟩
        have p2 : ¬ (∃ i, i < k ∧ od ord i = od ord k) := fun ⟨i, hi, e⟩ => by
          have := hinj i k (by omega) (by omega) e
          omega
        show _ = (if _ then f (od ord k) else 0) - (if _ then f (od ord k) else 0)
        rw [if_pos p1, if_neg p2, Int32.sub_zero]
      · by_cases c : ∃ i, i < k ∧ od ord i = j
        · obtain ⟨i, hi, e⟩ := c
          show (if _ then f j else 0) = (if _ then f j else 0)
          rw [if_pos ⟨i, by omega, e⟩, if_pos ⟨i, hi, e⟩]
        · show (if _ then f j else 0) = (if _ then f j else 0)
          rw [if_neg c, if_neg (fun ⟨i, hi, e⟩ => by
            by_cases e2 : i = k
            · subst e2; exact hne e.symm
            · exact c ⟨i, by omega, e⟩)]
  rw [key _ (Nat.le_refl _)]
  refine sp_sum_congr n fun d hd => ?_
  by_cases c : ∃ i, i < ord.length ∧ od ord i = d
  · exact if_pos c
  · rw [if_neg c]
    exact (hz d hd (fun k hk e => c ⟨k, hk, e.symm⟩)).symm
theorem Int32_0_div : (0 : Int32) / 10 = 0 := by decide
section KEEP9
variable {T n p : Nat} {A B : Nat → Nat} {ord : List Nat} {Γ : Nat → Nat → Nat → Int32}
/-- what a burst leaves: i has burst, each gets less by less d and is paid back -/
def BUR (n i : Nat) (Γ W : Nat → Nat → Nat → Int32) : Prop :=
  (∀ c i' j, 11 ≤ c ∨ (c = 2 ∧ ¬ (j = 7 ∨ j = 8 ∨ j = 10)) ∨ c = 5 ∨ c ≤ 1 ∨ (c = 4 ∧ ¬ (i' = i ∧ j = 3)) → W c i' j = Γ c i' j) ∧ W 4 i 3 = 1 ∧
  (∀ d, d < n → (0 ≤ (Γ 2 d 8 - W 2 d 8).toInt ∧ (Γ 2 d 8 - W 2 d 8).toInt ≤ 999) ∧ W 2 d 10 = Γ 2 d 10 + (if Γ 2 d 8 - W 2 d 8 = 0 then 0 else (Γ 2 d 8 - W 2 d 8) * prc W d + (Γ 2 d 8 - W 2 d 8) * prc W d / 10))
theorem keep_burst (h : CI T n p A B ord Γ) (hf : ¬ Γ 5 0 5 = 0) {i : Nat} (hi : i < p) {G1 : Nat → Nat → Nat → Int32} {x : Nat → Int} (hC : CST (cit 7 F7g ord ord.length (u3 Γ 4 i 3 1)) G1 p A B ord x) :
    CI T n p A B ord (cit 10 Fback ord ord.length G1) ∧ BUR n i Γ (cit 10 Fback ord ord.length G1) ∧ sp_sum (fun k => G1 2 (od ord k) 7 - G1 2 (od ord k) 8) ord.length = sp_sum (fun d => Γ 2 d 8 - (cit 10 Fback ord ord.length G1) 2 d 8) n := by
  obtain ⟨W, eW⟩ : ∃ W, W = cit 10 Fback ord ord.length G1 := ⟨_, rfl⟩
  rw [← eW]
  have hinj := h.2.2.2.2.1.inj
  have hlt : ∀ k, k < ord.length → od ord k < n := fun k hk => (h.st hk).1
  obtain ⟨c1, c2, c3⟩ := hC
  have Y : ∀ c i' j, ¬ (c = 2 ∧ j = 7) → ¬ (c = 4 ∧ i' = i ∧ j = 3) → cit 7 F7g ord ord.length (u3 Γ 4 i 3 1) c i' j = Γ c i' j := fun c i' j z1 z2 => by rw [cit_fr (by omega), u3_n (by omega)]
  have G : ∀ c i' j, ¬ irr c j → ¬ (c = 2 ∧ (j = 7 ∨ j = 8)) → ¬ (c = 4 ∧ i' = i ∧ j = 3) → G1 c i' j = Γ c i' j := fun c i' j z1 z2 z3 => by
    unfold irr at z1
    rw [c1 c i' j (by omega) (by omega) (by omega) (by omega), Y c i' j (by omega) (by omega)]
  have Wf : ∀ c i' j, ¬ irr c j → ¬ (c = 2 ∧ (j = 7 ∨ j = 8 ∨ j = 10)) → ¬ (c = 4 ∧ i' = i ∧ j = 3) → W c i' j = Γ c i' j := fun c i' j z1 z2 z3 => by
    rw [eW, cit_fr (by omega), G c i' j z1 (by omega) z3]
  have W11 : ∀ c i' j, 11 ≤ c → W c i' j = Γ c i' j := fun c i' j z => by
    rw [eW, cit_fr (by omega), c1 c i' j (by omega) (by omega) (by omega) (by omega), Y c i' j (by omega) (by omega)]
  have w43 : W 4 i 3 = 1 := by
    rw [eW, cit_fr (by omega), c1 4 i 3 (by omega) (by omega) (by omega) (by omega), cit_fr (by omega), u3_s]
  have w8 : ∀ d, W 2 d 8 = G1 2 d 8 := fun d => by rw [eW, cit_fr (by omega)]
  have g7 : ∀ d, G1 2 d 7 = cit 7 F7g ord ord.length (u3 Γ 4 i 3 1) 2 d 7 := fun d => c1 2 d 7 (by omega) (by omega) (by omega) (by omega)
  have w7 : ∀ d, W 2 d 7 = cit 7 F7g ord ord.length (u3 Γ 4 i 3 1) 2 d 7 := fun d => by rw [eW, cit_fr (by omega), g7]
  have w7o : ∀ k, k < ord.length → W 2 (od ord k) 7 = Γ 2 (od ord k) 8 := fun k hk => by
    rw [w7, cit_at cloc_7g hinj (Nat.le_refl _) hk]
    unfold F7g
    rw [u3_n (by omega)]
  have h8n : ∀ d, d < n → Γ 0 d 0 = 0 → W 2 d 8 = 0 := fun d hd z => by
    rw [w8, c1 2 d 8 (by omega) (by omega) (by omega) (fun _ _ k hk => not_od h (fun _ => z) k hk), Y 2 d 8 (by omega) (by omega)]
    exact (h.2.1 d hd).2.2.2.1 z
  have kc : KC W = KC (cit 7 F7g ord ord.length (u3 Γ 4 i 3 1)) := frE.kc fun i' j => by
    by_cases e : i' = i ∧ j = 3
    · obtain ⟨rfl, rfl⟩ := e
      rw [w43, cit_fr (by omega), u3_s]
    · rw [Wf 4 i' j (by unfold irr; omega) (by omega) (by omega), Y 4 i' j (by omega) (by omega)]
  have e31 : cit 7 F7g ord ord.length (u3 Γ 4 i 3 1) 3 0 1 = Γ 3 0 1 := Y 3 0 1 (by omega) (by omega)
  have f5 : W 5 0 5 = 1 := by
    rw [Wf 5 0 5 (by unfold irr; omega) (by omega) (by omega)]
    exact h.1.2.2.1.resolve_left hf
  have hcap : ∀ k, k < ord.length → 0 ≤ (W 2 (od ord k) 7).toInt ∧ (W 2 (od ord k) 7).toInt ≤ (Γ 0 (od ord k) 2).toInt := fun k hk => by
    rw [w7o k hk]
    obtain ⟨s1, s2⟩ := h.st hk
    have q := h.2.1 _ s1
    exact ⟨q.2.2.2.2.1.1, q.2.2.2.2.2.2.2.2 s2⟩
  have hsq : SEQ (CM p A B (KC W)) (Γ 3 0 1).toInt (od ord) (fun i => (W 2 (od ord i) 7).toInt) x ord.length := by
    rw [kc, ← e31]
    exact c3.congr (fun i _ => rfl) (fun i _ => by show (W 2 (od ord i) 7).toInt = _; rw [w7])
  have hci : CI T n p A B ord W := by
    refine keep_flowing (x := x) h (fun c i' j z => ?_) f5 (fun j hj => ?_) (fun k hk => by rw [w8]; exact c2 k hk) h8n hcap hsq
    · exact Wf c i' j (fun y => z (Or.inl y)) (fun y => z (Or.inr (Or.inl ⟨y.1, by omega, by omega⟩))) (fun y => z (Or.inr (Or.inr (Or.inr ⟨y.1, y.2.2⟩))))
    · by_cases e : j = i
      · rw [e, w43]
        exact Or.inr rfl
      · rw [Wf 4 j 3 (by unfold irr; omega) (by omega) (by omega)]
        exact (h.2.2.2.1 j hj).2.2.2.2.2
  have hp := SEQ.pos h.1.2.2.2.2.1.1 ord.length hsq
  have hles : ∀ d, d < n → 0 ≤ (Γ 2 d 8 - W 2 d 8).toInt ∧ (Γ 2 d 8 - W 2 d 8).toInt ≤ 999 := fun d hd => by
    have q := (h.2.1 d hd).2.2.2.2.1
    have q2 := (hci.2.1 d hd).2.2.2.2.1
    have hle : (W 2 d 8).toInt ≤ (Γ 2 d 8).toInt := by
      by_cases z : Γ 0 d 0 = 0
      · rw [h8n d hd z, tI_0]
        exact q.1
      · obtain ⟨k, hk, e⟩ := od_ex (h.2.2.2.2.1.mem.mpr ⟨hd, z⟩)
        have a := c2 k hk
        have b := (hp.1 k hk).2
        have b' : x k ≤ (W 2 (od ord k) 7).toInt := b
        rw [w7o k hk] at b'
        rw [e] at a b'
        rw [w8, a]
        exact b'
    rw [tI_sub (by omega) (by omega)]
    omega
  refine ⟨hci, ⟨fun c i' j z => ?_, w43, fun d hd => ⟨hles d hd, ?_⟩⟩, ?_⟩
  · by_cases e : 11 ≤ c
    · exact W11 c i' j e
    · exact Wf c i' j (by unfold irr; omega) (by omega) (by omega)
  · unfold prc
    rw [Wf 0 d 0 (by unfold irr; omega) (by omega) (by omega), Wf 0 d 1 (by unfold irr; omega) (by omega) (by omega)]
    by_cases z : Γ 0 d 0 = 0
    · have e0 : Γ 2 d 8 - W 2 d 8 = 0 := by rw [h8n d hd z, (h.2.1 d hd).2.2.2.1 z]; rfl
      rw [if_pos e0, Int32.add_zero, eW, cit_n (not_od h (fun _ => z)), G 2 d 10 (by unfold irr; omega) (by omega) (by omega)]
    · rw [if_neg z]
      obtain ⟨k, hk, rfl⟩ := od_ex (h.2.2.2.2.1.mem.mpr ⟨hd, z⟩)
      have e10 : W 2 (od ord k) 10 = Γ 2 (od ord k) 10 + (Γ 0 (od ord k) 1 * (Γ 2 (od ord k) 8 - W 2 (od ord k) 8) + Γ 0 (od ord k) 1 * (Γ 2 (od ord k) 8 - W 2 (od ord k) 8) / 10) := by
        rw [w8, eW, cit_at cloc_back hinj (Nat.le_refl _) hk]
        unfold Fback
        rw [G 0 _ 1 (by unfold irr; omega) (by omega) (by omega), G 2 _ 10 (by unfold irr; omega) (by omega) (by omega), g7, ← w7, w7o k hk]
      rw [e10]
      by_cases c : Γ 2 (od ord k) 8 - W 2 (od ord k) 8 = 0
      · rw [if_pos c, c, Int32.mul_zero, Int32_0_div, Int32.add_zero]
      · rw [if_neg c, Int32.mul_comm]
  · rw [← sum_od (f := fun d => Γ 2 d 8 - W 2 d 8) hlt hinj (fun d hd hne => ?_)]
    · refine sp_sum_congr ord.length fun k hk => ?_
      show G1 2 (od ord k) 7 - G1 2 (od ord k) 8 = Γ 2 (od ord k) 8 - W 2 (od ord k) 8
      rw [w8, g7, ← w7, w7o k hk]
    · have z : Γ 0 d 0 = 0 := by
        by_cases c : Γ 0 d 0 = 0
        · exact c
        · obtain ⟨k, hk, e⟩ := od_ex (h.2.2.2.2.1.mem.mpr ⟨hd, c⟩)
          exact absurd e.symm (hne k hk)
      show Γ 2 d 8 - W 2 d 8 = 0
      rw [h8n d hd z, (h.2.1 d hd).2.2.2.1 z]
      rfl
/-- a burst while there is bidding -/
theorem bur_bid (h : CI T n p A B ord Γ) (hf : Γ 5 0 5 = 0) {i : Nat} : BUR n i Γ (u3 Γ 4 i 3 1) := by
  refine ⟨fun c i' j z => u3_n (by omega), u3_s, fun d hd => ?_⟩
  have e : Γ 2 d 8 - u3 Γ 4 i 3 1 2 d 8 = 0 := by rw [u3_n (by omega), Int32.sub_self]
  rw [e, if_pos rfl, u3_n (by omega), Int32.add_zero]
  exact ⟨⟨by decide, by decide⟩, rfl⟩
end KEEP9
