/-! ===== all is flowing ===== -/
section KEEP7
variable {T n p : Nat} {A B : Nat → Nat} {ord : List Nat} {R W : Nat → Nat → Nat → Int32} {x : Nat → Int}
theorem keep_flowing (h : CI T n p A B ord R) (hF : ∀ c i j, ¬ (irr c j ∨ (c = 2 ∧ 7 ≤ j ∧ j ≤ 10) ∨ (c = 5 ∧ j = 5) ∨ (c = 4 ∧ j = 3)) → W c i j = R c i j) (f5 : W 5 0 5 = 1) (hb : ∀ j, j < p → W 4 j 3 = 0 ∨ W 4 j 3 = 1)
    (h8 : ∀ i, i < ord.length → (W 2 (od ord i) 8).toInt = x i) (h8n : ∀ d, d < n → R 0 d 0 = 0 → W 2 d 8 = 0) (h7 : ∀ i, i < ord.length → 0 ≤ (W 2 (od ord i) 7).toInt ∧ (W 2 (od ord i) 7).toInt ≤ (R 0 (od ord i) 2).toInt) (hsq : SEQ (CM p A B (KC W)) (R 3 0 1).toInt (od ord) (fun i => (W 2 (od ord i) 7).toInt) x ord.length) : CI T n p A B ord W := by
  obtain ⟨r1, r2, r3, r4, r5, r6⟩ := id h
  obtain ⟨g1, g2, g3, g4, g5, g6⟩ := id r1
  have f : ∀ c i j, (c ≤ 1 ∨ (c = 2 ∧ j < 7) ∨ (c = 4 ∧ j ≠ 3) ∨ (c = 5 ∧ j ≠ 5) ∨ (c = 3 ∧ j = 1)) → W c i j = R c i j := fun c i j z => hF c i j (by unfold irr; omega)
  have hp := SEQ.pos g5.1 ord.length hsq
  have f3 : W 3 0 1 = R 3 0 1 := f _ _ _ (by omega)
  have fne : ¬ W 5 0 5 = 0 := by rw [f5]; decide
  refine ⟨?_, fun d hd => ?_, r3.congr (fun d j => f _ _ _ (by omega)) (fun d j => f _ _ _ (by omega)), fun j hj => ?_, r5.congr (fun i j _ => f _ _ _ (by omega)), ⟨fun z => absurd z fne, fun _ => ⟨fun i hi => ?_, ?_⟩⟩⟩
  · unfold CG
    rw [f 5 0 3 (by omega), f 5 0 4 (by omega), f 5 0 6 (by omega), f 5 0 7 (by omega), f3, sp_sum_congr n (f := fun j => if W 1 j 0 = 0 then (0 : Int32) else 1) (g := fun j => if R 1 j 0 = 0 then 0 else 1) (fun j _ => by rw [f 1 j 0 (by omega)])]
    exact ⟨g1, g2, Or.inr f5, g4, g5, g6⟩
  · obtain ⟨a1, a2, a3, a4, a5, a6, a7, a8, a9⟩ := r2 d hd
    have e7 : (R 5 0 7).toInt ≤ (W 5 0 7).toInt := by rw [f 5 0 7 (by omega)]; exact Int.le_refl _
    have hgot : (0 ≤ (W 2 d 8).toInt ∧ (W 2 d 8).toInt ≤ 999) ∧ (¬ R 0 d 0 = 0 → (W 2 d 8).toInt ≤ (R 0 d 2).toInt) := by
      by_cases z : R 0 d 0 = 0
      · rw [h8n d hd z]
        exact ⟨⟨by decide, by decide⟩, fun y => absurd z y⟩
      · obtain ⟨i, hi, e⟩ := od_ex (r5.mem.mpr ⟨hd, z⟩)
        have a := h8 i hi
        have b := hp.1 i hi
        have c := h7 i hi
        have u := (a2 z).2.1
        rw [e] at a b c
        rw [a]
        exact ⟨⟨b.1, by omega⟩, fun _ => by omega⟩
    unfold CD
    rw [f 2 d 0 (by omega), f 2 d 1 (by omega), f 2 d 2 (by omega), f 2 d 3 (by omega), f 0 d 0 (by omega), f 1 d 0 (by omega), f 0 d 2 (by omega)]
    exact ⟨a1, fun z => (a2 z).congr (fun j => f _ _ _ (by omega)) e7, fun z => (a3 z).congr (fun j => f _ _ _ (by omega)) e7, fun z => h8n d hd z, hgot.1, a6, a7, a8, hgot.2⟩
  · obtain ⟨a1, a2, a3, a4, a5, a6⟩ := r4 j hj
    unfold CP
    rw [f 4 j 0 (by omega), f 4 j 1 (by omega), f 4 j 2 (by omega)]
    exact ⟨a1, a2, a3, a4, a5, hb j hj⟩
  · obtain ⟨s1, s2⟩ := h.st hi
    have u := ((r2 _ s1).2.1 s2).2.1
    have c := h7 i hi
    omega
  · rw [f3]
    intro i hi
    have q := hsq i hi
    have e8 : ∀ y, y < ord.length → (W 2 (od ord y) 8).toInt = x y := h8
    rw [gS_congr i (x := fun i => (W 2 (od ord i) 8).toInt) (y := x) (fun y hy => e8 y (by omega)), zs_congr (f := fun i => (W 2 (od ord i) 8).toInt) (g := x) i (fun y hy => e8 y (by omega))]
    show Amt _ _ _ _ (W 2 (od ord i) 8).toInt
    rw [e8 i hi]
    exact q
/-- the price of a district's bid, as it is told -/
def prc (Γ : Nat → Nat → Nat → Int32) (d : Nat) : Int32 := if Γ 0 d 0 = 0 then -1 else Γ 0 d 1
end KEEP7
section KEEP8
variable {T n p : Nat} {A B : Nat → Nat} {ord ord' : List Nat} {Γ : Nat → Nat → Nat → Int32}
/-- what a close that begins the flowing leaves -/
def CLO (n : Nat) (ord' : List Nat) (Γ W : Nat → Nat → Nat → Int32) : Prop :=
  (∀ c i j, 11 ≤ c ∨ c = 4 ∨ (c = 2 ∧ ¬ (j = 6 ∨ j = 7 ∨ j = 8 ∨ j = 9)) ∨ (c = 5 ∧ (j = 3 ∨ j = 8)) → W c i j = Γ c i j) ∧ W 5 0 5 = 1 ∧
  (∀ i, i < ord'.length → W 2 (od ord' i) 7 = W 0 (od ord' i) 2) ∧ (∀ d, d < n → W 2 d 9 = Γ 2 d 9 + W 2 d 8 * prc W d)
theorem keep_close_over (h : CI T n p A B ord Γ) (hf : Γ 5 0 5 = 0) (ho : ORD (sp_cclose n Γ) n ord') {G1 : Nat → Nat → Nat → Int32} {x : Nat → Int} (hC : CST (cit 7 F7u ord' ord'.length (u3 (sp_cclose n Γ) 5 0 5 1)) G1 p A B ord' x) : CI T n p A B ord' (cit 9 Fpay ord' ord'.length G1) ∧ CLO n ord' Γ (cit 9 Fpay ord' ord'.length G1) := by
  have hR := keep_settle h hf ho
  obtain ⟨R, eR⟩ : ∃ R, R = sp_cclose n Γ := ⟨_, rfl⟩
  obtain ⟨W, eW⟩ : ∃ W, W = cit 9 Fpay ord' ord'.length G1 := ⟨_, rfl⟩
  have hfr : ∀ c i j, ¬ (c ≤ 2 ∧ i < n) → ¬ (c = 5 ∧ j = 6) → R c i j = Γ c i j := fun c i j a b => by rw [eR]; exact cclose_fr a b
  have hSV : ∀ d, d < n → SV d Γ R := fun d hd => by rw [eR]; exact cclose_SV hd
  have hfr2 : ∀ d j, j ≠ 6 → R 2 d j = Γ 2 d j := fun d j hj => by
    by_cases c : d < n
    · exact (hSV d c).2.2.2 j hj
    · exact hfr 2 d j (by omega) (by omega)
  rw [← eR] at hR hC
  rw [← eW]
  have hl : ord'.length ≤ n := hR.2.2.2.2.1.len
  have hinj := hR.2.2.2.2.1.inj
  obtain ⟨c1, c2, c3⟩ := hC
  have Y : ∀ c i j, ¬ (c = 2 ∧ j = 7) → ¬ (c = 5 ∧ j = 5) → cit 7 F7u ord' ord'.length (u3 R 5 0 5 1) c i j = R c i j := fun c i j z1 z2 => by rw [cit_fr (by omega), u3_n (by omega)]
  have G : ∀ c i j, ¬ irr c j → ¬ (c = 2 ∧ (j = 7 ∨ j = 8)) → ¬ (c = 5 ∧ j = 5) → G1 c i j = R c i j := fun c i j z1 z2 z3 => by
    unfold irr at z1
    rw [c1 c i j (by omega) (by omega) (by omega) (by omega), Y c i j (by omega) (by omega)]
  have Wf : ∀ c i j, ¬ irr c j → ¬ (c = 2 ∧ (j = 7 ∨ j = 8 ∨ j = 9)) → ¬ (c = 5 ∧ j = 5) → W c i j = R c i j := fun c i j z1 z2 z3 => by
    rw [eW, cit_fr (by omega), G c i j z1 (by omega) z3]
  have W11 : ∀ c i j, 11 ≤ c → W c i j = Γ c i j := fun c i j z => by
    rw [eW, cit_fr (by omega), c1 c i j (by omega) (by omega) (by omega) (by omega), Y c i j (by omega) (by omega), hfr c i j (by omega) (by omega)]
  have w5 : W 5 0 5 = 1 := by
    rw [eW, cit_fr (by omega), c1 5 0 5 (by omega) (by omega) (by omega) (by omega), cit_fr (by omega), u3_s]
  have w8 : ∀ d, W 2 d 8 = G1 2 d 8 := fun d => by rw [eW, cit_fr (by omega)]
  have w7 : ∀ d, W 2 d 7 = cit 7 F7u ord' ord'.length (u3 R 5 0 5 1) 2 d 7 := fun d => by rw [eW, cit_fr (by omega), c1 2 d 7 (by omega) (by omega) (by omega) (by omega)]
  have w7o : ∀ i, i < ord'.length → W 2 (od ord' i) 7 = R 0 (od ord' i) 2 := fun i hi => by
    rw [w7, cit_at cloc_7u hinj (Nat.le_refl _) hi]
    unfold F7u
    rw [u3_n (by omega)]
  have h8n : ∀ d, d < n → R 0 d 0 = 0 → W 2 d 8 = 0 := fun d hd z => by
    rw [w8, c1 2 d 8 (by omega) (by omega) (by omega) (fun _ _ k hk => not_od hR (fun _ => z) k hk), Y 2 d 8 (by omega) (by omega)]
    exact (hR.2.1 d hd).2.2.2.1 z
  have kc : KC W = KC (cit 7 F7u ord' ord'.length (u3 R 5 0 5 1)) := frE.kc fun i j => by rw [Wf 4 i j (by unfold irr; omega) (by omega) (by omega), Y 4 i j (by omega) (by omega)]
  have e31 : cit 7 F7u ord' ord'.length (u3 R 5 0 5 1) 3 0 1 = R 3 0 1 := Y 3 0 1 (by omega) (by omega)
  refine ⟨keep_flowing (x := x) hR (fun c i j z => Wf c i j (fun y => z (Or.inl y)) (fun y => z (Or.inr (Or.inl ⟨y.1, by omega, by omega⟩))) (fun y => z (Or.inr (Or.inr (Or.inl y))))) w5 (fun j hj => ?_) (fun i hi => by rw [w8]; exact c2 i hi) h8n (fun i hi => ?_) ?_, fun c i j z => ?_, w5, fun i hi => ?_, fun d hd => ?_⟩
  · rw [Wf 4 j 3 (by unfold irr; omega) (by omega) (by omega)]
    exact (hR.2.2.2.1 j hj).2.2.2.2.2
  · rw [w7o i hi]
    obtain ⟨s1, s2⟩ := hR.st hi
    have := ((hR.2.1 _ s1).2.1 s2).2.1
    omega
  · rw [kc, ← e31]
    exact c3.congr (fun i _ => rfl) (fun i _ => by show (W 2 (od ord' i) 7).toInt = _; rw [w7])
  · rcases z with z | z | z | z
    · exact W11 c i j z
    · rw [Wf c i j (by unfold irr; omega) (by omega) (by omega), hfr c i j (by omega) (by omega)]
    · obtain ⟨rfl, z⟩ := z
      by_cases e : j = 9
      · omega
      · rw [Wf 2 i j (by unfold irr; omega) (by omega) (by omega), hfr2 i j (by omega)]
    · rw [Wf c i j (by unfold irr; omega) (by omega) (by omega), hfr c i j (by omega) (by omega)]
  · rw [w7o i hi, Wf 0 _ 2 (by unfold irr; omega) (by omega) (by omega)]
  · unfold prc
    rw [Wf 0 d 0 (by unfold irr; omega) (by omega) (by omega), Wf 0 d 1 (by unfold irr; omega) (by omega) (by omega)]
    by_cases z : R 0 d 0 = 0
    · rw [if_pos z, h8n d hd z, Int32.zero_mul, Int32.add_zero, eW, cit_n (not_od hR (fun _ => z)), G 2 d 9 (by unfold irr; omega) (by omega) (by omega), hfr2 d 9 (by omega)]
    · rw [if_neg z]
      obtain ⟨k, hk, rfl⟩ := od_ex (hR.2.2.2.2.1.mem.mpr ⟨hd, z⟩)
      rw [w8, eW, cit_at cloc_pay hinj (Nat.le_refl _) hk]
      unfold Fpay
      rw [G 0 _ 1 (by unfold irr; omega) (by omega) (by omega), G 2 _ 9 (by unfold irr; omega) (by omega) (by omega), hfr2 _ 9 (by omega), Int32.mul_comm]
end KEEP8
