/-! ===== close that begins flowing, burst ===== -/
section KEEP8
variable {T n p : Nat} {A B : Nat → Nat} {ord ord' : List Nat} {Γ : Nat → Nat → Nat → Int32}
theorem not_od (h : RI T n p A B ord Γ) {d : Nat} (z : d < n → Γ 0 d 0 = 0) : ∀ k, k < ord.length → d ≠ od ord k := fun k hk e => by
  obtain ⟨a, b⟩ := h.st hk
  rw [← e] at a b
  exact b (z a)
theorem cst_m {Y G1 : Nat → Nat → Nat → Int32} {x : Nat → Int} {f : Nat} {F : (Nat → Nat → Nat → Int32) → Nat → Int32} {m : Nat} {c i j : Nat} (hC : CST Y G1 p (nuf A) (nuf B) ord x) (hc : 11 ≤ c) : cit f F ord m G1 c i j = Y c i j := by
  rw [cit_fr (by omega), hC.1 c i j (by omega) (by omega) (by omega) (by omega)]
theorem close_m {G1 : Nat → Nat → Nat → Int32} {x : Nat → Int} (hC : CST (cit 7 F7u ord' ord'.length (u3 (sp_cclose n Γ) 5 0 5 1)) G1 p (nuf A) (nuf B) ord' x) (c i j : Nat) (hc : 11 ≤ c) : cit 9 Fpay ord' ord'.length G1 c i j = Γ c i j := by
  rw [cst_m hC hc, cit_fr (by omega), u3_n (by omega), cclose_fr (by omega) (by omega)]
theorem keep_close_over (h : RI T n p A B ord Γ) (hn : n ≤ 8) (hf : Γ 5 0 5 = 0) (ho : ORD (sp_cclose n Γ) n ord') {G1 : Nat → Nat → Nat → Int32} {x : Nat → Int} (hC : CST (cit 7 F7u ord' ord'.length (u3 (sp_cclose n Γ) 5 0 5 1)) G1 p (nuf A) (nuf B) ord' x) {G2 : Nat → Nat → Nat → Int32} {y : Nat → Int} (hS : STL (sp_m33 8 n (sp_mclose n (cit 9 Fpay ord' ord'.length G1))) G2 p A B (od ord') ord'.length y) : RI T n p A B ord' (u3 (sp_mpay n G2) 11 0 1 (-1)) := by
  obtain ⟨X, eX⟩ : ∃ X, X = cit 9 Fpay ord' ord'.length G1 := ⟨_, rfl⟩
  have hX : ∀ c i j, 11 ≤ c → X c i j = Γ c i j := fun c i j z => by rw [eX]; exact close_m hC c i j z
  have hR := settle_R h hf hX ho
  rw [← eX] at hS
  have hl : ord'.length ≤ n := ho.len
  have hinj := ho.inj
  have hfl : FLW n p A B ord' (mixR n Γ X) (cit 7 F7u ord' ord'.length (u3 (sp_cclose n Γ) 5 0 5 1)) G1 (sp_m33 8 n (sp_mclose n X)) G2 x y := by
    refine ⟨fun c i j z1 z2 z3 z4 => ?_, fun c i j z1 z2 z3 z4 => ?_, fun j hj => ?_, fun j hj => ?_, fun i hi => ?_, hC, hS⟩
    · rw [cit_fr (by omega), u3_n (by omega), mixR_c z1]
    · rw [sp_m33_fr (by omega)]
      exact mixR_close z1 (by omega)
    · rw [sp_m33_fr (by omega), mixR_close (Γ := Γ) (by omega) (by omega), (hR.2.2.2.1 j hj).2.2.2.2.2, cit_fr (by omega), u3_n (by omega), mixR_c (by omega)]
    · rw [sp_m33_fr (by omega), mixR_close (Γ := Γ) (by omega) (by omega)]
      exact hR.2.2.2.2.2.2.2 j hj
    · obtain ⟨s1, s2⟩ := hR.st hi
      have q := (hR.2.1 _ s1).2.2.1 s2
      have e7 : cit 7 F7u ord' ord'.length (u3 (sp_cclose n Γ) 5 0 5 1) 2 (od ord' i) 7 = mixR n Γ X 0 (od ord' i) 2 := by
        rw [cit_at cloc_7u hinj (Nat.le_refl _) hi]
        unfold F7u
        rw [u3_n (by omega), mixR_c (by omega)]
      rw [e7, sp_m33_at (by decide) s1, mixR_close (Γ := Γ) (by omega) (by omega), q.2.1]
      exact ⟨rfl, q.2.2.2.2.1⟩
  obtain ⟨e1, e2, e3⟩ := flw_eq hR hfl
  have hG2 : ∀ c i j, ¬ (c = 12 ∧ (i = 29 ∨ i = 31 ∨ i = 32 ∨ i = 33 ∨ i = 17)) → ¬ (c = 11 ∧ j = 30) → G2 c i j = sp_mclose n X c i j := fun c i j z1 z2 => by
    rw [hS.1 c i j (by omega) z2 (by omega), sp_m33_fr (by omega)]
  have hX10 : ∀ c i j, c ≤ 10 → sp_mclose n X c i j = X c i j := fun c i j z => by
    unfold sp_mclose
    rw [u3_n (by omega), sp_msets_g (by omega) (by omega)]
  have hW : ∀ c i j, c ≤ 10 → (u3 (sp_mpay n G2) 11 0 1 (-1)) c i j = X c i j := fun c i j z => by
    rw [u3_n (by omega), sp_mpay_fr (by omega), hG2 c i j (by omega) (by omega), hX10 c i j z]
  have hG1 : ∀ c i j, c ≤ 8 → ¬ (c = 3 ∧ j = 2) → ¬ (c = 2 ∧ (j = 7 ∨ j = 8)) → ¬ (c = 5 ∧ j = 5) → G1 c i j = mixR n Γ X c i j := fun c i j z1 z2 z3 z4 => by
    rw [hC.1 c i j (by omega) (by omega) (by omega) (by omega), cit_fr (by omega), u3_n (by omega), mixR_c (by omega)]
  refine keep_flows hR hfl (fun c i j z1 z2 => ?_) (fun c i j z1 z2 z3 => ?_) ?_ u3_s (fun d hd => ?_) (fun d hd => ?_)
  · rw [hW c i j z1, eX, cit_fr (by omega)]
  · rw [u3_n (by omega), sp_mpay_fr (by omega)]
  · rw [cit_fr (by omega), u3_s]
    decide
  · obtain ⟨⟨-, -, -, -, -, r18, r19, -⟩, -⟩ := hR.2.1 d hd
    have X10 : X 2 d 10 = mixR n Γ X 2 d 10 := by rw [eX, cit_fr (by omega)]; rw [← eX]; exact hG1 2 d 10 (by omega) (by omega) (by omega) (by omega)
    rw [hW 2 d 9 (by omega), hW 2 d 10 (by omega), u3_n (by omega), u3_n (by omega), sp_mpay_at, if_pos hd, sp_mpay_fr (by omega), hG2 12 18 d (by omega) (by omega), hG2 12 7 d (by omega) (by omega), hG2 12 19 d (by omega) (by omega), mixR_close (Γ := Γ) (by omega) (by omega), mixR_close (Γ := Γ) (by omega) (by omega), mixR_close (Γ := Γ) (by omega) (by omega), r18, r19, e3 d hd, X10]
    refine ⟨?_, rfl⟩
    have X9 : X 2 d 9 = cit 9 Fpay ord' ord'.length G1 2 d 9 := by rw [eX]
    rw [X9, ← hG1 2 d 9 (by omega) (by omega) (by omega) (by omega)]
    by_cases z : mixR n Γ X 0 d 0 = 0
    · rw [(e2 d hd z).1, cit_n (not_od hR (fun _ => z)), Int32.zero_mul, Int32.add_zero]
    · obtain ⟨k, hk, rfl⟩ := od_ex (hR.2.2.2.2.1.mem.mpr ⟨hd, z⟩)
      rw [cit_at cloc_pay hinj (Nat.le_refl _) hk]
      unfold Fpay
      rw [hG1 0 _ 1 (by omega) (by omega) (by omega) (by omega), ((hR.2.1 _ hd).2.2.1 z).1, Int32.mul_comm]
  · rw [u3_n (by omega), u3_n (by omega), sp_mpay_at, if_neg (by omega), sp_mpay_fr (by omega), hG2 12 18 d (by omega) (by omega), hG2 12 19 d (by omega) (by omega)]
    exact ⟨mixR_close (by omega) (by omega), mixR_close (by omega) (by omega)⟩
/-! burst -/
theorem toInt_sum {f : Nat → Int32} {g : Nat → Int} {M : Int} (hM : 0 ≤ M) (hM2 : M ≤ 100000) : ∀ b, b ≤ 24 → (∀ j, j < b → (f j).toInt = g j ∧ -M ≤ g j ∧ g j ≤ M) → (sp_sum f b).toInt = zs g b ∧ -(M * b) ≤ zs g b ∧ zs g b ≤ M * b
  | 0, _, _ => ⟨tI_0, by simp [zs], by simp [zs]⟩
  | b + 1, hb, h => by
    obtain ⟨h1, h2, h3⟩ := toInt_sum hM hM2 b (by omega) (fun j hj => h j (by omega))
    obtain ⟨g1, g2, g3⟩ := h b (by omega)
    have hMb : M * (b + 1 : Nat) = M * b + M := by rw [Int.natCast_add, Int.mul_add]; simp
    have hMb2 : M * b ≤ 100000 * 24 := Int.mul_le_mul hM2 (by omega) (by omega) (by omega)
    show (sp_sum f b + f b).toInt = zs g b + g b ∧ -(M * (b + 1 : Nat)) ≤ zs g b + g b ∧ zs g b + g b ≤ M * (b + 1 : Nat)
    rw [hMb]
    refine ⟨?_, by omega, by omega⟩
    rw [tI_add] <;> omega
end KEEP8
