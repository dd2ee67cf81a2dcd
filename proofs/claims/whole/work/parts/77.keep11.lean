section KEEP11
variable {T n p : Nat} {A B : Nat → Nat} {ord : List Nat} {Γ G : Nat → Nat → Nat → Int32}
theorem EC.cg {d : Nat} {X : Nat → Nat → Nat → Int32} (q : EC d Γ X) (e0 : ∀ j, G 0 d j = X 0 d j) (e2 : ∀ j, G 2 d j = X 2 d j) : EC d Γ G := by
  unfold EC at *
  rw [e0, e2, e2, e2, e2, e2]
  exact ⟨q.1, q.2.1, q.2.2.1, q.2.2.2.1, q.2.2.2.2.1, fun j hj => (e2 j).trans (q.2.2.2.2.2.1 j hj), fun j hj => (e0 j).trans (q.2.2.2.2.2.2 j hj)⟩
theorem EM.cg {d : Nat} {X Y : Nat → Nat → Nat → Int32} (q : EM d Y X) (e2 : ∀ j, G 12 j d = X 12 j d) (e3 : ∀ j, G 13 j d = X 13 j d) (y2 : ∀ j, Y 12 j d = Γ 12 j d) (y3 : ∀ j, Y 13 j d = Γ 13 j d) : EM d Γ G := by
  unfold EM mT mW mK at *
  rw [e2, e2, e2, e2, e2, e3]
  rw [y2 17, y2 4, y2 6, y2 5, y2 22, y2 20, y2 21] at q
  exact ⟨q.1, q.2.1, q.2.2.1, q.2.2.2.1, q.2.2.2.2.1, fun j hj => ((e2 j).trans (q.2.2.2.2.2.1 j hj)).trans (y2 j), fun j hj hj2 => ((e3 j).trans (q.2.2.2.2.2.2 j hj hj2)).trans (y3 j)⟩
theorem ORD.none : ∀ m, (∀ d, d < m → Γ 0 d 0 = 0) → ORD Γ m []
  | 0, _ => ORD.nil
  | m + 1, h => (ORD.none m (fun d hd => h d (by omega))).skip (h m (by omega))
theorem end_I {d : Nat} (q : RD T d Γ) : 0 ≤ (eW Γ d - eT Γ d).toInt ∧ (eW Γ d - eT Γ d).toInt ≤ (Γ 2 d 1).toInt ∧ (Γ 2 d 2 - eT Γ d ≤ 0 ↔ Γ 2 d 2 ≤ eT Γ d) := by
  obtain ⟨-, -, -, -, -, q8, q1, q3, q2⟩ := q
  have hs : (Γ 2 d 1 - Γ 2 d 3).toInt = (Γ 2 d 1).toInt - (Γ 2 d 3).toInt := tI_sub (by omega) (by omega)
  have hk : (eK Γ d).toInt = min (Γ 2 d 8).toInt ((Γ 2 d 1).toInt - (Γ 2 d 3).toInt) := by
    unfold eK
    rw [smin_I, hs]
  have hw : (eW Γ d).toInt = (Γ 2 d 3).toInt + min (Γ 2 d 8).toInt ((Γ 2 d 1).toInt - (Γ 2 d 3).toInt) := by
    unfold eW
    rw [tI_add, hk] <;> rw [hk] <;> omega
  have ht : (eT Γ d).toInt = min (Γ 2 d 2).toInt (eW Γ d).toInt := by
    unfold eT
    rw [smin_I]
  have hd : (eW Γ d - eT Γ d).toInt = (eW Γ d).toInt - (eT Γ d).toInt := tI_sub (by omega) (by omega)
  have he : (Γ 2 d 2 - eT Γ d).toInt = (Γ 2 d 2).toInt - (eT Γ d).toInt := tI_sub (by omega) (by omega)
  refine ⟨by omega, by omega, ?_⟩
  rw [Int32.le_iff_toInt_le, Int32.le_iff_toInt_le, he, tI_0]
  omega
def sp_cend0 (n : Nat) (Γ : Nat → Nat → Nat → Int32) : Nat → Nat → Nat → Int32 := u3 (u3 (u3 (sp_cends n Γ) 5 0 5 0) 5 0 4 0) 5 0 3 (sp_cends n Γ 5 0 3 + 1)
theorem keep_end (h : RI T n p A B ord Γ) (hf : ¬ Γ 5 0 5 = 0) (hh : Γ 5 0 3 < 1000) : RI T n p A B [] (u3 (u3 (sp_mends n (sp_cend0 n Γ)) 11 0 0 (sp_mends n (sp_cend0 n Γ) 11 0 0 + 1)) 11 0 1 0) ∧ sp_sum (fun k => sp_clk k (sp_cends k Γ)) n = sp_sum (fun k => sp_mlk k (sp_mends k (sp_cend0 n Γ))) n := by
  obtain ⟨W, eW'⟩ : ∃ W, W = sp_cend0 n Γ := ⟨_, rfl⟩
  obtain ⟨G, eG⟩ : ∃ G, G = u3 (u3 (sp_mends n W) 11 0 0 (sp_mends n W 11 0 0 + 1)) 11 0 1 0 := ⟨_, rfl⟩
  rw [← eW', ← eG]
  have hWc : ∀ c i j, ¬ (c = 5 ∧ (j = 3 ∨ j = 4 ∨ j = 5)) → W c i j = sp_cends n Γ c i j := fun c i j z => by
    rw [eW']
    unfold sp_cend0
    rw [u3_n (by omega), u3_n (by omega), u3_n (by omega)]
  have hWm : ∀ c i j, 11 ≤ c → W c i j = Γ c i j := fun c i j z => by rw [hWc c i j (by omega), cends_fr (by omega) n (by omega)]
  have GC : ∀ c i j, c ≤ 10 → G c i j = W c i j := fun c i j z => by rw [eG, u3_n (by omega), u3_n (by omega), mends_fr (by omega) n (by omega)]
  have GM : ∀ c i j, 11 ≤ c → ¬ (c = 11 ∧ (j = 0 ∨ j = 1)) → G c i j = sp_mends n W c i j := fun c i j z z2 => by rw [eG, u3_n (by omega), u3_n (by omega)]
  have f : ∀ c i j, ¬ ((c = 0 ∨ c = 2) ∧ i < n) → ¬ (c = 5 ∧ (j = 3 ∨ j = 4 ∨ j = 5 ∨ j = 8)) → ¬ (c = 11 ∧ (j = 0 ∨ j = 1 ∨ j = 23 ∨ j = 34)) → ¬ ((c = 12 ∨ c = 13) ∧ j < n) → G c i j = Γ c i j := fun c i j z1 z2 z3 z4 => by
    by_cases e : c ≤ 10
    · rw [GC c i j e, hWc c i j (by omega), cends_fr (by omega) n z1]
    · rw [GM c i j (by omega) (by omega), mends_fr (by omega) n z4, hWm c i j (by omega)]
  have hEC : ∀ d, d < n → EC d Γ G := fun d hd => (cends_at n hd).cg (fun j => by rw [GC 0 d j (by omega), hWc 0 d j (by omega)]) (fun j => by rw [GC 2 d j (by omega), hWc 2 d j (by omega)])
  have hEM : ∀ d, d < n → EM d Γ G := fun d hd => (mends_at n hd).cg (fun j => GM 12 j d (by omega) (by omega)) (fun j => GM 13 j d (by omega) (by omega)) (fun j => hWm 12 j d (by omega)) (fun j => hWm 13 j d (by omega))
  obtain ⟨r1, r2, r3, r4, r5, r6, r7⟩ := id h
  obtain ⟨g1, g2, g3, g4, g5, g6, g7, g8, g9, g10, g11, g12⟩ := id r1
  have em : ∀ d, d < n → mK Γ d = eK Γ d ∧ mW Γ d = eW Γ d ∧ mT Γ d = eT Γ d := fun d hd => by
    obtain ⟨⟨a0, a1, a2, a3, a4, a5, a6, a7, a8, a9⟩, -⟩ := r2 d hd
    unfold mT mW mK eT eW eK
    rw [a1, a2, a3, a4]
    exact ⟨rfl, rfl, rfl⟩
  have h28 : ∀ j, G 13 28 j = Γ 13 28 j := fun j => by
    by_cases c : j < n
    · exact (hEM j c).2.2.2.2.2.2 28 (by omega) (by omega)
    · exact f _ _ _ (by omega) (by omega) (by omega) (by omega)
  have h12 : ∀ k j, 25 ≤ k → G 12 k j = Γ 12 k j := fun k j hk => by
    by_cases c : j < n
    · exact (hEM j c).2.2.2.2.2.1 k (by omega)
    · exact f _ _ _ (by omega) (by omega) (by omega) (by omega)
  have c5 : G 5 0 5 = 0 := by
    rw [GC 5 0 5 (by omega), eW']
    unfold sp_cend0
    rw [u3_n (by omega), u3_n (by omega), u3_s]
  have c4 : G 5 0 4 = 0 := by
    rw [GC 5 0 4 (by omega), eW']
    unfold sp_cend0
    rw [u3_n (by omega), u3_s]
  have c3 : G 5 0 3 = Γ 5 0 3 + 1 := by
    rw [GC 5 0 3 (by omega), eW']
    unfold sp_cend0
    rw [u3_s, cends_fr (by omega) n (by omega)]
  have m0 : G 11 0 0 = Γ 11 0 0 + 1 := by
    rw [eG, u3_n (by omega), u3_s, mends_fr (by omega) n (by omega), hWm _ _ _ (by omega)]
  have m1 : G 11 0 1 = 0 := by rw [eG, u3_s]
  have c8 : G 5 0 8 = Γ 5 0 8 + sp_sum (fun k => Γ 2 k 8) n := by rw [GC 5 0 8 (by omega), hWc 5 0 8 (by omega), cends_8]
  have m23 : G 11 0 23 = Γ 11 0 23 + sp_sum (fun k => Γ 2 k 8) n := by
    rw [GM 11 0 23 (by omega) (by omega), mends_23, hWm _ _ _ (by omega)]
    congr 1
    exact sp_sum_congr n fun k hk => by rw [hWm _ _ _ (by omega), (r2 k hk).1.2.2.2.2.1]
  have hlt := Int32.lt_iff_toInt_lt.mp hh
  have k1 : (1000 : Int32).toInt = 1000 := rfl
  have hs : (Γ 5 0 3 + 1).toInt = (Γ 5 0 3).toInt + 1 := by
    rw [tI_add] <;> have h1 : (1 : Int32).toInt = 1 := rfl <;> omega
  refine ⟨⟨?_, fun d hd => ?_, fun x y hx hy hne => ?_, fun j hj => (r4 j hj).congr (fun k => f _ _ _ (by omega) (by omega) (by omega) (by omega)) (fun k a b => h12 k j a) (h28 j), ORD.none n (fun d hd => (hEC d hd).1.1), ⟨fun _ d hd => (hEC d hd).1.2, fun z => absurd c5 z⟩, ⟨fun d hd => ?_, fun j hj => by rw [h28]; exact r7.2 j hj⟩⟩, ?_⟩
  · unfold RG
    rw [f 11 0 3 (by omega) (by omega) (by omega) (by omega), f 11 0 24 (by omega) (by omega) (by omega) (by omega), m0, c3, c4, m1, c5, f 11 0 16 (by omega) (by omega) (by omega) (by omega), f 5 0 7 (by omega) (by omega) (by omega) (by omega), m23, c8, f 11 0 2 (by omega) (by omega) (by omega) (by omega), f 3 0 1 (by omega) (by omega) (by omega) (by omega), f 5 0 6 (by omega) (by omega) (by omega) (by omega), g3, g9, hs]
    refine ⟨g1, g2, rfl, by omega, ⟨by decide, by decide⟩, rfl, g7, g8, rfl, g10, g11, ?_⟩
    rw [g12]
    exact sp_sum_congr n fun j hj => by rw [(hEM j hj).2.2.2.2.2.2 14 (by omega) (by omega)]
  · have q := r2 d hd
    obtain ⟨i1, i2, i3⟩ := end_I q
    obtain ⟨⟨a0, a1, a2, a3, a4, a5, a6, a7, a8, a9⟩, q2, q3, q4, q5, q6, q7, q8, q9⟩ := id q
    obtain ⟨⟨b1, b2⟩, b3, b4, b5, b6, b7, b8⟩ := hEC d hd
    obtain ⟨⟨d1, d2⟩, d3, d4, d5, d6, d7, d8⟩ := hEM d hd
    obtain ⟨k1, k2, k3⟩ := em d hd
    have n1 : ∀ j, G 1 d j = Γ 1 d j := fun j => f _ _ _ (by omega) (by omega) (by omega) (by omega)
    unfold RD
    rw [b7 0 (by omega), b7 1 (by omega), b7 2 (by omega), b7 9 (by omega), b7 10 (by omega), b7 6 (by omega), b1, b2, b3, b4, b5, b6, d1, d2, d3, d4, d5, d6, d7 4 (by omega), d7 5 (by omega), d7 18 (by omega), d7 19 (by omega), d7 11 (by omega), d7 12 (by omega), d7 13 (by omega), d8 14 (by omega) (by omega), n1, n1, n1, n1, k1, k2, k3, a1, a2, a4, a5, a6, a7, a8, a9]
    exact ⟨⟨a0, rfl, rfl, rfl, rfl, rfl, rfl, rfl, rfl, rfl⟩, ⟨Iff.rfl, q2.2⟩, fun z => absurd rfl z, q4, fun _ => rfl, ⟨by decide, by decide⟩, q7, ⟨i1, i2⟩, q9⟩
  · have n0 : ∀ d, d < n → G 0 d 0 = 0 := fun d hd => (hEC d hd).1.1
    have n1 : ∀ d j, G 1 d j = Γ 1 d j := fun d j => f _ _ _ (by omega) (by omega) (by omega) (by omega)
    rw [n0 x hx, n0 y hy, n1, n1, n1, n1]
    exact ⟨fun z => absurd rfl z, fun z => absurd rfl z, (r3 x y hx hy hne).2.2⟩
  · have q := r7.1 d hd
    rw [f 12 6 d (by omega) (by omega) (by omega) (by omega), f 12 17 d (by omega) (by omega) (by omega) (by omega), f 12 18 d (by omega) (by omega) (by omega) (by omega), f 12 19 d (by omega) (by omega) (by omega) (by omega), f 12 20 d (by omega) (by omega) (by omega) (by omega), f 12 21 d (by omega) (by omega) (by omega) (by omega), f 12 22 d (by omega) (by omega) (by omega) (by omega), f 13 10 d (by omega) (by omega) (by omega) (by omega), f 13 14 d (by omega) (by omega) (by omega) (by omega)]
    exact q
  · refine sp_sum_congr n fun k hk => ?_
    show sp_clk k (sp_cends k Γ) = sp_mlk k (sp_mends k W)
    rw [clk_at, mlk_at]
    have e12 : ∀ j, W 12 j k = Γ 12 j k := fun j => hWm _ _ _ (by omega)
    have em' : mT W k = eT Γ k := by
      rw [← (em k hk).2.2]
      unfold mT mW mK
      rw [e12, e12, e12, e12]
    obtain ⟨i1, i2, i3⟩ := end_I (r2 k hk)
    rw [em', e12, (r2 k hk).1.2.2.1]
    by_cases c : Γ 2 k 2 - eT Γ k ≤ 0
    · rw [if_pos c, if_pos (i3.mp c)]
    · rw [if_neg c, if_neg (fun z => c (i3.mpr z))]
end KEEP11
