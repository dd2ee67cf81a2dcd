section KAS2
variable {l : Launch} {N n p : Nat} {ord : List Nat} {L : Nat → Nat → Nat} {Γ : Nat → Nat → Nat → Int32} {o : Nat} {h : am_H} {T : Nat} {A B : Nat → Nat}
theorem cdist_frP {G : Nat → Nat → Nat → Int32} (f : frP Γ G) (a c : Int32) : frP (sp_cdist n a c Γ) (sp_cdist n a c G) := fun c' i j z1 z2 z3 => by
  unfold sp_cdist
  by_cases e : c' ≤ 2 ∧ i = n
  · rw [if_pos e, if_pos e]
  · rw [if_neg e, if_neg e, f c' i j z1 z2 z3]
theorem cpipe_frP {G : Nat → Nat → Nat → Int32} (f : frP Γ G) (a b c : Int32) : frP (sp_cpipe p a b c Γ) (sp_cpipe p a b c G) := fun c' i j z1 z2 z3 => by
  unfold sp_cpipe
  by_cases e : c' = 4 ∧ i = p
  · rw [if_pos e, if_pos e]
  · rw [if_neg e, if_neg e, f c' i j z1 z2 z3]
theorem ka_district_8 (hlt : l.stackTraces = false) (w : VW N n p ord L Γ o h) (hn : ¬ n < 8) {a c : Nat} (ha : a ≤ 9999) (hc : c ≤ 999) {z : Int32} : am_Con l yL_asks cdA 22 4 130 [.ref (L 5 0), .int 0, .int (nI a), .int (nI c), .int z] h (fun v h' => v = some (.int (-70008)) ∧ VW N n p ord L Γ o h') (fun _ _ => False) := by
  have w' := w
  obtain ⟨G, f, w⟩ := w
  refine (ca_district_ISE hlt (w.k (c := 5) (i := 0) rfl) (c_X4_district_2 hlt w (a := nI a) (c := nI c) (nI_pos (by omega)) (nI_leL (b := 9999) ha (by decide)) (nI_pos (by omega)) (nI_leL (b := 999) hc (by decide)) hn)).up (by decide) (by decide) (by decide) (fun v h' hq => ?_)
  obtain ⟨rfl, rfl⟩ := hq
  exact ⟨rfl, w'⟩
theorem kd_district_0 (hlt : l.stackTraces = false) (w : VW N n p ord L Γ o h) (hn : n < 8) {a c : Nat} (ha : a ≤ 9999) (hc : c ≤ 999) : am_Con l yX4_district (.code yX4_district cX4_district 4 (some .int)) 20 4 130 [.ref (L 5 0), .int (nI a), .int (nI c)] h (fun v h' => v = some (.int (nI n)) ∧ ∃ L' : Nat → Nat → Nat, LEd n p o L L' ∧ VW N (n + 1) p ord L' (sp_cdist n (nI a) (nI c) Γ) o h') (fun _ _ => False) := by
  obtain ⟨G, f, w⟩ := w
  refine (c_X4_district_0 hlt w (a := nI a) (c := nI c) (nI_pos (by omega)) (nI_leL (b := 9999) ha (by decide)) (nI_pos (by omega)) (nI_leL (b := 999) hc (by decide)) hn).mono fun v h' hq => ?_
  obtain ⟨rfl, L', hL, w2⟩ := hq
  exact ⟨rfl, L', hL, _, cdist_frP f _ _, w2⟩
theorem ka_district_0 (hlt : l.stackTraces = false) (w : VW N n p ord L Γ o h) (hn : n < 8) {a c : Nat} (ha : a ≤ 9999) (hc : c ≤ 999) {z : Int32} : am_Con l yL_asks cdA 22 4 130 [.ref (L 5 0), .int 0, .int (nI a), .int (nI c), .int z] h (fun v h' => v = some (.int (nI n)) ∧ ∃ L' : Nat → Nat → Nat, LEd n p o L L' ∧ VW N (n + 1) p ord L' (sp_cdist n (nI a) (nI c) Γ) o h') (fun _ _ => False) := by
  have hk := w.k (c := 5) (i := 0) rfl
  refine (ca_district_0 hlt hk (Rr := fun i h' => i = nI n ∧ ∃ L' : Nat → Nat → Nat, LEd n p o L L' ∧ VW N (n + 1) p ord L' (sp_cdist n (nI a) (nI c) Γ) o h') ((kd_district_0 hlt w hn ha hc).mono fun v h' hq => ⟨_, hq.1, rfl, hq.2⟩)).up (by decide) (by decide) (by decide) (fun v h' hq => ?_)
  obtain ⟨i, rfl, rfl, q⟩ := hq
  exact ⟨rfl, q⟩
theorem ka_pipe_1 (hlt : l.stackTraces = false) (w : VW N n p ord L Γ o h) {i : Nat} (hi : i < n) {lim : Int32} : am_Con l yL_asks cdA 22 4 130 [.ref (L 5 0), .int 1, .int (nI i), .int (nI i), .int lim] h (fun v h' => v = some (.int (-70009)) ∧ VW N n p ord L Γ o h') (fun _ _ => False) := by
  have w' := w
  obtain ⟨G, f, w⟩ := w
  refine (ca_pipe_IAE hlt (w.k (c := 5) (i := 0) rfl) (c_X4_pipe_2an hlt w hi)).up (by decide) (by decide) (by decide) (fun v h' hq => ?_)
  obtain ⟨rfl, rfl⟩ := hq
  exact ⟨rfl, w'⟩
theorem ka_pipe_8 (hlt : l.stackTraces = false) (w : VW N n p ord L Γ o h) {fv : Int32} {fa : Nat} (hfv : (fv = -1 ∧ fa = 0) ∨ ∃ i, i < n ∧ fv = nI i ∧ fa = i + 1) {j : Nat} (hj : j < n) (hne : fa ≠ j + 1) {lim : Nat} (h1 : 1 ≤ lim) (h2 : lim ≤ 999) (hbad : ¬ p < 24 ∨ ¬ Γ 5 0 5 = 0) : am_Con l yL_asks cdA 22 4 130 [.ref (L 5 0), .int 1, .int fv, .int (nI j), .int (nI lim)] h (fun v h' => v = some (.int (-70008)) ∧ VW N n p ord L Γ o h') (fun _ _ => False) := by
  have w' := w
  obtain ⟨G, f, w⟩ := w
  have e5 : G 5 0 5 = Γ 5 0 5 := f.e (by omega)
  have l1 : ¬ nI lim < 1 := fun z => by
    have := (nI_ltI (b := 1) (by omega) (by decide)).mp z
    omega
  have l2 : nI lim ≤ 999 := nI_leL (b := 999) h2 (by decide)
  have hcon : am_Con l yX4_pipe (.code yX4_pipe cX4_pipe 5 (some .int)) 20 1 6 [.ref (L 5 0), .int fv, .int (nI j), .int (nI lim)] h (fun _ _ => False) (fun E h' => E = "java/lang/IllegalStateException" ∧ h' = h) := by
    rcases hfv with ⟨rfl, rfl⟩ | ⟨i, hi, rfl, rfl⟩
    · by_cases hp : p < 24
      · exact c_X4_pipe_3bm hlt w hj l1 l2 hp (fun z => hbad.elim (fun y => y hp) (fun y => y (e5.symm.trans z)))
      · exact c_X4_pipe_3am hlt w hj l1 l2 hp
    · by_cases hp : p < 24
      · exact c_X4_pipe_3bn hlt w hi hj (by omega) l1 l2 hp (fun z => hbad.elim (fun y => y hp) (fun y => y (e5.symm.trans z)))
      · exact c_X4_pipe_3an hlt w hi hj (by omega) l1 l2 hp
  refine (ca_pipe_ISE hlt (w.k (c := 5) (i := 0) rfl) hcon).up (by decide) (by decide) (by decide) (fun v h' hq => ?_)
  obtain ⟨rfl, rfl⟩ := hq
  exact ⟨rfl, w'⟩
theorem kp_pipe_0 (hlt : l.stackTraces = false) (w : VW N n p ord L Γ o h) {fv : Int32} {fa : Nat} (hfv : (fv = -1 ∧ fa = 0) ∨ ∃ i, i < n ∧ fv = nI i ∧ fa = i + 1) {j : Nat} (hj : j < n) (hne : fa ≠ j + 1) {lim : Nat} (h1 : 1 ≤ lim) (h2 : lim ≤ 999) (hp : p < 24) (hf : Γ 5 0 5 = 0) : am_Con l yX4_pipe (.code yX4_pipe cX4_pipe 5 (some .int)) 20 2 110 [.ref (L 5 0), .int fv, .int (nI j), .int (nI lim)] h (fun v h' => v = some (.int (nI p)) ∧ ∃ L' : Nat → Nat → Nat, LEd n p o L L' ∧ VW N n (p + 1) ord L' (sp_cpipe p (nI fa) (nI (j + 1)) (nI lim) Γ) o h') (fun _ _ => False) := by
  obtain ⟨G, f, w⟩ := w
  have e5 : G 5 0 5 = Γ 5 0 5 := f.e (by omega)
  have l1 : ¬ nI lim < 1 := fun z => by
    have := (nI_ltI (b := 1) (by omega) (by decide)).mp z
    omega
  have l2 : nI lim ≤ 999 := nI_leL (b := 999) h2 (by decide)
  have fin : ∀ {v : Option Value} {h' : am_H}, (v = some (.int (nI p)) ∧ ∃ L' : Nat → Nat → Nat, LEd n p o L L' ∧ WI N n (p + 1) ord L' (sp_cpipe p (nI fa) (nI (j + 1)) (nI lim) G) o h') → (v = some (.int (nI p)) ∧ ∃ L' : Nat → Nat → Nat, LEd n p o L L' ∧ VW N n (p + 1) ord L' (sp_cpipe p (nI fa) (nI (j + 1)) (nI lim) Γ) o h') := fun hq => by
    obtain ⟨rfl, L', hL, w2⟩ := hq
    exact ⟨rfl, L', hL, _, cpipe_frP f _ _ _, w2⟩
  rcases hfv with ⟨rfl, rfl⟩ | ⟨i, hi, rfl, rfl⟩
  · exact (c_X4_pipe_0m hlt w hj l1 l2 hp (e5.trans hf)).mono fun v h' hq => fin hq
  · exact (c_X4_pipe_0n hlt w hi hj (by omega) l1 l2 hp (e5.trans hf)).mono fun v h' hq => fin hq
theorem ka_pipe_0 (hlt : l.stackTraces = false) (w : VW N n p ord L Γ o h) {fv : Int32} {fa : Nat} (hfv : (fv = -1 ∧ fa = 0) ∨ ∃ i, i < n ∧ fv = nI i ∧ fa = i + 1) {j : Nat} (hj : j < n) (hne : fa ≠ j + 1) {lim : Nat} (h1 : 1 ≤ lim) (h2 : lim ≤ 999) (hp : p < 24) (hf : Γ 5 0 5 = 0) : am_Con l yL_asks cdA 22 4 130 [.ref (L 5 0), .int 1, .int fv, .int (nI j), .int (nI lim)] h (fun v h' => v = some (.int (nI p)) ∧ ∃ L' : Nat → Nat → Nat, LEd n p o L L' ∧ VW N n (p + 1) ord L' (sp_cpipe p (nI fa) (nI (j + 1)) (nI lim) Γ) o h') (fun _ _ => False) := by
  have hk := w.k (c := 5) (i := 0) rfl
  refine (ca_pipe_0 hlt hk (Rr := fun i h' => i = nI p ∧ ∃ L' : Nat → Nat → Nat, LEd n p o L L' ∧ VW N n (p + 1) ord L' (sp_cpipe p (nI fa) (nI (j + 1)) (nI lim) Γ) o h') ((kp_pipe_0 hlt w hfv hj hne h1 h2 hp hf).mono fun v h' hq => ⟨_, hq.1, rfl, hq.2⟩)).up (by decide) (by decide) (by decide) (fun v h' hq => ?_)
  obtain ⟨i, rfl, rfl, q⟩ := hq
  exact ⟨rfl, q⟩
theorem ka_mends_8 (hlt : l.stackTraces = false) (w : VW N n p ord L Γ o h) {i : Nat} (hi : i < p) (hb : Γ 4 i 3 = 0 ∨ ¬ Γ 5 0 5 = 0) {b c : Int32} : am_Con l yL_asks cdA 22 4 130 [.ref (L 5 0), .int 6, .int (nI i), .int b, .int c] h (fun v h' => v = some (.int (-70008)) ∧ VW N n p ord L Γ o h') (fun _ _ => False) := by
  have w' := w
  obtain ⟨G, f, w⟩ := w
  have e5 : G 5 0 5 = Γ 5 0 5 := f.e (by omega)
  have e4 : G 4 i 3 = Γ 4 i 3 := f.e (by omega)
  have hk := w.k (c := 5) (i := 0) rfl
  have hcon : am_Con l yX4_repair (.code yX4_repair cX4_repair 3 none) 20 1 6 [.ref (L 5 0), .int (nI i)] h (fun _ _ => False) (fun E h' => E = "java/lang/IllegalStateException" ∧ h' = h) := by
    by_cases z : Γ 4 i 3 = 0
    · exact c_X4_repair_2a hlt w hi (e4.trans z)
    · exact c_X4_repair_2b hlt w hi (fun y => z (e4.symm.trans y)) (fun y => hb.elim z (fun q => q (e5.symm.trans y)))
  refine (ca_mends_ISE hlt hk (c_mends_ISE hlt hk hcon)).up (by decide) (by decide) (by decide) (fun v h' hq => ?_)
  obtain ⟨rfl, rfl⟩ := hq
  exact ⟨rfl, w'⟩
theorem ka_mends_0 (hlt : l.stackTraces = false) (w : VW N n p ord L Γ o h) {i : Nat} (hi : i < p) (hb : ¬ Γ 4 i 3 = 0) (hf : Γ 5 0 5 = 0) {b c : Int32} : am_Con l yL_asks cdA 22 4 130 [.ref (L 5 0), .int 6, .int (nI i), .int b, .int c] h (fun v h' => v = some (.int 0) ∧ VW N n p ord L (u3 Γ 4 i 3 0) o h') (fun _ _ => False) := by
  obtain ⟨G, f, w⟩ := w
  have e5 : G 5 0 5 = Γ 5 0 5 := f.e (by omega)
  have e4 : G 4 i 3 = Γ 4 i 3 := f.e (by omega)
  have hk := w.k (c := 5) (i := 0) rfl
  refine (ca_mends_0 hlt hk (Rr := fun i' h' => i' = 0 ∧ WI N n p ord L (u3 G 4 i 3 0) o h') ((c_mends_0 hlt hk (Rr := fun h' => WI N n p ord L (u3 G 4 i 3 0) o h') ((c_X4_repair_0 hlt w hi (fun y => hb (e4.symm.trans y)) (e5.trans hf)).mono fun v h' hq => hq)).mono fun v h' hq => ⟨_, hq.1, rfl, hq.2⟩)).up (by decide) (by decide) (by decide) (fun v h' hq => ?_)
  obtain ⟨i', rfl, rfl, w2⟩ := hq
  exact ⟨rfl, _, f.u3 4 i 3 0, w2⟩
theorem ka_source_8 (hlt : l.stackTraces = false) (w : VW N n p ord L Γ o h) {a : Nat} (ha : a ≤ 9999) (hf : ¬ Γ 5 0 5 = 0) {b c : Int32} : am_Con l yL_asks cdA 22 4 130 [.ref (L 5 0), .int 2, .int (nI a), .int b, .int c] h (fun v h' => v = some (.int (-70008)) ∧ VW N n p ord L Γ o h') (fun _ _ => False) := by
  have w' := w
  obtain ⟨G, f, w⟩ := w
  have e5 : G 5 0 5 = Γ 5 0 5 := f.e (by omega)
  refine (ca_source_ISE hlt (w.k (c := 5) (i := 0) rfl) (c_X4_source_2 hlt w (a := nI a) (nI_pos (by omega)) (nI_leL (b := 9999) ha (by decide)) (fun z => hf (e5.symm.trans z)))).up (by decide) (by decide) (by decide) (fun v h' hq => ?_)
  obtain ⟨rfl, rfl⟩ := hq
  exact ⟨rfl, w'⟩
theorem ks_source_0 (hlt : l.stackTraces = false) (w : VW N n p ord L Γ o h) {a : Nat} (ha : a ≤ 9999) (hf : Γ 5 0 5 = 0) : am_Con l yX4_source (.code yX4_source cX4_source 3 (some .int)) 20 0 0 [.ref (L 5 0), .int (nI a)] h (fun v h' => v = some (.int (Γ 3 0 1)) ∧ VW N n p ord L (u3 Γ 3 0 1 (nI a)) o h') (fun _ _ => False) := by
  obtain ⟨G, f, w⟩ := w
  have e5 : G 5 0 5 = Γ 5 0 5 := f.e (by omega)
  have e3 : G 3 0 1 = Γ 3 0 1 := f.e (by omega) (by omega)
  refine (c_X4_source_0 hlt w (a := nI a) (nI_pos (by omega)) (nI_leL (b := 9999) ha (by decide)) (e5.trans hf)).mono fun v h' hq => ?_
  rw [e3] at hq
  exact ⟨hq.1, _, f.u3 3 0 1 _, hq.2⟩
theorem ka_source_0 (hlt : l.stackTraces = false) (w : VW N n p ord L Γ o h) {a : Nat} (ha : a ≤ 9999) (hf : Γ 5 0 5 = 0) {b c : Int32} : am_Con l yL_asks cdA 22 4 130 [.ref (L 5 0), .int 2, .int (nI a), .int b, .int c] h (fun v h' => v = some (.int (Γ 3 0 1)) ∧ VW N n p ord L (u3 Γ 3 0 1 (nI a)) o h') (fun _ _ => False) := by
  have hk := w.k (c := 5) (i := 0) rfl
  refine (ca_source_0 hlt hk (Rr := fun i h' => i = Γ 3 0 1 ∧ VW N n p ord L (u3 Γ 3 0 1 (nI a)) o h') ((ks_source_0 hlt w ha hf).mono fun v h' hq => ⟨_, hq.1, rfl, hq.2⟩)).up (by decide) (by decide) (by decide) (fun v h' hq => ?_)
  obtain ⟨i, rfl, rfl, q⟩ := hq
  exact ⟨rfl, q⟩
theorem k_need (hlt : l.stackTraces = false) (w : VW N n p ord L Γ o h) {i : Nat} (hi : i < n) {a : Nat} (ha : a ≤ 999) : am_Con l yX4_need (.code yX4_need cX4_need 5 (some .int)) 20 0 0 [.ref (L 5 0), .int (nI i), .int (nI a)] h (fun v h' => v = some (.int (Γ 2 i 2)) ∧ VW N n p ord L (u3 Γ 2 i 2 (nI a)) o h') (fun _ _ => False) := by
  obtain ⟨G, f, w⟩ := w
  have e2 : G 2 i 2 = Γ 2 i 2 := f.e (by omega)
  refine (c_X4_need_0 hlt w hi (b := nI a) (nI_pos (by omega)) (nI_leL (b := 999) ha (by decide))).mono fun v h' hq => ?_
  rw [e2] at hq
  exact ⟨hq.1, _, f.u3 2 i 2 _, hq.2⟩
theorem ka_of (hlt : l.stackTraces = false) (w : VW N n p ord L Γ o h) {b c : Int32} : am_Con l yL_asks cdA 22 1 6 [.ref (L 5 0), .int 8, .int (nI n), .int b, .int c] h (fun v h' => v = some (.int (-70007)) ∧ VW N n p ord L Γ o h') (fun _ _ => False) := by
  have w' := w
  obtain ⟨G, f, w⟩ := w
  refine (ca_ofDistrict_IOB hlt (w.k (c := 5) (i := 0) rfl) (c_X4_of_1 hlt w (Or.inr (nI_leL (Nat.le_refl n) (by have := w.1.1; omega))))).up (by decide) (by decide) (by decide) (fun v h' hq => ?_)
  obtain ⟨rfl, rfl⟩ := hq
  exact ⟨rfl, w'⟩
end KAS2
