set_option maxRecDepth 100000 in
set_option maxHeartbeats 4000000 in
theorem c_JC_init {l : Launch} (hlt : l.stackTraces = false) {h : am_H} {a : Nat} : am_Con l yJxa1e45_init_da8c8 (.code yJxa1e45_init_da8c8 cJxa1e45_init_da8c8 1 none) 1 0 0 [.ref a] h (fun v h' => v = none ∧ h' = h) (fun _ _ => False) := by
  refine am_body hlt (by decide +kernel) (Nat.le_of_ble_eq_true rfl) (fun k hl hR h0 hno => ?_)
  subst hl
  obtain ⟨Qf, hQ⟩ : ∃ Qf, Qf = am_Q k 0 0 (fun v h' => v = none ∧ h' = h) (fun _ _ => False) := ⟨_, rfl⟩
  rw [← hQ]
  refine g_aload_n dJxa1e45_init_da8c8_0 rfl ?_
  refine g_objInit dJxa1e45_init_da8c8_1 oi_JC oi_i oi_c (by rw [hR]; exact Nat.le_of_ble_eq_true rfl) (by rw [hR]; exact Nat.le_of_ble_eq_true rfl) ?_
  rw [hQ]
  refine g_vret dJxa1e45_init_da8c8_4 rfl (by decide) (by decide) ?_
  exact ⟨rfl, rfl⟩
set_option maxRecDepth 100000 in
set_option maxHeartbeats 4000000 in
theorem c_JL_init {l : Launch} (hlt : l.stackTraces = false) {h : am_H} {a : Nat} (hk : am_K h a = 6 + 1) : am_Con l yJxc12de_init_da8c8 (.code yJxc12de_init_da8c8 cJxc12de_init_da8c8 1 none) 2 0 0 [.ref a] h (fun v h' => v = none ∧ h' = am_sI h 600 a 0) (fun _ _ => False) := by
  refine am_body hlt (by decide +kernel) (Nat.le_of_ble_eq_true rfl) (fun k hl hR h0 hno => ?_)
  subst hl
  obtain ⟨Qf, hQ⟩ : ∃ Qf, Qf = am_Q k 0 0 (fun v h' => v = none ∧ h' = am_sI h 600 a 0) (fun _ _ => False) := ⟨_, rfl⟩
  rw [← hQ]
  refine g_aload_n dJxc12de_init_da8c8_0 rfl ?_
  refine g_callI [] dJxc12de_init_da8c8_1 mc_JL_1 mi_Jxa1e45_init_da8c8 rfl (c_JC_init hlt) rfl (Nat.le_of_ble_eq_true rfl) (am_rm hR (by decide)) (fun _ _ z => z) (fun v1 hx1 hq hE => ?_)
  obtain ⟨rfl, rfl⟩ := hq
  refine g_aload_n dJxc12de_init_da8c8_4 rfl ?_
  refine g_iconst (v := 0) dJxc12de_init_da8c8_5 (by decide) ?_
  refine g_putI dJxc12de_init_da8c8_6 fl_JL_7 rfl (fun q hq => by cases hq; first | exact Or.inl rfl | exact Or.inr ⟨rfl, rfl, rfl⟩) hk rfl rfl ?_
  rw [hQ]
  refine g_vret dJxc12de_init_da8c8_9 rfl (by decide) (by decide) ?_
  exact ⟨rfl, rfl⟩
set_option maxRecDepth 100000 in
set_option maxHeartbeats 4000000 in
theorem c_AL_init {l : Launch} (hlt : l.stackTraces = false) {h : am_H} {a : Nat} (hk : am_K h a = 6 + 1) : am_Con l yJx4a65c_init_da8c8 (.code yJx4a65c_init_da8c8 cJx4a65c_init_da8c8 1 none) 3 0 0 [.ref a] h (fun v h' => v = none ∧ ∃ z, am_K h z = 16 ∧ (∀ y, am_K h y = 16 → y = z) ∧ h' = am_sR (am_sI h 600 a 0) 601 a (some z)) (fun _ _ => False) := by
  refine am_body hlt (by decide +kernel) (Nat.le_of_ble_eq_true rfl) (fun k hl hR h0 hno => ?_)
  subst hl
  obtain ⟨Qf, hQ⟩ : ∃ Qf, Qf = am_Q k 0 0 (fun v h' => v = none ∧ ∃ z, am_K h z = 16 ∧ (∀ y, am_K h y = 16 → y = z) ∧ h' = am_sR (am_sI h 600 a 0) 601 a (some z)) (fun _ _ => False) := ⟨_, rfl⟩
  rw [← hQ]
  refine g_aload_n dJx4a65c_init_da8c8_0 rfl ?_
  refine g_callI [] dJx4a65c_init_da8c8_1 mc_AL_1 mi_Jxc12de_init_da8c8 rfl (c_JL_init hlt hk) rfl (Nat.le_of_ble_eq_true rfl) (am_rm hR (by decide)) (fun _ _ z => z) (fun v1 hx1 hq hE => ?_)
  obtain ⟨rfl, rfl⟩ := hq
  refine g_aload_n dJx4a65c_init_da8c8_4 rfl ?_
  refine g_gets39 dJx4a65c_init_da8c8_5 (fun z hz hu => ?_)
  refine g_putRs dJx4a65c_init_da8c8_8 fl_AL_9 rfl (fun q hq => by cases hq; first | exact Or.inl rfl | exact Or.inr ⟨rfl, rfl, rfl⟩) hk rfl rfl ?_
  rw [hQ]
  refine g_vret dJx4a65c_init_da8c8_11 rfl (by decide) (by decide) ?_
  exact ⟨rfl, z, hz, hu, rfl⟩
/-! the world while it is made -/
def pwn (c i : Nat) : Nat := if c = 8 then 9 else if c = 14 then 1 else wln c i
def PW (D : List (Nat × Nat)) (F : List (Nat × Nat × Nat × Nat × Nat)) (z N : Nat) (xs : Nat → Int32) (L : Nat → Nat → Nat) (h : am_H) : Prop :=
  (am_K h z = 16 ∧ am_N h z = 0 ∧ ∀ t, L 7 t = z) ∧
  (∀ q ∈ D, am_K h (L q.1 q.2) = wk q.1 ∧ wk q.1 ≠ 0 ∧ wk q.1 ≠ 16) ∧
  (∀ q ∈ D, ∀ r ∈ D, L q.1 q.2 = L r.1 r.2 → q = r) ∧
  (∀ q ∈ D, q.1 ≠ 15 → (∀ f, am_I h f (L q.1 q.2) = 0) ∧ am_N h (L q.1 q.2) = pwn q.1 q.2 ∧ (∀ j, am_A h (L q.1 q.2) j = 0) ∧ ∀ j, am_L h (L q.1 q.2) j = 0) ∧
  (∀ e ∈ F, (e.2.1, e.2.2.1) ∈ D ∧ ((e.2.2.2.1, e.2.2.2.2) ∈ D ∨ e.2.2.2.1 = 7) ∧ am_R h e.1 (L e.2.1 e.2.2.1) = some (L e.2.2.2.1 e.2.2.2.2)) ∧
  ((8, 0) ∈ D → ∀ a, a < 9 → (9, a) ∈ D ∧ am_B h (L 8 0) a = some (L 9 a)) ∧
  ((15, 0) ∈ D ∧ am_N h (L 15 0) = N ∧ ∀ j, j < N → am_A h (L 15 0) j = xs j)
def l2 (L : Nat → Nat → Nat) (c i a : Nat) : Nat → Nat → Nat := fun c' i' => if c' = c ∧ i' = i then a else L c' i'
section PWS
variable {D : List (Nat × Nat)} {F : List (Nat × Nat × Nat × Nat × Nat)} {z N : Nat} {xs : Nat → Int32} {L : Nat → Nat → Nat} {h : am_H}
theorem PW.k (w : PW D F z N xs L h) {c i a : Nat} (hD : (c, i) ∈ D) (e : L c i = a) : am_K h a = wk c := by
  rw [← e]; exact (w.2.1 _ hD).1
theorem PW.new (w : PW D F z N xs L h) {a : Nat} (ha : ∀ q, am_K h q ≠ 0 → q < a) {c i k n : Nat} (hD : (c, i) ∉ D) (hk : wk c = k) (hk0 : k ≠ 0 ∧ k ≠ 16) (hn : pwn c i = n) (hc : c ≠ 7 ∧ c ≠ 8 ∧ c ≠ 15) : ∃ L1, PW ((c, i) :: D) F z N xs L1 (am_nw h a k n) ∧ L1 c i = a ∧ ∀ q ∈ D, L1 q.1 q.2 = L q.1 q.2 := by
  obtain ⟨⟨z1, z2, z3⟩, w2, w3, w4, w5, w6, w7⟩ := w
  have hl : ∀ q ∈ D, l2 L c i a q.1 q.2 = L q.1 q.2 := fun q hq => if_neg (fun e => hD (by obtain ⟨e1, e2⟩ := e; rw [← e1, ← e2]; exact hq))
  have hlt : ∀ q ∈ D, L q.1 q.2 < a := fun q hq => ha _ (by rw [(w2 q hq).1]; exact (w2 q hq).2.1)
  have hne : ∀ q ∈ D, ¬ L q.1 q.2 = a := fun q hq e => by have := hlt q hq; omega
  have hza : ¬ z = a := fun e => by have := ha z (by rw [z1]; decide); omega
  have hci : l2 L c i a c i = a := if_pos ⟨rfl, rfl⟩
  have h8 : l2 L c i a 8 0 = L 8 0 := if_neg (by omega)
  have h15 : l2 L c i a 15 0 = L 15 0 := if_neg (by omega)
  refine ⟨l2 L c i a, ⟨⟨?_, ?_, fun t => (if_neg (by omega)).trans (z3 t)⟩, ?_, ?_, ?_, ?_, ?_, ?_⟩, hci, hl⟩
  · rw [am_K_nw, if_neg hza]; exact z1
  · rw [am_N_nw, if_neg hza]; exact z2
  · intro q hq
    rcases List.mem_cons.mp hq with rfl | hq
    · rw [hci, am_K_nw, if_pos rfl, hk]
      exact ⟨rfl, hk0⟩
    · rw [hl q hq, am_K_nw, if_neg (hne q hq)]
      exact w2 q hq
  · intro q hq r hr e
    rcases List.mem_cons.mp hq with rfl | hq <;> rcases List.mem_cons.mp hr with rfl | hr
    · rfl
    · rw [hci, hl r hr] at e
      exact absurd e.symm (hne r hr)
    · rw [hci, hl q hq] at e
      exact absurd e (hne q hq)
    · rw [hl q hq, hl r hr] at e
      exact w3 q hq r hr e
  · intro q hq h15'
    rcases List.mem_cons.mp hq with rfl | hq
    · rw [hci]
      exact ⟨fun f => by rw [am_I_nw, if_pos rfl], by rw [am_N_nw, if_pos rfl, hn], fun j => by rw [am_A_nw, if_pos rfl], fun j => by rw [am_L_nw, if_pos rfl]⟩
    · rw [hl q hq]
      have y := w4 q hq h15'
      have hn9 := hne q hq
      exact ⟨fun f => by rw [am_I_nw, if_neg hn9]; exact y.1 f, by rw [am_N_nw, if_neg hn9]; exact y.2.1, fun j => by rw [am_A_nw, if_neg hn9]; exact y.2.2.1 j, fun j => by rw [am_L_nw, if_neg hn9]; exact y.2.2.2 j⟩
  · intro e he
    obtain ⟨a1, a2, a3⟩ := w5 e he
    refine ⟨List.mem_cons_of_mem _ a1, a2.imp (List.mem_cons_of_mem _) id, ?_⟩
    rw [hl _ a1, am_R_nw, if_neg (hne _ a1), a3]
    rcases a2 with a2 | a2
    · rw [hl _ a2]
    · rw [a2, z3, show l2 L c i a 7 e.2.2.2.2 = L 7 e.2.2.2.2 from if_neg (by omega), z3]
  · intro h80 a' ha'
    have h80' : (8, 0) ∈ D := by
      rcases List.mem_cons.mp h80 with e | e
      · have := congrArg Prod.fst e
        exact absurd this.symm hc.2.1
      · exact e
    obtain ⟨b1, b2⟩ := w6 h80' a' ha'
    refine ⟨List.mem_cons_of_mem _ b1, ?_⟩
    rw [h8, am_B_nw, if_neg (hne _ h80'), b2, hl _ b1]
  · obtain ⟨b1, b2, b3⟩ := w7
    have hn9 := hne _ b1
    refine ⟨List.mem_cons_of_mem _ b1, ?_, fun j hj => ?_⟩
    · rw [h15, am_N_nw, if_neg hn9, b2]
    · rw [h15, am_A_nw, if_neg hn9, b3 j hj]
theorem PW.mna (w : PW D F z N xs L h) {a : Nat} (ha : ∀ q, am_K h q ≠ 0 → q < a) (hD : ∀ q ∈ D, q.1 ≠ 8 ∧ q.1 ≠ 9) : ∃ L1, PW ((8, 0) :: ((List.range 9).map (fun i => (9, i)) ++ D)) F z N xs L1 (am_mna h a 9 9) ∧ L1 8 0 = a ∧ ∀ q ∈ D, L1 q.1 q.2 = L q.1 q.2 := by
  obtain ⟨⟨z1, z2, z3⟩, w2, w3, w4, w5, w6, w7⟩ := w
  obtain ⟨L1, eL⟩ : ∃ L1 : Nat → Nat → Nat, L1 = fun c i => if c = 8 then a else if c = 9 then a + 1 + i else L c i := ⟨_, rfl⟩
  have hl : ∀ q ∈ D, L1 q.1 q.2 = L q.1 q.2 := fun q hq => by
    rw [eL]
    show (if q.1 = 8 then a else if q.1 = 9 then a + 1 + q.2 else L q.1 q.2) = _
    rw [if_neg (hD q hq).1, if_neg (hD q hq).2]
  have hlt : ∀ q ∈ D, L q.1 q.2 < a := fun q hq => ha _ (by rw [(w2 q hq).1]; exact (w2 q hq).2.1)
  have hza : z < a := ha z (by rw [z1]; decide)
  have h8 : ∀ i, L1 8 i = a := fun i => by rw [eL]; exact if_pos rfl
  have h9 : ∀ i, L1 9 i = a + 1 + i := fun i => by rw [eL]; exact (if_neg (by decide)).trans (if_pos rfl)
  have hm : ∀ q, q ∈ (8, 0) :: ((List.range 9).map (fun i => (9, i)) ++ D) → q = (8, 0) ∨ (∃ i, i < 9 ∧ q = (9, i)) ∨ q ∈ D := fun q hq => by
    rcases List.mem_cons.mp hq with e | hq
    · exact Or.inl e
    · rcases List.mem_append.mp hq with hq | hq
      · obtain ⟨i, hi, e⟩ := List.mem_map.mp hq
        exact Or.inr (Or.inl ⟨i, List.mem_range.mp hi, e.symm⟩)
      · exact Or.inr (Or.inr hq)
  have hin : ∀ q ∈ D, q ∈ (8, 0) :: ((List.range 9).map (fun i => (9, i)) ++ D) := fun q hq => List.mem_cons_of_mem _ (List.mem_append_right _ hq)
  refine ⟨L1, ⟨⟨?_, ?_, fun t => by rw [eL]; exact z3 t⟩, ?_, ?_, ?_, ?_, ?_, ?_⟩, h8 0, hl⟩
  · rw [(am_mna_old hza).1]; exact z1
  · rw [(am_mna_old hza).2.1]; exact z2
  · intro q hq
    rcases hm q hq with rfl | ⟨i, hi, rfl⟩ | hq
    · rw [h8, am_mna_K, if_pos rfl]
      exact ⟨rfl, by decide, by decide⟩
    · rw [h9, am_mna_K, if_neg (by omega), if_pos (by omega)]
      exact ⟨rfl, show wk 9 ≠ 0 by decide, show wk 9 ≠ 16 by decide⟩
    · rw [hl q hq, (am_mna_old (hlt q hq)).1]
      exact w2 q hq
  · intro q hq r hr e
    rcases hm q hq with rfl | ⟨i, hi, rfl⟩ | hq <;> rcases hm r hr with rfl | ⟨j, hj, rfl⟩ | hr
    · rfl
    · rw [h8, h9] at e; omega
    · rw [h8, hl r hr] at e
      have := hlt r hr
      omega
    · rw [h8, h9] at e; omega
    · rw [h9, h9] at e
      rw [show i = j by omega]
    · rw [h9, hl r hr] at e
      have := hlt r hr
      omega
    · rw [h8, hl q hq] at e
      have := hlt q hq
      omega
    · rw [h9, hl q hq] at e
      have := hlt q hq
      omega
    · rw [hl q hq, hl r hr] at e
      exact w3 q hq r hr e
  · intro q hq h15'
    rcases hm q hq with rfl | ⟨i, hi, rfl⟩ | hq
    · rw [h8]
      exact ⟨fun f => if_pos (Nat.le_refl a), if_pos rfl, fun j => if_pos (Nat.le_refl a), fun j => if_pos (Nat.le_refl a)⟩
    · rw [h9]
      refine ⟨fun f => if_pos (by omega), ?_, fun j => if_pos (by omega), fun j => if_pos (by omega)⟩
      rw [am_mna_N, if_neg (by omega), if_pos (by omega)]
      rfl
    · rw [hl q hq]
      obtain ⟨o1, o2, o3, o4, o5, o6, o7⟩ := am_mna_old (h := h) (N := 9) (K := 9) (hlt q hq)
      have y := w4 q hq h15'
      exact ⟨fun f => (o3 f).trans (y.1 f), o2.trans y.2.1, fun j => by rw [o5]; exact y.2.2.1 j, fun j => by rw [o7]; exact y.2.2.2 j⟩
  · intro e he
    obtain ⟨a1, a2, a3⟩ := w5 e he
    refine ⟨hin _ a1, a2.imp (hin _) id, ?_⟩
    rw [hl _ a1, (am_mna_old (hlt _ a1)).2.2.2.1, a3]
    rcases a2 with a2 | a2
    · rw [hl _ a2]
    · rw [a2, z3, eL]
      exact congrArg some (z3 _).symm
  · intro _ a' ha'
    refine ⟨List.mem_cons_of_mem _ (List.mem_append_left _ (List.mem_map.mpr ⟨a', List.mem_range.mpr ha', rfl⟩)), ?_⟩
    rw [h8, h9]
    exact (if_pos rfl).trans (if_pos ha')
  · obtain ⟨b1, b2, b3⟩ := w7
    obtain ⟨o1, o2, o3, o4, o5, o6, o7⟩ := am_mna_old (h := h) (N := 9) (K := 9) (hlt _ b1)
    have e15 := hl _ b1
    refine ⟨hin _ b1, ?_, fun j hj => ?_⟩
    · show am_N _ (L1 (15, 0).1 (15, 0).2) = N
      rw [e15, o2]; exact b2
    · show am_A _ (L1 (15, 0).1 (15, 0).2) j = xs j
      rw [e15, o5]; exact b3 j hj
theorem PW.putR (w : PW D F z N xs L h) {f c i c' i' a b : Nat} (h1 : (c, i) ∈ D) (h2 : (c', i') ∈ D ∨ c' = 7) (ea : L c i = a) (eb : L c' i' = b) (hF : ∀ e ∈ F, ¬ (e.1 = f ∧ e.2.1 = c ∧ e.2.2.1 = i)) : PW D ((f, c, i, c', i') :: F) z N xs L (am_sR h f a (some b)) := by
  subst ea
  subst eb
  obtain ⟨w1, w2, w3, w4, w5, w6, w7⟩ := w
  refine ⟨w1, w2, w3, w4, ?_, w6, w7⟩
  intro e he
  rcases List.mem_cons.mp he with rfl | he
  · exact ⟨h1, h2, if_pos ⟨rfl, rfl⟩⟩
  · obtain ⟨a1, a2, a3⟩ := w5 e he
    refine ⟨a1, a2, ?_⟩
    rw [am_R_sR, if_neg, a3]
    rintro ⟨y1, y2⟩
    have := w3 _ a1 _ h1 y2
    exact hF e he ⟨y1, congrArg Prod.fst this, congrArg Prod.snd this⟩
theorem PW.putI (w : PW D F z N xs L h) {f a : Nat} : PW D F z N xs L (am_sI h f a 0) := by
  obtain ⟨w1, w2, w3, w4, w5, w6, w7⟩ := w
  refine ⟨w1, w2, w3, fun q hq h15 => ?_, w5, w6, w7⟩
  obtain ⟨y1, y2⟩ := w4 q hq h15
  refine ⟨fun f' => ?_, y2⟩
  rw [am_I_sI]
  split
  · rfl
  · exact y1 f'
theorem PW.al (w : PW D F z N xs L h) {t a z' : Nat} (h1 : (6, t) ∈ D) (ea : L 6 t = a) (hu : ∀ y, am_K h y = 16 → y = z') (hF : ∀ e ∈ F, ¬ (e.1 = 601 ∧ e.2.1 = 6 ∧ e.2.2.1 = t)) : PW D ((601, 6, t, 7, t) :: F) z N xs L (am_sR (am_sI h 600 a 0) 601 a (some z')) :=
  w.putI.putR h1 (Or.inr rfl) ea ((w.1.2.2 t).trans (hu z w.1.1)) hF
end PWS
