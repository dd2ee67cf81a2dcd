theorem q_of_0 {l : Launch} (hlt : l.stackTraces = false) {N n p : Nat} {ord : List Nat} {L : Nat → Nat → Nat} {Γ : Nat → Nat → Nat → Int32} {o : Nat} {h : am_H} (w : VW N n p ord L Γ o h) {i : Nat} (hi : i < n) : am_Con l yX4_ofDistrict (.code yX4_ofDistrict cX4_ofDistrict 4 (some .int)) 20 0 0 [.ref (L 5 0), .int (nI i), .int (nI 0)] h (fun v h' => v = some (.int (Γ 2 i 3)) ∧ h' = h) (fun _ _ => False) := by
  obtain ⟨G, f, w⟩ := w
  have q := c_X4_of_0_0 hlt w hi
  rw [f.e (c := 2) (i := i) (j := 3) (by omega)] at q
  exact q
theorem q_of_3 {l : Launch} (hlt : l.stackTraces = false) {N n p : Nat} {ord : List Nat} {L : Nat → Nat → Nat} {Γ : Nat → Nat → Nat → Int32} {o : Nat} {h : am_H} (w : VW N n p ord L Γ o h) {i : Nat} (hi : i < n) : am_Con l yX4_ofDistrict (.code yX4_ofDistrict cX4_ofDistrict 4 (some .int)) 20 0 0 [.ref (L 5 0), .int (nI i), .int (nI 3)] h (fun v h' => v = some (.int (Γ 2 i 8)) ∧ h' = h) (fun _ _ => False) := by
  obtain ⟨G, f, w⟩ := w
  have q := c_X4_of_0_3 hlt w hi
  rw [f.e (c := 2) (i := i) (j := 8) (by omega)] at q
  exact q
theorem q_of_4 {l : Launch} (hlt : l.stackTraces = false) {N n p : Nat} {ord : List Nat} {L : Nat → Nat → Nat} {Γ : Nat → Nat → Nat → Int32} {o : Nat} {h : am_H} (w : VW N n p ord L Γ o h) {i : Nat} (hi : i < n) : am_Con l yX4_ofDistrict (.code yX4_ofDistrict cX4_ofDistrict 4 (some .int)) 20 0 0 [.ref (L 5 0), .int (nI i), .int (nI 4)] h (fun v h' => v = some (.int (Γ 2 i 9)) ∧ h' = h) (fun _ _ => False) := by
  obtain ⟨G, f, w⟩ := w
  have q := c_X4_of_0_4 hlt w hi
  rw [f.e (c := 2) (i := i) (j := 9) (by omega)] at q
  exact q
theorem q_of_5 {l : Launch} (hlt : l.stackTraces = false) {N n p : Nat} {ord : List Nat} {L : Nat → Nat → Nat} {Γ : Nat → Nat → Nat → Int32} {o : Nat} {h : am_H} (w : VW N n p ord L Γ o h) {i : Nat} (hi : i < n) : am_Con l yX4_ofDistrict (.code yX4_ofDistrict cX4_ofDistrict 4 (some .int)) 20 0 0 [.ref (L 5 0), .int (nI i), .int (nI 5)] h (fun v h' => v = some (.int (Γ 2 i 10)) ∧ h' = h) (fun _ _ => False) := by
  obtain ⟨G, f, w⟩ := w
  have q := c_X4_of_0_5 hlt w hi
  rw [f.e (c := 2) (i := i) (j := 10) (by omega)] at q
  exact q
theorem q_of_6 {l : Launch} (hlt : l.stackTraces = false) {N n p : Nat} {ord : List Nat} {L : Nat → Nat → Nat} {Γ : Nat → Nat → Nat → Int32} {o : Nat} {h : am_H} (w : VW N n p ord L Γ o h) {i : Nat} (hi : i < n) : am_Con l yX4_ofDistrict (.code yX4_ofDistrict cX4_ofDistrict 4 (some .int)) 20 0 0 [.ref (L 5 0), .int (nI i), .int (nI 6)] h (fun v h' => v = some (.int (Γ 2 i 11)) ∧ h' = h) (fun _ _ => False) := by
  obtain ⟨G, f, w⟩ := w
  have q := c_X4_of_0_6 hlt w hi
  rw [f.e (c := 2) (i := i) (j := 11) (by omega)] at q
  exact q
theorem q_of_7 {l : Launch} (hlt : l.stackTraces = false) {N n p : Nat} {ord : List Nat} {L : Nat → Nat → Nat} {Γ : Nat → Nat → Nat → Int32} {o : Nat} {h : am_H} (w : VW N n p ord L Γ o h) {i : Nat} (hi : i < n) : am_Con l yX4_ofDistrict (.code yX4_ofDistrict cX4_ofDistrict 4 (some .int)) 20 0 0 [.ref (L 5 0), .int (nI i), .int (nI 7)] h (fun v h' => v = some (.int (Γ 2 i 12)) ∧ h' = h) (fun _ _ => False) := by
  obtain ⟨G, f, w⟩ := w
  have q := c_X4_of_0_7 hlt w hi
  rw [f.e (c := 2) (i := i) (j := 12) (by omega)] at q
  exact q
theorem q_of_8 {l : Launch} (hlt : l.stackTraces = false) {N n p : Nat} {ord : List Nat} {L : Nat → Nat → Nat} {Γ : Nat → Nat → Nat → Int32} {o : Nat} {h : am_H} (w : VW N n p ord L Γ o h) {i : Nat} (hi : i < n) : am_Con l yX4_ofDistrict (.code yX4_ofDistrict cX4_ofDistrict 4 (some .int)) 20 0 0 [.ref (L 5 0), .int (nI i), .int (nI 8)] h (fun v h' => v = some (.int (Γ 2 i 13)) ∧ h' = h) (fun _ _ => False) := by
  obtain ⟨G, f, w⟩ := w
  have q := c_X4_of_0_8 hlt w hi
  rw [f.e (c := 2) (i := i) (j := 13) (by omega)] at q
  exact q
/-- the units of a district's bid, as they are told -/
def unt (Γ : Nat → Nat → Nat → Int32) (d : Nat) : Int32 := if Γ 0 d 0 = 0 then -1 else Γ 0 d 2
/-- a district's place, as it is told -/
def plc (Γ : Nat → Nat → Nat → Int32) (ord : List Nat) (d : Nat) : Int32 := if Γ 0 d 0 = 0 then -1 else sp_sum (fun j => if sp_ahead Γ (ord.getD j 0) d = 0 then 0 else 1) ord.length
theorem sp_ahead_cg {Γ G : Nat → Nat → Nat → Int32} (f : frP Γ G) (i j : Nat) : sp_ahead G i j = sp_ahead Γ i j := by
  unfold sp_ahead
  rw [f.e (c := 0) (i := i) (j := 1) (by omega), f.e (c := 0) (i := j) (j := 1) (by omega), f.e (c := 0) (i := i) (j := 3) (by omega), f.e (c := 0) (i := j) (j := 3) (by omega)]
theorem sum_ahead_cg {Γ G : Nat → Nat → Nat → Int32} (f : frP Γ G) (ord : List Nat) (d : Nat) : sp_sum (fun j => if sp_ahead G (ord.getD j 0) d = 0 then (0 : Int32) else 1) ord.length = sp_sum (fun j => if sp_ahead Γ (ord.getD j 0) d = 0 then 0 else 1) ord.length := sp_sum_congr _ fun j _ => by rw [sp_ahead_cg f]
theorem q_of_1 {l : Launch} (hlt : l.stackTraces = false) {N n p : Nat} {ord : List Nat} {L : Nat → Nat → Nat} {Γ : Nat → Nat → Nat → Int32} {o : Nat} {h : am_H} (w : VW N n p ord L Γ o h) {i : Nat} (hi : i < n) : am_Con l yX4_ofDistrict (.code yX4_ofDistrict cX4_ofDistrict 4 (some .int)) 20 0 0 [.ref (L 5 0), .int (nI i), .int (nI 1)] h (fun v h' => v = some (.int (prc Γ i)) ∧ h' = h) (fun _ _ => False) := by
  obtain ⟨G, f, w⟩ := w
  have q := c_X4_of_0_1 hlt w hi
  rw [f.e (c := 0) (i := i) (j := 0) (by omega), f.e (c := 0) (i := i) (j := 1) (by omega)] at q
  exact q
theorem q_of_2 {l : Launch} (hlt : l.stackTraces = false) {N n p : Nat} {ord : List Nat} {L : Nat → Nat → Nat} {Γ : Nat → Nat → Nat → Int32} {o : Nat} {h : am_H} (w : VW N n p ord L Γ o h) {i : Nat} (hi : i < n) : am_Con l yX4_ofDistrict (.code yX4_ofDistrict cX4_ofDistrict 4 (some .int)) 20 0 0 [.ref (L 5 0), .int (nI i), .int (nI 2)] h (fun v h' => v = some (.int (unt Γ i)) ∧ h' = h) (fun _ _ => False) := by
  obtain ⟨G, f, w⟩ := w
  have q := c_X4_of_0_2 hlt w hi
  rw [f.e (c := 0) (i := i) (j := 0) (by omega), f.e (c := 0) (i := i) (j := 2) (by omega)] at q
  exact q
theorem q_place {l : Launch} (hlt : l.stackTraces = false) {N n p : Nat} {ord : List Nat} {L : Nat → Nat → Nat} {Γ : Nat → Nat → Nat → Int32} {o : Nat} {h : am_H} (w : VW N n p ord L Γ o h) {i : Nat} (hi : i < n) : am_Con l yX4_place (.code yX4_place cX4_place 3 (some .int)) 20 0 0 [.ref (L 5 0), .int (nI i)] h (fun v h' => v = some (.int (plc Γ ord i)) ∧ h' = h) (fun _ _ => False) := by
  obtain ⟨G, f, w⟩ := w
  have q := c_X4_place_0 hlt w hi
  rw [f.e (c := 0) (i := i) (j := 0) (by omega), sum_ahead_cg f] at q
  exact q
theorem q_hour {l : Launch} (hlt : l.stackTraces = false) {N n p : Nat} {ord : List Nat} {L : Nat → Nat → Nat} {Γ : Nat → Nat → Nat → Int32} {o : Nat} {h : am_H} (w : VW N n p ord L Γ o h)  : am_Con l yX4_hour (.code yX4_hour cX4_hour 1 (some .int)) 1 0 0 [.ref (L 5 0)] h (fun v h' => v = some (.int (Γ 5 0 3)) ∧ h' = h) (fun _ _ => False) := by
  obtain ⟨G, f, w⟩ := w
  have q := c_X4_hour hlt w
  rw [f.e (c := 5) (i := 0) (j := 3) (by omega)] at q
  exact q
theorem q_round {l : Launch} (hlt : l.stackTraces = false) {N n p : Nat} {ord : List Nat} {L : Nat → Nat → Nat} {Γ : Nat → Nat → Nat → Int32} {o : Nat} {h : am_H} (w : VW N n p ord L Γ o h)  : am_Con l yX4_round (.code yX4_round cX4_round 1 (some .int)) 1 0 0 [.ref (L 5 0)] h (fun v h' => v = some (.int (if Γ 5 0 5 = 0 then Γ 5 0 4 else -1)) ∧ h' = h) (fun _ _ => False) := by
  obtain ⟨G, f, w⟩ := w
  have q := c_X4_round hlt w
  rw [f.e (c := 5) (i := 0) (j := 4) (by omega), f.e (c := 5) (i := 0) (j := 5) (by omega)] at q
  exact q
theorem q_count_0 {l : Launch} (hlt : l.stackTraces = false) {N n p : Nat} {ord : List Nat} {L : Nat → Nat → Nat} {Γ : Nat → Nat → Nat → Int32} {o : Nat} {h : am_H} (w : VW N n p ord L Γ o h)  : am_Con l yX4_count (.code yX4_count cX4_count 2 (some .int)) 20 0 0 [.ref (L 5 0), .int (nI 0)] h (fun v h' => v = some (.int (nI n)) ∧ h' = h) (fun _ _ => False) := by
  obtain ⟨G, f, w⟩ := w
  have q := c_X4_count_0_0 hlt w
  exact q
theorem q_count_1 {l : Launch} (hlt : l.stackTraces = false) {N n p : Nat} {ord : List Nat} {L : Nat → Nat → Nat} {Γ : Nat → Nat → Nat → Int32} {o : Nat} {h : am_H} (w : VW N n p ord L Γ o h)  : am_Con l yX4_count (.code yX4_count cX4_count 2 (some .int)) 20 0 0 [.ref (L 5 0), .int (nI 1)] h (fun v h' => v = some (.int (nI p)) ∧ h' = h) (fun _ _ => False) := by
  obtain ⟨G, f, w⟩ := w
  have q := c_X4_count_0_1 hlt w
  exact q
theorem q_count_2 {l : Launch} (hlt : l.stackTraces = false) {N n p : Nat} {ord : List Nat} {L : Nat → Nat → Nat} {Γ : Nat → Nat → Nat → Int32} {o : Nat} {h : am_H} (w : VW N n p ord L Γ o h)  : am_Con l yX4_count (.code yX4_count cX4_count 2 (some .int)) 20 0 0 [.ref (L 5 0), .int (nI 2)] h (fun v h' => v = some (.int (sp_sum (fun j => if Γ 4 j 3 = 0 then 0 else 1) p)) ∧ h' = h) (fun _ _ => False) := by
  obtain ⟨G, f, w⟩ := w
  have q := c_X4_count_0_2 hlt w
  rw [sp_sum_congr p (f := fun j => if G 4 j 3 = 0 then (0 : Int32) else 1) (g := fun j => if Γ 4 j 3 = 0 then 0 else 1) (fun j _ => by rw [f.e (by omega)])] at q
  exact q
theorem q_count_3 {l : Launch} (hlt : l.stackTraces = false) {N n p : Nat} {ord : List Nat} {L : Nat → Nat → Nat} {Γ : Nat → Nat → Nat → Int32} {o : Nat} {h : am_H} (w : VW N n p ord L Γ o h)  : am_Con l yX4_count (.code yX4_count cX4_count 2 (some .int)) 20 0 0 [.ref (L 5 0), .int (nI 3)] h (fun v h' => v = some (.int (nI ord.length)) ∧ h' = h) (fun _ _ => False) := by
  obtain ⟨G, f, w⟩ := w
  have q := c_X4_count_0_3 hlt w
  exact q
theorem q_count_4 {l : Launch} (hlt : l.stackTraces = false) {N n p : Nat} {ord : List Nat} {L : Nat → Nat → Nat} {Γ : Nat → Nat → Nat → Int32} {o : Nat} {h : am_H} (w : VW N n p ord L Γ o h)  : am_Con l yX4_count (.code yX4_count cX4_count 2 (some .int)) 20 0 0 [.ref (L 5 0), .int (nI 4)] h (fun v h' => v = some (.int (sp_sum (fun j => Γ 2 j 8) n)) ∧ h' = h) (fun _ _ => False) := by
  obtain ⟨G, f, w⟩ := w
  have q := c_X4_count_0_4 hlt w
  rw [sp_sum_congr n (f := fun j => G 2 j 8) (g := fun j => Γ 2 j 8) (fun j _ => f.e (by omega))] at q
  exact q
theorem q_count_5 {l : Launch} (hlt : l.stackTraces = false) {N n p : Nat} {ord : List Nat} {L : Nat → Nat → Nat} {Γ : Nat → Nat → Nat → Int32} {o : Nat} {h : am_H} (w : VW N n p ord L Γ o h)  : am_Con l yX4_count (.code yX4_count cX4_count 2 (some .int)) 20 0 0 [.ref (L 5 0), .int (nI 5)] h (fun v h' => v = some (.int (sp_sum (fun j => Γ 2 j 3) n)) ∧ h' = h) (fun _ _ => False) := by
  obtain ⟨G, f, w⟩ := w
  have q := c_X4_count_0_5 hlt w
  rw [sp_sum_congr n (f := fun j => G 2 j 3) (g := fun j => Γ 2 j 3) (fun j _ => f.e (by omega))] at q
  exact q
theorem q_count_6 {l : Launch} (hlt : l.stackTraces = false) {N n p : Nat} {ord : List Nat} {L : Nat → Nat → Nat} {Γ : Nat → Nat → Nat → Int32} {o : Nat} {h : am_H} (w : VW N n p ord L Γ o h)  : am_Con l yX4_count (.code yX4_count cX4_count 2 (some .int)) 20 0 0 [.ref (L 5 0), .int (nI 6)] h (fun v h' => v = some (.int (sp_sum (fun j => Γ 2 j 9 - Γ 2 j 10) n)) ∧ h' = h) (fun _ _ => False) := by
  obtain ⟨G, f, w⟩ := w
  have q := c_X4_count_0_6 hlt w
  rw [sp_sum_congr n (f := fun j => G 2 j 9 - G 2 j 10) (g := fun j => Γ 2 j 9 - Γ 2 j 10) (fun j _ => by rw [f.e (by omega), f.e (by omega)])] at q
  exact q
theorem q_count_7 {l : Launch} (hlt : l.stackTraces = false) {N n p : Nat} {ord : List Nat} {L : Nat → Nat → Nat} {Γ : Nat → Nat → Nat → Int32} {o : Nat} {h : am_H} (w : VW N n p ord L Γ o h)  : am_Con l yX4_count (.code yX4_count cX4_count 2 (some .int)) 20 0 0 [.ref (L 5 0), .int (nI 7)] h (fun v h' => v = some (.int (Γ 5 0 8)) ∧ h' = h) (fun _ _ => False) := by
  obtain ⟨G, f, w⟩ := w
  have q := c_X4_count_0_7 hlt w
  rw [f.e (c := 5) (i := 0) (j := 8) (by omega)] at q
  exact q
theorem plc_at {T n p : Nat} {A B : Nat → Nat} {ord : List Nat} {Γ : Nat → Nat → Nat → Int32} (h : CI T n p A B ord Γ) {t : Nat} (ht : t < ord.length) : sp_sum (fun j => if sp_ahead Γ (ord.getD j 0) (od ord t) = 0 then (0 : Int32) else 1) ord.length = nI t := by
  rw [sp_sum_cnt (P := fun j => ahB Γ (od ord j) (od ord t)) ord.length (fun j hj => ?_)]
  · rw [cnt_list (P := fun x => ahB Γ x (od ord t)) ord, h.2.2.2.2.1.place ht]
  · show (if sp_ahead Γ (od ord j) (od ord t) = 0 then (0 : Int32) else 1) = if ahB Γ (od ord j) (od ord t) = true then 1 else 0
    by_cases c : sp_ahead Γ (od ord j) (od ord t) = 0
    · rw [if_pos c, if_neg (fun z => (sp_ahead_iff.mpr (ahB_iff.mp z)) c)]
    · rw [if_neg c, if_pos (ahB_iff.mpr (sp_ahead_iff.mp c))]
theorem plc_od {T n p : Nat} {A B : Nat → Nat} {ord : List Nat} {Γ : Nat → Nat → Nat → Int32} (h : CI T n p A B ord Γ) {t : Nat} (ht : t < ord.length) : plc Γ ord (od ord t) = nI t := by
  unfold plc
  rw [if_neg (h.st ht).2, plc_at h ht]
theorem plc_no {ord : List Nat} {Γ : Nat → Nat → Nat → Int32} {d : Nat} (z : Γ 0 d 0 = 0) : plc Γ ord d = -1 := if_pos z
theorem CI.cg {T n p : Nat} {A B : Nat → Nat} {ord : List Nat} {Γ G : Nat → Nat → Nat → Int32} (h : CI T n p A B ord Γ) (f : frP Γ G) : CI T n p A B ord G := h.congr fun c i j z => f c i j (fun y => z (Or.inl y)) (fun y => z (Or.inr (Or.inl y))) (fun y => z (Or.inr (Or.inr (Or.inl y))))
/-- what flows to a district, found anew, is what it got -/
theorem q_flow {l : Launch} (hlt : l.stackTraces = false) {N n p : Nat} {ord : List Nat} {L : Nat → Nat → Nat} {Γ : Nat → Nat → Nat → Int32} {o : Nat} {h : am_H} (w : VW N n p ord L Γ o h) {T : Nat} {A B : Nat → Nat} (hc : CI T n p A B ord Γ) {i : Nat} (hi : i < n) : am_Con l yX4_flowAnew (.code yX4_flowAnew cX4_flowAnew 4 (some .int)) 20 0 0 [.ref (L 5 0), .int (nI i)] h (fun v h' => v = some (.int (Γ 2 i 8)) ∧ VW N n p ord L Γ o h') (fun _ _ => False) := by
  have w' := w
  obtain ⟨G, f, w⟩ := w
  have hg := hc.cg f
  have e8 : G 2 i 8 = Γ 2 i 8 := f.e (by omega)
  by_cases hf : G 5 0 5 = 0
  · refine (c_X4_flowAnew_0a hlt w hi hf).mono fun v h' hq => ?_
    obtain ⟨rfl, rfl⟩ := hq
    rw [← e8, hg.2.2.2.2.2.1 hf i hi]
    exact ⟨rfl, w'⟩
  · by_cases hs : G 0 i 0 = 0
    · refine (c_X4_flowAnew_0b hlt w hi hf hs).mono fun v h' hq => ?_
      obtain ⟨rfl, rfl⟩ := hq
      rw [← e8, (hg.2.1 i hi).2.2.2.1 hs]
      exact ⟨rfl, w'⟩
    · obtain ⟨t, ht, rfl⟩ := od_ex (hg.2.2.2.2.1.mem.mpr ⟨hi, hs⟩)
      obtain ⟨c1, c2⟩ := hg.2.2.2.2.2.2 hf
      refine (c_X4_flowAnew_0c hlt w hi hf hs hg.sc c1 ht (plc_at hg ht)).mono fun v h' hq => ?_
      obtain ⟨x, y, G', rfl, hy, w2, f2, hsq⟩ := hq
      have hx := SEQ.uniq (t + 1) hsq (fun j hj => c2 j (by omega)) t (by omega)
      have : y = Γ 2 (od ord t) 8 := Int32.toInt_inj.mp (by rw [hy, hx, ← e8])
      rw [this]
      exact ⟨rfl, G', f.tr f2, w2⟩
theorem m_bit : ∀ m, m < 256 → ∀ j, j < 8 → sp_bit (nI m) j = if m.testBit j = true then 9999 else 0 := by decide +kernel
theorem m_or : ∀ m, m < 256 → ∀ j, j < 8 → nI m ||| (1 : Int32) <<< (nI j &&& 31) = nI (m ||| 2 ^ j) := by decide +kernel
theorem m_sh : ∀ j, j < 9 → (1 : Int32) <<< (nI j &&& 31) = nI (2 ^ j) := by decide +kernel
/-- what most says: y, and how it was found -/
def MO (n p : Nat) (A B : Nat → Nat) (Γ : Nat → Nat → Nat → Int32) (m : Nat) (y : Int32) : Prop := ∃ x : Nat → Int, y.toInt = zs x n ∧ SEQ (CM p A B (KC Γ)) (Γ 3 0 1).toInt (fun i => i) (fun j => if m.testBit j = true then 9999 else 0) x n
theorem q_most {l : Launch} (hlt : l.stackTraces = false) {N n p : Nat} {ord : List Nat} {L : Nat → Nat → Nat} {Γ : Nat → Nat → Nat → Int32} {o : Nat} {h : am_H} (w : VW N n p ord L Γ o h) {T : Nat} {A B : Nat → Nat} (hc : CI T n p A B ord Γ) {m : Nat} (hm : m < 2 ^ n) : am_Con l yX4_most (.code yX4_most cX4_most 4 (some .int)) 20 0 0 [.ref (L 5 0), .int (nI m)] h (fun v h' => ∃ y : Int32, v = some (.int y) ∧ VW N n p ord L Γ o h' ∧ MO n p A B Γ m y) (fun _ _ => False) := by
  have hn := w.w0.1
  obtain ⟨G, f, w⟩ := w
  have hg := hc.cg f
  have h256 : m < 256 := Nat.lt_of_lt_of_le hm (Nat.pow_le_pow_right (by decide) hn)
  have h2 : 2 ^ n ≤ 256 := Nat.pow_le_pow_right (n := 2) (by decide) hn
  refine (c_X4_most_0 hlt w hg.sc (a := nI m) (nI_pos (by omega)) (by rw [m_sh n (by omega)]; exact (nI_ltI (by omega) (by omega)).mpr hm)).mono fun v h' hq => ?_
  obtain ⟨x, y, G', rfl, hy, w2, f2, hsq⟩ := hq
  refine ⟨y, rfl, ⟨G', f.tr f2, w2⟩, x, hy, ?_⟩
  have ek : KC G = KC Γ := frE.kc fun i j => f.e (by omega)
  rw [ek, f.e (c := 3) (i := 0) (j := 1) (by omega) (by omega)] at hsq
  exact hsq.congr (fun _ _ => rfl) (fun j hj => (m_bit m h256 j (by omega)).symm)
