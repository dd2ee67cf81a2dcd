/-! ===== class and model, one call of each ===== -/
def sm (L L' : Nat → Nat → Nat) : Prop := L' 5 0 = L 5 0 ∧ L' 11 0 = L 11 0 ∧ L' 14 0 = L 14 0 ∧ L' 15 0 = L 15 0
theorem sm.rf {L : Nat → Nat → Nat} : sm L L := ⟨rfl, rfl, rfl, rfl⟩
theorem sm.of7 {L L' : Nat → Nat → Nat} (h : LE7 L L') : sm L L' := ⟨h _ _ (by decide), h _ _ (by decide), h _ _ (by decide), h _ _ (by decide)⟩
theorem sm.ofd {n p : Nat} {L L' : Nat → Nat → Nat} (h : LEd n p L L') : sm L L' := ⟨h _ _ rfl, h _ _ rfl, h _ _ rfl, h _ _ rfl⟩
def JI (b : Int32) : Option Value := some (.int b)
def JN (_ : Int32) : Option Value := none
def JPi (k b : Int32) (o : Int64) : Prop := k = 0 → o = b.toInt64
def JPc (k b : Int32) (o : Int64) : Prop := (b = 0 ∨ b = 1) ∧ (k = 0 → o = b.toInt64)
def JPn (_ _ : Int32) (_ : Int64) : Prop := True
/-- where both have answered -/
def JE (N T : Nat) (L : Nat → Nat → Nat) (Γ : Nat → Nat → Nat → Int32) (Pb : Int32 → Int32 → Int64 → Prop) (k b : Int32) (h' : am_H) : Prop :=
  ∃ (T' n' p' : Nat) (A' B' : Nat → Nat) (ord' : List Nat) (L' : Nat → Nat → Nat) (Γ' : Nat → Nat → Nat → Int32) (o' : Int64), T' ≤ T + 1 ∧ WI N n' p' ord' L' Γ' o' h' ∧ RI T' n' p' A' B' ord' Γ' ∧ sm L L' ∧ (∀ j, Γ' 15 0 j = Γ 15 0 j) ∧ Γ' 11 0 34 = k ∧ Pb k b o'
/-- between the two -/
def JM (N : Nat) (L : Nat → Nat → Nat) (Γ : Nat → Nat → Nat → Int32) (h1 : am_H) : Prop :=
  ∃ (n' p' : Nat) (ord' : List Nat) (L' : Nat → Nat → Nat) (Γ' : Nat → Nat → Nat → Int32) (o' : Int64), WI N n' p' ord' L' Γ' o' h1 ∧ sm L L' ∧ ∀ j, Γ' 15 0 j = Γ 15 0 j
def JJ (l : Launch) (N T : Nat) (L : Nat → Nat → Nat) (Γ : Nat → Nat → Nat → Int32) (yw : MethodName) (cw : Cond) (wa : List Value) (ym : MethodName) (cm : Cond) (ma : List Value) (vf : Int32 → Option Value) (Pb : Int32 → Int32 → Int64 → Prop) (h : am_H) : Prop :=
  ∃ (k : Int32) (mc ms : Nat) (M : am_H → Prop), mc ≤ 8 ∧ ms ≤ 800 ∧ am_Con l yw cw 21 mc ms wa h (fun v h' => v = some (.int k) ∧ M h') (fun _ _ => False) ∧ ∀ h1, M h1 → JM N L Γ h1 ∧ am_Con l ym cm 20 0 0 ma h1 (fun v h' => ∃ b, v = vf b ∧ JE N T L Γ Pb k b h') (fun _ _ => False)
section JJS
variable {l : Launch} {N n p T : Nat} {A B : Nat → Nat} {ord : List Nat} {L : Nat → Nat → Nat} {Γ : Nat → Nat → Nat → Int32} {o : Int64} {h : am_H} {yw ym : MethodName} {cw cm : Cond} {wa ma : List Value} {vf : Int32 → Option Value} {Pb : Int32 → Int32 → Int64 → Prop}
theorem JJ.fault (w : WI N n p ord L Γ o h) (hr : RI T n p A B ord Γ) {k : Int32} (hw : am_Con l yw cw 21 1 6 wa h (fun v h' => v = some (.int k) ∧ h' = h) (fun _ _ => False)) (hm : am_Con l ym cm 20 0 0 ma h (fun v h' => v = vf 0 ∧ WI N n p ord L (u3 Γ 11 0 34 k) o h') (fun _ _ => False)) (hP : Pb k 0 o) : JJ l N T L Γ yw cw wa ym cm ma vf Pb h := by
  refine ⟨k, 1, 6, fun h1 => h1 = h, by decide, by decide, hw, fun h1 e => ?_⟩
  subst e
  refine ⟨⟨n, p, ord, L, Γ, o, w, sm.rf, fun _ => rfl⟩, hm.mono fun v h' q => ⟨0, q.1, T, n, p, A, B, ord, L, _, o, Nat.le_succ T, q.2, hr.thrown k, sm.rf, fun j => u3_n (by omega), u3_s, hP⟩⟩
theorem JJ.good {mc ms : Nat} {f : Int32 → Int64} {Rr : Int32 → Nat → Nat → List Nat → (Nat → Nat → Nat) → (Nat → Nat → Nat → Int32) → Prop} (hmc : mc ≤ 8) (hms : ms ≤ 800) (hw : am_Con l yw cw 21 mc ms wa h (fun v h' => ∃ (i : Int32) (n' p' : Nat) (ord' : List Nat) (L' : Nat → Nat → Nat) (Γ' : Nat → Nat → Nat → Int32), v = some (.int 0) ∧ WI N n' p' ord' L' Γ' (f i) h' ∧ Rr i n' p' ord' L' Γ') (fun _ _ => False))
    (hR : ∀ i n' p' ord' L' Γ' h1, Rr i n' p' ord' L' Γ' → WI N n' p' ord' L' Γ' (f i) h1 → sm L L' ∧ (∀ j, Γ' 15 0 j = Γ 15 0 j) ∧ am_Con l ym cm 20 0 0 ma h1 (fun v h' => ∃ b, v = vf b ∧ JE N T L Γ Pb 0 b h') (fun _ _ => False)) : JJ l N T L Γ yw cw wa ym cm ma vf Pb h := by
  refine ⟨0, mc, ms, fun h1 => ∃ (i : Int32) (n' p' : Nat) (ord' : List Nat) (L' : Nat → Nat → Nat) (Γ' : Nat → Nat → Nat → Int32), WI N n' p' ord' L' Γ' (f i) h1 ∧ Rr i n' p' ord' L' Γ', hmc, hms, hw.mono fun v h' q => ?_, fun h1 q => ?_⟩
  · obtain ⟨i, n', p', ord', L', Γ', e, w1, q1⟩ := q
    exact ⟨e, i, n', p', ord', L', Γ', w1, q1⟩
  · obtain ⟨i, n', p', ord', L', Γ', w1, q1⟩ := q
    obtain ⟨a1, a2, a3⟩ := hR i n' p' ord' L' Γ' h1 q1 w1
    exact ⟨⟨n', p', ord', L', Γ', _, w1, a1, a2⟩, a3⟩
end JJS
/-! numbers -/
theorem ix {a : Int32} {n : Nat} (hn : n ≤ 1000) (h : ¬ (a < 0 ∨ nI n ≤ a)) : ∃ i, i < n ∧ a = nI i := by
  have h1 : ¬ a < 0 := fun z => h (Or.inl z)
  have h2 : ¬ nI n ≤ a := fun z => h (Or.inr z)
  rw [Int32.lt_iff_toInt_lt, tI_0] at h1
  rw [Int32.le_iff_toInt_le, nI_toInt (by omega)] at h2
  refine ⟨a.toInt.toNat, by omega, Int32.toInt_inj.mp ?_⟩
  rw [nI_toInt (by omega)]
  omega
theorem rg {b k m : Int32} (h : ¬ (b < k ∨ ¬ b ≤ m)) : ¬ b < k ∧ b ≤ m := ⟨fun z => h (Or.inl z), Decidable.byContradiction fun z => h (Or.inr z)⟩
theorem rgI {b k m : Int32} (h : ¬ (b < k ∨ ¬ b ≤ m)) : k.toInt ≤ b.toInt ∧ b.toInt ≤ m.toInt := by
  obtain ⟨h1, h2⟩ := rg h
  rw [Int32.lt_iff_toInt_lt] at h1
  rw [Int32.le_iff_toInt_le] at h2
  exact ⟨by omega, h2⟩
theorem cbid_m {Γ : Nat → Nat → Nat → Int32} {i c x y : Nat} {a b : Int32} (h : 11 ≤ c) : sp_cbid Γ i a b c x y = Γ c x y := by
  unfold sp_cbid
  rw [u3_n (by omega), u3_n (by omega), u3_n (by omega), u3_n (by omega), u3_n (by omega)]
  split
  · rw [u3_n (by omega)]
  · rfl

theorem J_need {l : Launch} (hlt : l.stackTraces = false) {N n p T : Nat} {A B : Nat → Nat} {ord : List Nat} {L : Nat → Nat → Nat} {Γ : Nat → Nat → Nat → Int32} {o : Int64} {h : am_H} (w : WI N n p ord L Γ o h) (hr : RI T n p A B ord Γ) (a b : Int32) : JJ l N T L Γ yL_need (.codeWith yL_need cL_need 5 (some .int) [(0, 10, 13, 21), (0, 10, 17, 13)]) [.ref (L 5 0), .int a, .int b, .ref (L 14 0)] yX5_need (.code yX5_need cX5_need 4 (some .int)) [.ref (L 11 0), .int a, .int b] JI JPi h := by
  by_cases c1 : a < 0 ∨ nI n ≤ a
  · exact JJ.fault w hr (cL_need_IOB hlt w (c_X4_need_1 hlt w c1)) (c_X5_need_1 hlt w w.1.1 hr.en c1) (fun z => absurd z (by decide))
  obtain ⟨i, hi, rfl⟩ := ix (Nat.le_trans w.1.1 (by decide)) c1
  by_cases c2 : b < 0 ∨ ¬ b ≤ 999
  · exact JJ.fault w hr (cL_need_IAE hlt w (c_X4_need_2 hlt w hi c2)) (c_X5_need_2 hlt w w.1.1 hr.en hi c2) (fun z => absurd z (by decide))
  obtain ⟨b1, b2⟩ := rg c2
  refine JJ.good (by decide) (by decide) (cL_need_0 hlt w (Rr := fun i' n' p' ord' L' Γ' => Γ 2 i 2 = i' ∧ n = n' ∧ p = p' ∧ ord = ord' ∧ L = L' ∧ u3 Γ 2 i 2 b = Γ') ((c_X4_need_0 hlt w hi b1 b2).mono fun v h' q => ⟨_, n, p, ord, L, _, q.1, rfl, q.2, rfl, rfl, rfl, rfl, rfl, rfl⟩)) (fun i' n' p' ord' L' Γ' h1 q w1 => ?_)
  obtain ⟨rfl, rfl, rfl, rfl, rfl, rfl⟩ := q
  refine ⟨sm.rf, fun j => u3_n (by omega), (c_X5_need_0 hlt w1 w.1.1 (by rw [u3_n (by omega)]; exact hr.en) hi b1 b2).mono fun v h' q => ⟨_, q.1, T, n, p, A, B, ord, L, _, _, Nat.le_succ T, q.2, keep_need hr hi (rgI c2).1 (rgI c2).2, sm.rf, fun j => ?_, ?_, fun _ => ?_⟩⟩
  · rw [u3_n (by omega), u3_n (by omega), u3_n (by omega)]
  · rw [u3_n (by omega), u3_s]
  · rw [u3_n (by omega), (hr.2.1 i hi).1.2.2.1]
theorem J_source {l : Launch} (hlt : l.stackTraces = false) {N n p T : Nat} {A B : Nat → Nat} {ord : List Nat} {L : Nat → Nat → Nat} {Γ : Nat → Nat → Nat → Int32} {o : Int64} {h : am_H} (w : WI N n p ord L Γ o h) (hr : RI T n p A B ord Γ) (a : Int32) : JJ l N T L Γ yL_source (.codeWith yL_source cL_source 4 (some .int) [(0, 9, 12, 13), (0, 9, 15, 15)]) [.ref (L 5 0), .int a, .ref (L 14 0)] yX5_source (.code yX5_source cX5_source 3 (some .int)) [.ref (L 11 0), .int a] JI JPi h := by
  by_cases c1 : a < 0 ∨ ¬ a ≤ 9999
  · exact JJ.fault w hr (cL_source_IAE hlt w (c_X4_source_1 hlt w c1)) (c_X5_source_1 hlt w c1) (fun z => absurd z (by decide))
  obtain ⟨b1, b2⟩ := rg c1
  by_cases c2 : Γ 5 0 5 = 0
  · refine JJ.good (by decide) (by decide) (cL_source_0 hlt w (Rr := fun i' n' p' ord' L' Γ' => Γ 3 0 1 = i' ∧ n = n' ∧ p = p' ∧ ord = ord' ∧ L = L' ∧ u3 Γ 3 0 1 a = Γ') ((c_X4_source_0 hlt w b1 b2 c2).mono fun v h' q => ⟨_, n, p, ord, L, _, q.1, rfl, q.2, rfl, rfl, rfl, rfl, rfl, rfl⟩)) (fun i' n' p' ord' L' Γ' h1 q w1 => ?_)
    obtain ⟨rfl, rfl, rfl, rfl, rfl, rfl⟩ := q
    refine ⟨sm.rf, fun j => u3_n (by omega), (c_X5_source_0 hlt w1 b1 b2 (by rw [u3_n (by omega)]; exact fun z => hr.fl.mp z c2)).mono fun v h' q => ⟨_, q.1, T, n, p, A, B, ord, L, _, _, Nat.le_succ T, q.2, keep_source hr c2 (rgI c1).1 (rgI c1).2, sm.rf, fun j => ?_, ?_, fun _ => ?_⟩⟩
    · rw [u3_n (by omega), u3_n (by omega), u3_n (by omega)]
    · rw [u3_n (by omega), u3_s]
    · rw [u3_n (by omega), hr.1.2.2.2.2.2.2.2.2.2.1]
  · exact JJ.fault w hr (cL_source_ISE hlt w (c_X4_source_2 hlt w b1 b2 c2)) (c_X5_source_2 hlt w b1 b2 (hr.fl.mpr c2)) (fun z => absurd z (by decide))
theorem J_repair {l : Launch} (hlt : l.stackTraces = false) {N n p T : Nat} {A B : Nat → Nat} {ord : List Nat} {L : Nat → Nat → Nat} {Γ : Nat → Nat → Nat → Int32} {o : Int64} {h : am_H} (w : WI N n p ord L Γ o h) (hr : RI T n p A B ord Γ) (a : Int32) : JJ l N T L Γ yL_repair (.codeWith yL_repair cL_repair 3 (some .int) [(0, 5, 8, 21), (0, 5, 11, 15)]) [.ref (L 5 0), .int a] yX5_repair (.code yX5_repair cX5_repair 3 none) [.ref (L 11 0), .int a] JN JPn h := by
  by_cases c1 : a < 0 ∨ nI p ≤ a
  · exact JJ.fault w hr (cL_repair_IOB hlt w (c_X4_repair_1 hlt w c1)) (c_X5_repair_1 hlt w w.1.2.1 hr.ep c1) trivial
  obtain ⟨i, hi, rfl⟩ := ix (Nat.le_trans w.1.2.1 (by decide)) c1
  have hb := (hr.2.2.2.1 i hi).2.2.2.2.2
  by_cases c2 : Γ 4 i 3 = 0
  · exact JJ.fault w hr (cL_repair_ISE hlt w (c_X4_repair_2a hlt w hi c2)) (c_X5_repair_2a hlt w w.1.2.1 hr.ep hi (hb.mpr c2)) trivial
  by_cases c3 : Γ 5 0 5 = 0
  · refine JJ.good (by decide) (by decide) (f := fun _ => o) (cL_repair_0 hlt w (Rr := fun i' n' p' ord' L' Γ' => (0 : Int32) = i' ∧ n = n' ∧ p = p' ∧ ord = ord' ∧ L = L' ∧ u3 Γ 4 i 3 0 = Γ') ((c_X4_repair_0 hlt w hi c2 c3).mono fun v h' q => ⟨_, n, p, ord, L, _, q.1, rfl, q.2, rfl, rfl, rfl, rfl, rfl, rfl⟩)) (fun i' n' p' ord' L' Γ' h1 q w1 => ?_)
    obtain ⟨rfl, rfl, rfl, rfl, rfl, rfl⟩ := q
    refine ⟨sm.rf, fun j => u3_n (by omega), (c_X5_repair_0 hlt w1 w.1.2.1 (by rw [u3_n (by omega)]; exact hr.ep) hi (by rw [u3_n (by omega)]; exact fun z => c2 (hb.mp z)) (by rw [u3_n (by omega)]; exact fun z => hr.fl.mp z c3)).mono fun v h' q => ⟨0, q.1, T, n, p, A, B, ord, L, _, _, Nat.le_succ T, q.2, keep_pipeflag hr c3 hi 0, sm.rf, fun j => ?_, ?_, trivial⟩⟩
    · rw [u3_n (by omega), u3_n (by omega), u3_n (by omega)]
    · rw [u3_n (by omega), u3_s]
  · exact JJ.fault w hr (cL_repair_ISE hlt w (c_X4_repair_2b hlt w hi c2 c3)) (c_X5_repair_2b hlt w w.1.2.1 hr.ep hi (fun z => c2 (hb.mp z)) (hr.fl.mpr c3)) trivial
theorem J_bid {l : Launch} (hlt : l.stackTraces = false) {N n p T : Nat} {A B : Nat → Nat} {ord : List Nat} {L : Nat → Nat → Nat} {Γ : Nat → Nat → Nat → Int32} {o : Int64} {h : am_H} (w : WI N n p ord L Γ o h) (hr : RI T n p A B ord Γ) (hT : T < 2 ^ 30) (x a b : Int32) : JJ l N T L Γ yL_bid (.codeWith yL_bid cL_bid 6 (some .int) [(0, 12, 15, 21), (0, 12, 19, 13), (0, 12, 23, 15)]) [.ref (L 5 0), .int x, .int a, .int b, .ref (L 14 0)] yX5_bid (.code yX5_bid cX5_bid 7 (some .int)) [.ref (L 11 0), .int x, .int a, .int b] JI JPi h := by
  by_cases c1 : x < 0 ∨ nI n ≤ x
  · refine JJ.fault (k := 1) w hr (cL_bid_IOB hlt w (c_X4_bid_1 hlt w c1)) ?_ (fun z => absurd z (by decide))
    by_cases c2 : a < 0 ∨ ¬ a ≤ 99
    · exact c_X5_bid_1a hlt w w.1.1 hr.en c1 c2
    by_cases c3 : b < 0 ∨ ¬ b ≤ 999
    · exact c_X5_bid_1b hlt w w.1.1 hr.en c1 (rg c2).1 (rg c2).2 c3
    · exact c_X5_bid_1c hlt w w.1.1 hr.en c1 (rg c2).1 (rg c2).2 (rg c3).1 (rg c3).2
  obtain ⟨i, hi, rfl⟩ := ix (Nat.le_trans w.1.1 (by decide)) c1
  have hst := (hr.2.1 i hi).2.1.1
  have hpr := (hr.2.1 i hi).2.2.1
  by_cases c2 : a < 0 ∨ ¬ a ≤ 99
  · refine JJ.fault (k := 2) w hr (cL_bid_IAE hlt w (c_X4_bid_2a hlt w hi c2)) ?_ (fun z => absurd z (by decide))
    by_cases d1 : Γ 11 0 1 = -1
    · exact c_X5_bid_2aa hlt w w.1.1 hr.en hi c2 d1
    by_cases d2 : Γ 13 10 i = 0
    · exact c_X5_bid_2ab hlt w w.1.1 hr.en hi c2 d1 d2
    by_cases d3 : a < Γ 12 7 i
    · exact c_X5_bid_2ac hlt w w.1.1 hr.en hi c2 d1 d2 d3
    · exact c_X5_bid_2ad hlt w w.1.1 hr.en hi c2 d1 d2 d3
  obtain ⟨a1, a2⟩ := rg c2
  by_cases c3 : b < 0 ∨ ¬ b ≤ 999
  · refine JJ.fault (k := 2) w hr (cL_bid_IAE hlt w (c_X4_bid_2b hlt w hi a1 a2 c3)) ?_ (fun z => absurd z (by decide))
    by_cases d1 : Γ 11 0 1 = -1
    · exact c_X5_bid_2ba hlt w w.1.1 hr.en hi a1 a2 c3 d1
    by_cases d2 : Γ 13 10 i = 0
    · exact c_X5_bid_2bb hlt w w.1.1 hr.en hi a1 a2 c3 d1 d2
    by_cases d3 : a < Γ 12 7 i
    · exact c_X5_bid_2bc hlt w w.1.1 hr.en hi a1 a2 c3 d1 d2 d3
    · exact c_X5_bid_2bd hlt w w.1.1 hr.en hi a1 a2 c3 d1 d2 d3
  obtain ⟨b1, b2⟩ := rg c3
  by_cases c4 : Γ 5 0 5 = 0
  · have d1 : ¬ Γ 11 0 1 = -1 := fun z => hr.fl.mp z c4
    have kb := keep_bid (a := a) hr hi hT (rgI c3).1 (Int.le_trans (rgI c3).2 (by decide))
    have e34 : (sp_mbid (sp_cbid Γ i a b) i a b) 11 0 34 = 0 := by
      unfold sp_mbid
      rw [u3_n (by omega), u3_n (by omega), u3_n (by omega), u3_n (by omega), u3_n (by omega), u3_s]
    have e15 : ∀ j, (sp_mbid (sp_cbid Γ i a b) i a b) 15 0 j = Γ 15 0 j := fun j => by
      unfold sp_mbid
      rw [u3_n (by omega), u3_n (by omega), u3_n (by omega), u3_n (by omega), u3_n (by omega), u3_n (by omega), cbid_m (by omega)]
    by_cases c5 : Γ 0 i 0 = 0
    · refine JJ.good (by decide) (by decide) (cL_bid_0 hlt w (Rr := fun i' n' p' ord' L' Γ' => sp_cbid Γ i a b 5 0 6 = i' ∧ n = n' ∧ p = p' ∧ ord = ord' ∧ L = L' ∧ sp_cbid Γ i a b = Γ') ((c_X4_bid_0a hlt w hi a1 a2 b1 b2 c4 c5).mono fun v h' q => ⟨_, n, p, ord, L, _, q.1, rfl, q.2, rfl, rfl, rfl, rfl, rfl, rfl⟩)) (fun i' n' p' ord' L' Γ' h1 q w1 => ?_)
      obtain ⟨rfl, rfl, rfl, rfl, rfl, rfl⟩ := q
      exact ⟨sm.rf, fun j => cbid_m (by omega), (c_X5_bid_0b hlt w1 w.1.1 (by rw [cbid_m (by omega)]; exact hr.en) hi a1 a2 b1 b2 (by rw [cbid_m (by omega)]; exact d1) (by rw [cbid_m (by omega)]; exact hst.mpr c5)).mono fun v h' q => ⟨_, q.1, T + 1, n, p, A, B, ord, L, _, _, Nat.le_refl _, q.2, kb.1, sm.rf, e15, e34, fun _ => by rw [kb.2]; rfl⟩⟩
    have hm7 : ∀ q : Prop, (a < Γ 12 7 i → q) → (¬ Γ 0 i 1 ≤ a → q) := fun q f z => f (by rw [(hpr c5).1]; exact Int32.not_le.mp z)
    by_cases c6 : Γ 0 i 1 ≤ a
    · refine JJ.good (by decide) (by decide) (cL_bid_0 hlt w (Rr := fun i' n' p' ord' L' Γ' => sp_cbid Γ i a b 5 0 6 = i' ∧ n = n' ∧ p = p' ∧ ord = ord' ∧ L = L' ∧ sp_cbid Γ i a b = Γ') ((c_X4_bid_0b hlt w hi a1 a2 b1 b2 c4 c5 c6).mono fun v h' q => ⟨_, n, p, ord, L, _, q.1, rfl, q.2, rfl, rfl, rfl, rfl, rfl, rfl⟩)) (fun i' n' p' ord' L' Γ' h1 q w1 => ?_)
      obtain ⟨rfl, rfl, rfl, rfl, rfl, rfl⟩ := q
      exact ⟨sm.rf, fun j => cbid_m (by omega), (c_X5_bid_0d hlt w1 w.1.1 (by rw [cbid_m (by omega)]; exact hr.en) hi a1 a2 b1 b2 (by rw [cbid_m (by omega)]; exact d1) (by rw [cbid_m (by omega)]; exact fun z => c5 (hst.mp z)) (by rw [cbid_m (by omega), (hpr c5).1]; exact Int32.not_lt.mpr c6)).mono fun v h' q => ⟨_, q.1, T + 1, n, p, A, B, ord, L, _, _, Nat.le_refl _, q.2, kb.1, sm.rf, e15, e34, fun _ => by rw [kb.2]; rfl⟩⟩
    · exact JJ.fault (k := 3) w hr (cL_bid_ISE hlt w (c_X4_bid_3b hlt w hi a1 a2 b1 b2 c4 c5 c6)) (c_X5_bid_3c hlt w w.1.1 hr.en hi a1 a2 b1 b2 d1 (fun z => c5 (hst.mp z)) (hm7 _ id c6)) (fun z => absurd z (by decide))
  · exact JJ.fault (k := 3) w hr (cL_bid_ISE hlt w (c_X4_bid_3a hlt w hi a1 a2 b1 b2 c4)) (c_X5_bid_3a hlt w w.1.1 hr.en hi a1 a2 b1 b2 (hr.fl.mpr c4)) (fun z => absurd z (by decide))
