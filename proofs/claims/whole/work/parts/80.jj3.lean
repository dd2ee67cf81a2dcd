theorem frP_irr {Γ G : Nat → Nat → Nat → Int32} (h : frP Γ G) (c i j : Nat) (z : ¬ irr c i j) : G c i j = Γ c i j := by
  unfold irr at z
  exact h c i j (by omega) (by omega) (by omega)
theorem frF_irr {Γ G : Nat → Nat → Nat → Int32} (h : frF Γ G) (c i j : Nat) (z : ¬ irr c i j) : G c i j = Γ c i j := by
  unfold irr at z
  exact h c i j (by omega) (by omega)
theorem J_flowAnew {l : Launch} (hlt : l.stackTraces = false) {N n p T : Nat} {A B : Nat → Nat} {ord : List Nat} {L : Nat → Nat → Nat} {Γ : Nat → Nat → Nat → Int32} {o : Int64} {h : am_H} (w : WI N n p ord L Γ o h) (hr : RI T n p A B ord Γ) (a : Int32) : JJ l N T L Γ yL_flowAnew (.codeWith yL_flowAnew cL_flowAnew 4 (some .int) [(0, 9, 12, 21)]) [.ref (L 5 0), .int a, .ref (L 14 0)] yX5_flowAnew (.code yX5_flowAnew cX5_flowAnew 2 (some .int)) [.ref (L 11 0), .int a] JI JPi h := by
  by_cases c1 : a < 0 ∨ nI n ≤ a
  · exact JJ.fault w hr (cL_flowAnew_IOB hlt w (c_X4_flowAnew_1 hlt w c1)) (c_X5_flowAnew_1 hlt w w.1.1 hr.en c1) (fun z => absurd z (by decide))
  obtain ⟨i, hi, rfl⟩ := ix (Nat.le_trans w.1.1 (by decide)) c1
  have e17 := (hr.2.1 i hi).1.2.2.2.2.1
  by_cases c2 : Γ 5 0 5 = 0
  · refine JJ.good (by decide) (by decide) (cL_flowAnew_0 hlt w (Rr := fun i' n' p' ord' L' Γ' => (0 : Int32) = i' ∧ n = n' ∧ p = p' ∧ ord = ord' ∧ L = L' ∧ Γ = Γ') ((c_X4_flowAnew_0a hlt w hi c2).mono fun v h' q => ⟨_, n, p, ord, L, Γ, q.1, rfl, by rw [q.2]; exact w, rfl, rfl, rfl, rfl, rfl, rfl⟩)) (fun i' n' p' ord' L' Γ' h1 q w1 => ?_)
    obtain ⟨rfl, rfl, rfl, rfl, rfl, rfl⟩ := q
    refine ⟨sm.rf, fun j => rfl, (c_X5_flowAnew_0 hlt w1 w.1.1 hr.en hi).mono fun v h' q => ⟨_, q.1, T, n, p, A, B, ord, L, _, _, Nat.le_succ T, q.2, hr.thrown 0, sm.rf, fun j => u3_n (by omega), u3_s, fun _ => ?_⟩⟩
    rw [e17, hr.2.2.2.2.2.1.1 c2 i hi]
  by_cases c3 : Γ 0 i 0 = 0
  · refine JJ.good (by decide) (by decide) (cL_flowAnew_0 hlt w (Rr := fun i' n' p' ord' L' Γ' => (0 : Int32) = i' ∧ n = n' ∧ p = p' ∧ ord = ord' ∧ L = L' ∧ Γ = Γ') ((c_X4_flowAnew_0b hlt w hi c2 c3).mono fun v h' q => ⟨_, n, p, ord, L, Γ, q.1, rfl, by rw [q.2]; exact w, rfl, rfl, rfl, rfl, rfl, rfl⟩)) (fun i' n' p' ord' L' Γ' h1 q w1 => ?_)
    obtain ⟨rfl, rfl, rfl, rfl, rfl, rfl⟩ := q
    refine ⟨sm.rf, fun j => rfl, (c_X5_flowAnew_0 hlt w1 w.1.1 hr.en hi).mono fun v h' q => ⟨_, q.1, T, n, p, A, B, ord, L, _, _, Nat.le_succ T, q.2, hr.thrown 0, sm.rf, fun j => u3_n (by omega), u3_s, fun _ => ?_⟩⟩
    rw [e17, (hr.2.1 i hi).2.2.2.2.1 c3]
  obtain ⟨t, ht, et⟩ := od_ex (hr.2.2.2.2.1.mem.mpr ⟨hi, c3⟩)
  obtain ⟨f1, f2⟩ := hr.2.2.2.2.2.1.2 c2
  have hah : sp_sum (fun j => if sp_ahead Γ (ord.getD j 0) i = 0 then 0 else 1) ord.length = nI t := by
    rw [sp_ahead_cnt, ← et, hr.2.2.2.2.1.place ht]
  refine JJ.good (by decide) (by decide) (cL_flowAnew_0 hlt w (Rr := fun i' n' p' ord' L' Γ' => ∃ (x : Nat → Int) (G : Nat → Nat → Nat → Int32), i'.toInt = x t ∧ n = n' ∧ p = p' ∧ ord = ord' ∧ L = L' ∧ G = Γ' ∧ frP Γ G ∧ SEQ (CM p (nuf A) (nuf B) (KC Γ)) (Γ 3 0 1).toInt (od ord) (fun i => (Γ 2 (od ord i) 7).toInt) x (t + 1)) ((c_X4_flowAnew_0c hlt w hi c2 c3 hr.sc f1 ht hah).mono fun v h' q => by obtain ⟨x, y, G, q1, q2, q3, q4, q5⟩ := q; exact ⟨_, n, p, ord, L, _, q1, rfl, q3, x, G, q2, rfl, rfl, rfl, rfl, rfl, q4, q5⟩)) (fun i' n' p' ord' L' Γ' h1 q w1 => ?_)
  obtain ⟨x, G, q2, rfl, rfl, rfl, rfl, rfl, q4, q5⟩ := q
  have hG := hr.congr (frP_irr q4)
  refine ⟨sm.rf, fun j => q4 _ _ _ (by omega) (by omega) (by omega), (c_X5_flowAnew_0 hlt w1 w.1.1 hG.en hi).mono fun v h' q => ⟨_, q.1, T, n, p, A, B, ord, L, _, _, Nat.le_succ T, q.2, hG.thrown 0, sm.rf, fun j => ?_, u3_s, fun _ => ?_⟩⟩
  · rw [u3_n (by omega)]
    exact q4 _ _ _ (by omega) (by omega) (by omega)
  · have hu := SEQ.uniq (t + 1) (by rw [hr.cm] at q5; exact q5) (fun k hk => f2 k (by omega)) t (Nat.lt_succ_self t)
    rw [q4 _ _ _ (by omega) (by omega) (by omega), e17]
    congr 1
    refine Int32.toInt_inj.mp (q2.trans (hu.trans ?_))
    show (Γ 2 (od ord t) 8).toInt = (Γ 2 i 8).toInt
    rw [et]
theorem J_most {l : Launch} (hlt : l.stackTraces = false) {N n p T : Nat} {A B : Nat → Nat} {ord : List Nat} {L : Nat → Nat → Nat} {Γ : Nat → Nat → Nat → Int32} {o : Int64} {h : am_H} (w : WI N n p ord L Γ o h) (hr : RI T n p A B ord Γ) (a : Int32) : JJ l N T L Γ yL_most (.codeWith yL_most cL_most 4 (some .int) [(0, 9, 12, 13)]) [.ref (L 5 0), .int a, .ref (L 14 0)] yX5_most (.code yX5_most cX5_most 4 (some .int)) [.ref (L 11 0), .int a] JI JPi h := by
  by_cases c1 : a < 0 ∨ (1 : Int32) <<< (nI n &&& 31) ≤ a
  · exact JJ.fault w hr (cL_most_IAE hlt w (c_X4_most_1 hlt w c1)) (c_X5_most_1 hlt w w.1.1 hr.en c1) (fun z => absurd z (by decide))
  have a1 : ¬ a < 0 := fun z => c1 (Or.inl z)
  have a2 : a < (1 : Int32) <<< (nI n &&& 31) := Int32.not_le.mp fun z => c1 (Or.inr z)
  refine JJ.good (by decide) (by decide) (cL_most_0 hlt w (Rr := fun i' n' p' ord' L' Γ' => ∃ (x : Nat → Int) (G : Nat → Nat → Nat → Int32), i'.toInt = zs x n ∧ n = n' ∧ p = p' ∧ ord = ord' ∧ L = L' ∧ G = Γ' ∧ frP Γ G ∧ SEQ (CM p (nuf A) (nuf B) (KC Γ)) (Γ 3 0 1).toInt (fun i => i) (sp_bit a) x n) ((c_X4_most_0 hlt w hr.sc a1 a2).mono fun v h' q => by obtain ⟨x, y, G, q1, q2, q3, q4, q5⟩ := q; exact ⟨_, n, p, ord, L, _, q1, rfl, q3, x, G, q2, rfl, rfl, rfl, rfl, rfl, q4, q5⟩)) (fun i' n' p' ord' L' Γ' h1 q w1 => ?_)
  obtain ⟨x, G, q2, rfl, rfl, rfl, rfl, rfl, q4, q5⟩ := q
  have hG := hr.congr (frP_irr q4)
  have g2 : G 11 0 2 = Γ 3 0 1 := by rw [q4 _ _ _ (by omega) (by omega) (by omega)]; exact hr.1.2.2.2.2.2.2.2.2.2.1
  have gv := hr.1.2.2.2.2.2.2.2.2.2.2.1
  refine ⟨sm.rf, fun j => q4 _ _ _ (by omega) (by omega) (by omega), (c_X5_most_0 hlt w1 w.1.1 hG.en w.1.2.1 hG.ep hG.pj (fun j hj => (hG.kc hj).2) (by rw [g2]; exact gv.1) (by rw [g2]; exact gv.2) a1 a2).mono fun v h' q => ?_⟩
  obtain ⟨x2, G2, y, y1, y2, y3, y4, y5⟩ := q
  have hkg : KG G = KG Γ := KG_congr (fun j => q4 _ _ _ (by omega) (by omega) (by omega)) (fun j => q4 _ _ _ (by omega) (by omega) (by omega))
  rw [hkg, g2] at y5
  rw [hr.cm] at q5
  have hu : ∀ k, k < n → x k = x2 k := SEQ.uniq n q5 y5
  refine ⟨_, y1, T, n, p, A, B, ord, L, _, _, Nat.le_succ T, y3, (hG.thrown 0).congr (frF_irr y4), sm.rf, fun j => ?_, ?_, fun _ => ?_⟩
  · rw [y4 _ _ _ (by omega) (by omega), u3_n (by omega)]
    exact q4 _ _ _ (by omega) (by omega) (by omega)
  · rw [y4 _ _ _ (by omega) (by omega), u3_s]
  · congr 1
    exact Int32.toInt_inj.mp (by rw [q2, y2, zs_congr n hu])
theorem mends_34 {Γ : Nat → Nat → Nat → Int32} : ∀ m, sp_mends m Γ 11 0 34 = 0
  | 0 => by
    show u3 Γ 11 0 34 0 11 0 34 = 0
    exact u3_s
  | m + 1 => by
    show sp_mend m (sp_mends m Γ) 11 0 34 = 0
    rw [sp_mend_fr (by omega) (by omega)]
    exact mends_34 m
theorem msets_34 {Γ : Nat → Nat → Nat → Int32} : ∀ m, sp_msets m Γ 11 0 34 = 0
  | 0 => by
    show u3 Γ 11 0 34 0 11 0 34 = 0
    exact u3_s
  | m + 1 => by
    show sp_mset m (sp_msets m Γ) 11 0 34 = 0
    rw [sp_mset_fr (by omega)]
    exact msets_34 m
theorem J_end {l : Launch} (hlt : l.stackTraces = false) {N n p T : Nat} {A B : Nat → Nat} {ord : List Nat} {L : Nat → Nat → Nat} {Γ : Nat → Nat → Nat → Int32} {o : Int64} {h : am_H} (w : WI N n p ord L Γ o h) (hr : RI T n p A B ord Γ) : JJ l N T L Γ yL_end (.codeWith yL_end cL_end 3 (some .int) [(0, 8, 11, 15)]) [.ref (L 5 0), .ref (L 14 0)] yX5_end (.code yX5_end cX5_end 5 (some .int)) [.ref (L 11 0)] JI JPi h := by
  have gh := hr.1.2.2.2.1
  have e0 := hr.1.2.2.1
  have k1 : (1000 : Int32).toInt = 1000 := rfl
  by_cases c1 : Γ 5 0 5 = 0
  · exact JJ.fault w hr (cL_end_ISE hlt w (c_X4_end_1 hlt w fun z => absurd c1 z)) (c_X5_end_1 hlt w fun z => absurd c1 (hr.fl.mp z)) (fun z => absurd z (by decide))
  by_cases c2 : Γ 5 0 3 < 1000
  · have h0 : ¬ Γ 5 0 3 = 1000 := fun z => by rw [z] at c2; exact absurd c2 (by decide)
    have hm : ∀ c i j, 11 ≤ c → sp_cend0 n Γ c i j = Γ c i j := fun c i j z => by
      unfold sp_cend0
      rw [u3_n (by omega), u3_n (by omega), u3_n (by omega), cends_fr (by omega) n (by omega)]
    refine JJ.good (by decide) (by decide) (cL_end_0 hlt w (Rr := fun i' n' p' ord' L' Γ' => sp_sum (fun k => sp_clk k (sp_cends k Γ)) n = i' ∧ n = n' ∧ p = p' ∧ [] = ord' ∧ LE7 L L' ∧ sp_cend0 n Γ = Γ') ((c_X4_end_0 hlt w c1 c2).mono fun v h' q => by obtain ⟨q1, L', q2, q3⟩ := q; exact ⟨_, n, p, [], L', _, q1, q2 _ _ (by decide), q3, rfl, rfl, rfl, rfl, q2, rfl⟩)) (fun i' n' p' ord' L' Γ' h1 q w1 => ?_)
    obtain ⟨rfl, rfl, rfl, rfl, q2, rfl⟩ := q
    have hsm := sm.of7 q2
    obtain ⟨k1, k2⟩ := keep_end hr c1 c2
    have hc := c_X5_end_0 hlt w1 w.1.1 (by rw [hm _ _ _ (by omega)]; exact hr.en) (by rw [hm _ _ _ (by omega)]; exact hr.fl.mpr c1) (by rw [hm _ _ _ (by omega), e0]; exact h0)
    rw [hsm.2.1] at hc
    refine ⟨hsm, fun j => hm _ _ _ (by omega), hc.mono fun v h' q => ⟨_, q.1, T, n, p, A, B, [], L', _, _, Nat.le_succ T, q.2, k1, hsm, fun j => ?_, ?_, fun _ => by rw [k2]⟩⟩
    · rw [u3_n (by omega), u3_n (by omega), mends_fr (by omega) n (by omega), hm _ _ _ (by omega)]
    · rw [u3_n (by omega), u3_n (by omega), mends_34]
  · have h0 : Γ 11 0 0 = 1000 := by
      rw [e0]
      rw [Int32.lt_iff_toInt_lt, k1] at c2
      exact Int32.toInt_inj.mp (by rw [k1]; omega)
    exact JJ.fault w hr (cL_end_ISE hlt w (c_X4_end_1 hlt w fun _ => c2)) (c_X5_end_1 hlt w fun _ => h0) (fun z => absurd z (by decide))
theorem J_close {l : Launch} (hlt : l.stackTraces = false) {N n p T : Nat} {A B : Nat → Nat} {ord : List Nat} {L : Nat → Nat → Nat} {Γ : Nat → Nat → Nat → Int32} {o : Int64} {h : am_H} (w : WI N n p ord L Γ o h) (hr : RI T n p A B ord Γ) : JJ l N T L Γ yL_close (.codeWith yL_close cL_close 3 (some .int) [(0, 15, 18, 15)]) [.ref (L 5 0), .ref (L 14 0)] yX5_close (.code yX5_close cX5_close 3 (some .boolean)) [.ref (L 11 0)] JI JPc h := by
  have h4 := hr.1.2.2.2.2.1
  by_cases c1 : Γ 5 0 5 = 0
  case neg => exact JJ.fault w hr (cL_close_ISE hlt w (c_X4_close_1 hlt w c1)) (c_X5_close_1 hlt w (hr.fl.mpr c1)) ⟨Or.inl rfl, fun z => absurd z (by decide)⟩
  have e1 : Γ 11 0 1 = Γ 5 0 4 := by
    have q := hr.1.2.2.2.2.2.1
    rw [if_pos c1] at q
    exact q
  by_cases c2 : Γ 5 0 6 = 0
  · refine JJ.good (by decide) (by decide) (f := fun i => if i = 0 then 0 else 1) (cL_close_0 hlt w (Rr := fun i' n' p' ord' L' Γ' => ∃ (x : Nat → Int) (G : Nat → Nat → Nat → Int32), (1 : Int32) = i' ∧ n = n' ∧ p = p' ∧ ORD (sp_cclose n Γ) n ord' ∧ LE7 L L' ∧ cit 9 Fpay ord' ord'.length G = Γ' ∧ CST (cit 7 F7u ord' ord'.length (u3 (sp_cclose n Γ) 5 0 5 1)) G p (nuf A) (nuf B) ord' x) ((c_X4_close_0a hlt w c1 (close_dst hr) (close_sc hr) (close_cap hr) c2).mono fun v h' q => by obtain ⟨ord', L', x, G, q1, q2, q3, q4, q5⟩ := q; exact ⟨_, n, p, ord', L', _, q1, q3 _ _ (by decide), q4, x, G, rfl, rfl, rfl, q2, q3, rfl, q5⟩)) (fun i' n' p' ord' L' Γ' h1 q w1 => ?_)
    obtain ⟨x, G, rfl, rfl, rfl, ho, hle, rfl, hC⟩ := q
    have hsm := sm.of7 hle
    have hX : ∀ c i j, 11 ≤ c → cit 9 Fpay ord' ord'.length G c i j = Γ c i j := close_m hC
    have hR := settle_R hr c1 hX ho
    have hc := c_X5_close_0a hlt w1 w.1.1 (by rw [hX _ _ _ (by omega)]; exact hr.en) w.1.2.1 (by rw [hX _ _ _ (by omega)]; exact hr.ep) (close_sj hR w.1.1) (fun i hi => (hR.st hi).1) (close_mo hR) (by rw [hX _ _ _ (by omega)]; exact fun z => hr.fl.mp z c1) (by rw [close_told hr hX]; exact c2)
    rw [hsm.2.1] at hc
    refine ⟨hsm, fun j => hX _ _ _ (by omega), hc.mono fun v h' q => ?_⟩
    obtain ⟨y, G2, q1, q2, q3⟩ := q
    refine ⟨1, q1, T, n, p, A, B, ord', L', _, _, Nat.le_succ T, q2, keep_close_over hr w.1.1 c1 ho hC q3, hsm, fun j => ?_, ?_, Or.inr rfl, fun _ => by decide⟩
    · rw [u3_n (by omega), sp_mpay_fr (by omega), q3.1 15 0 j (by omega) (by omega) (by omega), sp_m33_fr (by omega)]
      unfold sp_mclose
      rw [u3_n (by omega), msets_fr (by omega) n (by omega), hX _ _ _ (by omega)]
    · rw [u3_n (by omega), sp_mpay_fr (by omega), q3.1 11 0 34 (by omega) (by omega) (by omega), sp_m33_fr (by omega)]
      unfold sp_mclose
      rw [u3_n (by omega), msets_34]
  by_cases c3 : Γ 5 0 4 < 4
  case neg =>
    refine JJ.good (by decide) (by decide) (f := fun i => if i = 0 then 0 else 1) (cL_close_0 hlt w (Rr := fun i' n' p' ord' L' Γ' => ∃ (x : Nat → Int) (G : Nat → Nat → Nat → Int32), (1 : Int32) = i' ∧ n = n' ∧ p = p' ∧ ORD (sp_cclose n Γ) n ord' ∧ LE7 L L' ∧ cit 9 Fpay ord' ord'.length G = Γ' ∧ CST (cit 7 F7u ord' ord'.length (u3 (sp_cclose n Γ) 5 0 5 1)) G p (nuf A) (nuf B) ord' x) ((c_X4_close_0b hlt w c1 (close_dst hr) (close_sc hr) (close_cap hr) c2 c3).mono fun v h' q => by obtain ⟨ord', L', x, G, q1, q2, q3, q4, q5⟩ := q; exact ⟨_, n, p, ord', L', _, q1, q3 _ _ (by decide), q4, x, G, rfl, rfl, rfl, q2, q3, rfl, q5⟩)) (fun i' n' p' ord' L' Γ' h1 q w1 => ?_)
    obtain ⟨x, G, rfl, rfl, rfl, ho, hle, rfl, hC⟩ := q
    have hsm := sm.of7 hle
    have hX : ∀ c i j, 11 ≤ c → cit 9 Fpay ord' ord'.length G c i j = Γ c i j := close_m hC
    have hR := settle_R hr c1 hX ho
    have hc := c_X5_close_0b hlt w1 w.1.1 (by rw [hX _ _ _ (by omega)]; exact hr.en) w.1.2.1 (by rw [hX _ _ _ (by omega)]; exact hr.ep) (close_sj hR w.1.1) (fun i hi => (hR.st hi).1) (close_mo hR) (by rw [hX _ _ _ (by omega)]; exact fun z => hr.fl.mp z c1) (by rw [close_told hr hX]; exact c2) (by rw [hX _ _ _ (by omega), e1]; exact Decidable.byContradiction fun z => c3 ((lt_4 h4).mpr z))
    rw [hsm.2.1] at hc
    refine ⟨hsm, fun j => hX _ _ _ (by omega), hc.mono fun v h' q => ?_⟩
    obtain ⟨y, G2, q1, q2, q3⟩ := q
    refine ⟨1, q1, T, n, p, A, B, ord', L', _, _, Nat.le_succ T, q2, keep_close_over hr w.1.1 c1 ho hC q3, hsm, fun j => ?_, ?_, Or.inr rfl, fun _ => by decide⟩
    · rw [u3_n (by omega), sp_mpay_fr (by omega), q3.1 15 0 j (by omega) (by omega) (by omega), sp_m33_fr (by omega)]
      unfold sp_mclose
      rw [u3_n (by omega), msets_fr (by omega) n (by omega), hX _ _ _ (by omega)]
    · rw [u3_n (by omega), sp_mpay_fr (by omega), q3.1 11 0 34 (by omega) (by omega) (by omega), sp_m33_fr (by omega)]
      unfold sp_mclose
      rw [u3_n (by omega), msets_34]
  refine JJ.good (by decide) (by decide) (f := fun i => if i = 0 then 0 else 1) (cL_close_0 hlt w (Rr := fun i' n' p' ord' L' Γ' => (0 : Int32) = i' ∧ n = n' ∧ p = p' ∧ ORD (sp_cclose n Γ) n ord' ∧ LE7 L L' ∧ (u3 (sp_cclose n Γ) 5 0 4 ((sp_cclose n Γ) 5 0 4 + 1)) = Γ') ((c_X4_close_0c hlt w c1 (close_dst hr) c2 c3).mono fun v h' q => by obtain ⟨ord', L', q1, q2, q3, q4⟩ := q; exact ⟨_, n, p, ord', L', _, q1, q3 _ _ (by decide), q4, rfl, rfl, rfl, q2, q3, rfl⟩)) (fun i' n' p' ord' L' Γ' h1 q w1 => ?_)
  obtain ⟨rfl, rfl, rfl, ho, hle, rfl⟩ := q
  have hsm := sm.of7 hle
  have hX : ∀ c i j, 11 ≤ c → (u3 (sp_cclose n Γ) 5 0 4 ((sp_cclose n Γ) 5 0 4 + 1)) c i j = Γ c i j := fun c i j z => by rw [u3_n (by omega), cclose_fr (by omega) (by omega)]
  have hc := c_X5_close_0c hlt w1 w.1.1 (by rw [hX _ _ _ (by omega)]; exact hr.en) (by rw [hX _ _ _ (by omega)]; exact fun z => hr.fl.mp z c1) (by rw [close_told hr hX]; exact c2) (by rw [hX _ _ _ (by omega), e1]; exact (lt_4 h4).mp c3)
  rw [hsm.2.1] at hc
  refine ⟨hsm, fun j => hX _ _ _ (by omega), hc.mono fun v h' q => ⟨0, q.1, T, n, p, A, B, ord', L', _, _, Nat.le_succ T, q.2, keep_close_0c hr c1 c3 ho, hsm, fun j => ?_, ?_, Or.inl rfl, fun _ => by decide⟩⟩
  · unfold sp_mclose
    rw [u3_n (by omega), msets_fr (by omega) n (by omega), hX _ _ _ (by omega)]
  · unfold sp_mclose
    rw [u3_n (by omega), msets_34]
