/-! ===== what the law asks for, with what becomes of the world ===== -/
def LK (o : Nat) (L L' : Nat → Nat → Nat) : Prop := L' 5 0 = L 5 0 ∧ L' 15 0 = L 15 0 ∧ ∀ i, i < o → L' 13 i = L 13 i
theorem LK.rf {o : Nat} {L : Nat → Nat → Nat} : LK o L L := ⟨rfl, rfl, fun _ _ => rfl⟩
theorem LK.tr {o : Nat} {L L1 L2 : Nat → Nat → Nat} (a : LK o L L1) (b : LK o L1 L2) : LK o L L2 := ⟨b.1.trans a.1, b.2.1.trans a.2.1, fun i hi => (b.2.2 i hi).trans (a.2.2 i hi)⟩
theorem LEd.lk {n p o : Nat} {L L' : Nat → Nat → Nat} (h : LEd n p o L L') : LK o L L' := ⟨h 5 0 rfl, h 15 0 rfl, fun i hi => h 13 i (decide_eq_true hi)⟩
theorem LE7.lk {o : Nat} {L L' : Nat → Nat → Nat} (h : LE7 L L') : LK o L L' := ⟨h 5 0 (by decide), h 15 0 (by decide), fun i _ => h 13 i (by decide)⟩
theorem nI_leL {a b : Nat} (h : a ≤ b) (hb : b < 2 ^ 31) : nI a ≤ nI b := (nI_leI (by omega) hb).mpr h
theorem I_m1 : (-1 : Int32).toInt = -1 := by decide
theorem prc_lt {Γ : Nat → Nat → Nat → Int32} {k pr : Nat} (hpr : pr < 2 ^ 31) (hs : Γ 0 k 0 = 0) : ¬ nI pr < prc Γ k := fun z => by
  unfold prc at z
  rw [if_pos hs] at z
  have := Int32.lt_iff_toInt_lt.mp z
  rw [nI_toInt hpr, I_m1] at this
  omega
def BIDF (T n p : Nat) (A B : Nat → Nat) (ord : List Nat) (k : Nat) (pr : Int32) (Γ Γ' : Nat → Nat → Nat → Int32) (i : Int32) : Prop :=
  CI (T + 1) n p A B ord Γ' ∧ (∀ c i' j, 11 ≤ c ∨ c = 0 ∨ c = 2 ∨ c = 4 ∨ (c = 5 ∧ ¬ (j = 6 ∨ j = 7)) → Γ' c i' j = Γ c i' j) ∧ ((Γ 5 0 5 = 1 ∨ pr < prc Γ k) → i = -70008) ∧ (¬ (Γ 5 0 5 = 1 ∨ pr < prc Γ k) → 0 < i.toInt ∧ i.toInt ≤ n)
section KAS
variable {l : Launch} {N n p : Nat} {ord : List Nat} {L : Nat → Nat → Nat} {Γ : Nat → Nat → Nat → Int32} {o : Nat} {h : am_H} {T : Nat} {A B : Nat → Nat}
theorem told_I (hn8 : n ≤ 8) (hc : CI T n p A B ord Γ) {k : Nat} (hk : k < n) (ht : ¬ Γ 1 k 0 = 0) : 0 < (Γ 5 0 6).toInt ∧ (Γ 5 0 6).toInt ≤ n := by
  have e := hc.1.2.2.2.2.2
  rw [sp_sum_cnt (P := fun j => decide (¬ Γ 1 j 0 = 0)) n (fun j _ => by
    by_cases c : Γ 1 j 0 = 0
    · rw [if_pos c, if_neg (by simp [c])]
    · rw [if_neg c, if_pos (by simp [c])])] at e
  have h1 := cntN_le (fun j => decide (¬ Γ 1 j 0 = 0)) n
  have h2 := cntN_in (P := fun j => decide (¬ Γ 1 j 0 = 0)) n k hk (decide_eq_true ht)
  rw [e, nI_toInt (by omega)]
  omega
theorem cbid_frP {G : Nat → Nat → Nat → Int32} (f : frP Γ G) (i : Nat) (a b : Int32) : frP (sp_cbid Γ i a b) (sp_cbid G i a b) := by
  have e1 : G 1 i 0 = Γ 1 i 0 := f.e (by omega)
  have e6 : G 5 0 6 = Γ 5 0 6 := f.e (by omega)
  have e7 : G 5 0 7 = Γ 5 0 7 := f.e (by omega)
  simp only [sp_cbid]
  rw [e1, e6, e7]
  by_cases c : Γ 1 i 0 = 0
  · rw [if_pos c, if_pos c]
    exact (((((f.u3 5 0 6 _).u3 1 i 0 1).u3 1 i 1 a).u3 1 i 2 b).u3 1 i 3 _).u3 5 0 7 _
  · rw [if_neg c, if_neg c]
    exact ((((f.u3 1 i 0 1).u3 1 i 1 a).u3 1 i 2 b).u3 1 i 3 _).u3 5 0 7 _
theorem ka_bid (hlt : l.stackTraces = false) (w : VW N n p ord L Γ o h) (hc : CI T n p A B ord Γ) (hT : T < 1000) {k : Nat} (hk : k < n) {pr u : Nat} (hpr : pr ≤ 99) (hu : u ≤ 999) : am_Con l yL_asks cdA 22 1 6 [.ref (L 5 0), .int 3, .int (nI k), .int (nI pr), .int (nI u)] h (fun v h' => ∃ (i : Int32) (Γ' : Nat → Nat → Nat → Int32), v = some (.int i) ∧ VW N n p ord L Γ' o h' ∧ BIDF T n p A B ord k (nI pr) Γ Γ' i) (fun _ _ => False) := by
  have w' := w
  have hn8 := w.w0.1
  obtain ⟨G, f, w⟩ := w
  have e5 : G 5 0 5 = Γ 5 0 5 := f.e (by omega)
  have e0 : G 0 k 0 = Γ 0 k 0 := f.e (by omega)
  have e1 : G 0 k 1 = Γ 0 k 1 := f.e (by omega)
  have h5k : am_K h (L 5 0) = 4 + 1 := w.k rfl
  have a1 : ¬ nI pr < 0 := nI_pos (by omega)
  have a2 : nI pr ≤ 99 := nI_leL (b := 99) hpr (by decide)
  have b1 : ¬ nI u < 0 := nI_pos (by omega)
  have b2 : nI u ≤ 999 := nI_leL (b := 999) hu (by decide)
  have acc : Γ 5 0 5 = 0 → ¬ nI pr < prc Γ k → am_Con l yX4_bid (.code yX4_bid cX4_bid 5 (some .int)) 20 0 0 [.ref (L 5 0), .int (nI k), .int (nI pr), .int (nI u)] h (fun v h' => v = some (.int (sp_cbid G k (nI pr) (nI u) 5 0 6)) ∧ WI N n p ord L (sp_cbid G k (nI pr) (nI u)) o h') (fun _ _ => False) := fun hf hp => by
    by_cases hs : Γ 0 k 0 = 0
    · exact c_X4_bid_0a hlt w hk a1 a2 b1 b2 (e5.trans hf) (e0.trans hs)
    · refine c_X4_bid_0b hlt w hk a1 a2 b1 b2 (e5.trans hf) (fun z => hs (e0.symm.trans z)) ?_
      unfold prc at hp
      rw [if_neg hs] at hp
      rw [e1]
      exact Int32.not_lt.mp hp
  by_cases hf : Γ 5 0 5 = 0
  · have nf : ¬ Γ 5 0 5 = 1 := by rw [hf]; decide
    by_cases hp : nI pr < prc Γ k
    · have hs : ¬ Γ 0 k 0 = 0 := fun z => prc_lt (by omega) z hp
      have hp2 := hp
      unfold prc at hp2
      rw [if_neg hs] at hp2
      refine (ca_bid_ISE hlt h5k (c_X4_bid_3b hlt w hk a1 a2 b1 b2 (e5.trans hf) (fun z => hs (e0.symm.trans z)) (by rw [e1]; exact Int32.not_le.mpr hp2))).up (by decide) (by decide) (by decide) (fun v h' hq => ?_)
      obtain ⟨rfl, rfl⟩ := hq
      exact ⟨_, Γ, rfl, w', hc.mono (Nat.le_succ T), fun _ _ _ _ => rfl, fun _ => rfl, fun z => absurd (Or.inr hp) z⟩
    · refine (ca_bid_0 hlt h5k (Rr := fun i h' => i = sp_cbid G k (nI pr) (nI u) 5 0 6 ∧ WI N n p ord L (sp_cbid G k (nI pr) (nI u)) o h') ((acc hf hp).mono fun v h' hq => ⟨_, hq.1, rfl, hq.2⟩)).up (by decide) (by decide) (by decide) (fun v h' hq => ?_)
      obtain ⟨i, rfl, rfl, w2⟩ := hq
      have hb := keep_bid hc hk (by omega) (a := nI pr) (c := nI u) (by rw [nI_toInt (by omega)]; omega) (by rw [nI_toInt (by omega)]; omega)
      have f2 := cbid_frP f k (nI pr) (nI u)
      refine ⟨_, sp_cbid Γ k (nI pr) (nI u), rfl, ⟨_, f2, w2⟩, hb, fun c i' j z => cbid_fr (by omega) (by omega), fun z => ?_, fun _ => ?_⟩
      · rcases z with z | z
        · exact absurd z nf
        · exact absurd z hp
      · rw [f2.e (c := 5) (i := 0) (j := 6) (by omega)]
        refine told_I hn8 hb hk ?_
        have : sp_cbid Γ k (nI pr) (nI u) 1 k 0 = 1 := by simp [sp_cbid, u3_ap]
        rw [this]
        decide
  · have f1 : Γ 5 0 5 = 1 := hc.1.2.2.1.resolve_left hf
    refine (ca_bid_ISE hlt h5k (c_X4_bid_3a hlt w hk a1 a2 b1 b2 (fun z => hf (e5.symm.trans z)))).up (by decide) (by decide) (by decide) (fun v h' hq => ?_)
    obtain ⟨rfl, rfl⟩ := hq
    exact ⟨_, Γ, rfl, w', hc.mono (Nat.le_succ T), fun _ _ _ _ => rfl, fun _ => rfl, fun z => absurd (Or.inl f1) z⟩
/-- a close: refused, a round more, or all begins to flow -/
def CLOF (T n p : Nat) (A B : Nat → Nat) (ord : List Nat) (Γ : Nat → Nat → Nat → Int32) (ord' : List Nat) (Γ' : Nat → Nat → Nat → Int32) (i : Int32) : Prop :=
  CI (T + 1) n p A B ord' Γ' ∧ (∀ c i' j, 11 ≤ c ∨ c = 4 ∨ (c = 2 ∧ ¬ (j = 6 ∨ j = 7 ∨ j = 8 ∨ j = 9)) ∨ (c = 5 ∧ (j = 3 ∨ j = 8)) → Γ' c i' j = Γ c i' j) ∧
  ((Γ 5 0 5 = 1 ∧ i = -70008 ∧ Γ' = Γ) ∨ (Γ 5 0 5 = 0 ∧ i = 0 ∧ (Γ 5 0 4).toInt < 4 ∧ Γ' 5 0 5 = 0 ∧ Γ' 5 0 4 = Γ 5 0 4 + 1 ∧ ∀ d, Γ' 2 d 9 = Γ 2 d 9) ∨ (Γ 5 0 5 = 0 ∧ i = 1 ∧ CLO n ord' Γ Γ'))
theorem CLO.cg {G W : Nat → Nat → Nat → Int32} (f : frP Γ G) (q : CLO n ord G W) : CLO n ord Γ W := by
  obtain ⟨q1, q2, q3, q4⟩ := q
  refine ⟨fun c i j z => (q1 c i j z).trans (f.e (by omega) (by omega)), q2, q3, fun d hd => ?_⟩
  rw [q4 d hd, f.e (c := 2) (i := d) (j := 9) (by omega)]
theorem ka_close (hlt : l.stackTraces = false) (w : VW N n p ord L Γ o h) (hc : CI T n p A B ord Γ) {a b c : Int32} : am_Con l yL_asks cdA 22 8 800 [.ref (L 5 0), .int 4, .int a, .int b, .int c] h (fun v h' => ∃ (i : Int32) (ord' : List Nat) (L' : Nat → Nat → Nat) (Γ' : Nat → Nat → Nat → Int32), v = some (.int i) ∧ LK o L L' ∧ VW N n p ord' L' Γ' o h' ∧ CLOF T n p A B ord Γ ord' Γ' i) (fun _ _ => False) := by
  have w' := w
  obtain ⟨G, f, w⟩ := w
  have e5 : G 5 0 5 = Γ 5 0 5 := f.e (by omega)
  have e4 : G 5 0 4 = Γ 5 0 4 := f.e (by omega)
  have h5k : am_K h (L 5 0) = 4 + 1 := w.k rfl
  have hg := hc.cg f
  by_cases hf : Γ 5 0 5 = 0
  · have gf : G 5 0 5 = 0 := e5.trans hf
    have over : ∀ (Q : Option Value → am_H → Prop), Q = (fun v h' => ∃ (ord' : List Nat) (L' : Nat → Nat → Nat) (x : Nat → Int) (G1 : Nat → Nat → Nat → Int32), v = some (.int 1) ∧ ORD (sp_cclose n G) n ord' ∧ LE7 L L' ∧ WI N n p ord' L' (cit 9 Fpay ord' ord'.length G1) o h' ∧ CST (cit 7 F7u ord' ord'.length (u3 (sp_cclose n G) 5 0 5 1)) G1 p A B ord' x) → am_Con l yX4_close (.code yX4_close cX4_close 3 (some .boolean)) 20 8 800 [.ref (L 5 0)] h Q (fun _ _ => False) → am_Con l yL_asks cdA 22 8 800 [.ref (L 5 0), .int 4, .int a, .int b, .int c] h (fun v h' => ∃ (i : Int32) (ord' : List Nat) (L' : Nat → Nat → Nat) (Γ' : Nat → Nat → Nat → Int32), v = some (.int i) ∧ LK o L L' ∧ VW N n p ord' L' Γ' o h' ∧ CLOF T n p A B ord Γ ord' Γ' i) (fun _ _ => False) := fun Q hQ hcon => by
      subst hQ
      refine (ca_close_0 hlt h5k (Rr := fun i h' => ∃ (ord' : List Nat) (L' : Nat → Nat → Nat) (x : Nat → Int) (G1 : Nat → Nat → Nat → Int32), i = 1 ∧ ORD (sp_cclose n G) n ord' ∧ LE7 L L' ∧ WI N n p ord' L' (cit 9 Fpay ord' ord'.length G1) o h' ∧ CST (cit 7 F7u ord' ord'.length (u3 (sp_cclose n G) 5 0 5 1)) G1 p A B ord' x) (hcon.mono fun v h' hq => ?_)).up (by decide) (by decide) (by decide) (fun v h' hq => ?_)
      · obtain ⟨ord', L', x, G1, rfl, q⟩ := hq
        exact ⟨1, rfl, Or.inr rfl, ord', L', x, G1, rfl, q⟩
      · obtain ⟨i, rfl, -, ord', L', x, G1, rfl, ho, hL, w2, hC⟩ := hq
        obtain ⟨k1, k2⟩ := keep_close_over hg gf ho hC
        have k3 := k2.cg f
        exact ⟨1, ord', L', _, rfl, hL.lk, w2.vw, k1.mono (Nat.le_succ T), fun c i' j z => k3.1 c i' j z, Or.inr (Or.inr ⟨hf, rfl, k3⟩)⟩
    by_cases ht : G 5 0 6 = 0
    · exact over _ rfl (c_X4_close_0a hlt w gf (close_dst hg) (close_sc hg) (close_cap hg) ht)
    · by_cases hr : G 5 0 4 < 4
      · refine (ca_close_0 hlt h5k (Rr := fun i h' => ∃ (ord' : List Nat) (L' : Nat → Nat → Nat), i = 0 ∧ ORD (sp_cclose n G) n ord' ∧ LE7 L L' ∧ WI N n p ord' L' (u3 (sp_cclose n G) 5 0 4 ((sp_cclose n G) 5 0 4 + 1)) o h') ((c_X4_close_0c hlt w gf (close_dst hg) ht hr).mono fun v h' hq => ?_)).up (by decide) (by decide) (by decide) (fun v h' hq => ?_)
        · obtain ⟨ord', L', rfl, q⟩ := hq
          exact ⟨0, rfl, Or.inl rfl, ord', L', rfl, q⟩
        · obtain ⟨i, rfl, -, ord', L', rfl, ho, hL, w2⟩ := hq
          have k1 := keep_close_0c hg gf hr ho
          have fr : ∀ c i' j, ¬ (c ≤ 2 ∧ i' < n) → ¬ (c = 5 ∧ (j = 6 ∨ j = 4)) → ¬ irr c j ∨ 11 ≤ c → (u3 (sp_cclose n G) 5 0 4 ((sp_cclose n G) 5 0 4 + 1)) c i' j = Γ c i' j := fun c i' j z1 z2 z3 => by
            rw [u3_n (by omega), cclose_fr z1 (by omega)]
            unfold irr at z3
            exact f.e (by omega) (by omega)
          have fr2 : ∀ d j, j ≠ 6 → (u3 (sp_cclose n G) 5 0 4 ((sp_cclose n G) 5 0 4 + 1)) 2 d j = Γ 2 d j := fun d j hj => by
            by_cases e : d < n
            · rw [u3_n (by omega), (cclose_SV e).2.2.2 j hj, f.e (by omega)]
            · exact fr 2 d j (by omega) (by omega) (by unfold irr; omega)
          refine ⟨0, ord', L', _, rfl, hL.lk, w2.vw, k1.mono (Nat.le_succ T), fun c i' j z => ?_, Or.inr (Or.inl ⟨hf, rfl, ?_, ?_, ?_, fun d => fr2 d 9 (by decide)⟩)⟩
          · by_cases e : c = 2
            · subst e
              exact fr2 i' j (by omega)
            · exact fr c i' j (by omega) (by omega) (by unfold irr; omega)
          · have := Int32.lt_iff_toInt_lt.mp hr
            rw [e4] at this
            exact this
          · rw [u3_n (by omega), cclose_fr (by omega) (by omega)]
            exact gf
          · rw [u3_s, cclose_fr (by omega) (by omega), e4]
      · exact over _ rfl (c_X4_close_0b hlt w gf (close_dst hg) (close_sc hg) (close_cap hg) ht hr)
  · have f1 : Γ 5 0 5 = 1 := hc.1.2.2.1.resolve_left hf
    refine (ca_close_ISE hlt h5k (c_X4_close_1 hlt w (fun z => hf (e5.symm.trans z)))).up (by decide) (by decide) (by decide) (fun v h' hq => ?_)
    obtain ⟨rfl, rfl⟩ := hq
    exact ⟨_, ord, L, Γ, rfl, LK.rf, w', hc.mono (Nat.le_succ T), fun _ _ _ _ => rfl, Or.inl ⟨f1, rfl, rfl⟩⟩
/-- a burst: refused, or each gets less -/
def BURF (T n p : Nat) (A B : Nat → Nat) (ord : List Nat) (k : Nat) (Γ Γ' : Nat → Nat → Nat → Int32) (i : Int32) : Prop :=
  CI (T + 1) n p A B ord Γ' ∧ ((¬ Γ 4 k 3 = 0 ∧ i = -70008 ∧ Γ' = Γ) ∨ (Γ 4 k 3 = 0 ∧ i = sp_sum (fun d => Γ 2 d 8 - Γ' 2 d 8) n ∧ BUR n k Γ Γ'))
theorem BUR.cg {G W : Nat → Nat → Nat → Int32} {k : Nat} (f : frP Γ G) (q : BUR n k G W) : BUR n k Γ W := by
  obtain ⟨q1, q2, q3⟩ := q
  refine ⟨fun c i j z => (q1 c i j z).trans (f.e (by omega) (by omega)), q2, fun d hd => ?_⟩
  have := q3 d hd
  rw [f.e (c := 2) (i := d) (j := 8) (by omega), f.e (c := 2) (i := d) (j := 10) (by omega)] at this
  exact this
theorem ka_burst (hlt : l.stackTraces = false) (w : VW N n p ord L Γ o h) (hc : CI T n p A B ord Γ) {k : Nat} (hk : k < p) {b c : Int32} : am_Con l yL_asks cdA 22 1 6 [.ref (L 5 0), .int 5, .int (nI k), .int b, .int c] h (fun v h' => ∃ (i : Int32) (Γ' : Nat → Nat → Nat → Int32), v = some (.int i) ∧ VW N n p ord L Γ' o h' ∧ BURF T n p A B ord k Γ Γ' i) (fun _ _ => False) := by
  have w' := w
  have hn8 := w.w0.1
  obtain ⟨G, f, w⟩ := w
  have e5 : G 5 0 5 = Γ 5 0 5 := f.e (by omega)
  have e43 : G 4 k 3 = Γ 4 k 3 := f.e (by omega)
  have e8 : ∀ d, G 2 d 8 = Γ 2 d 8 := fun d => f.e (by omega)
  have h5k : am_K h (L 5 0) = 4 + 1 := w.k rfl
  have hg := hc.cg f
  by_cases hb : Γ 4 k 3 = 0
  · by_cases hf : Γ 5 0 5 = 0
    · have gf : G 5 0 5 = 0 := e5.trans hf
      refine (ca_burst_0 hlt h5k (Rr := fun i h' => i = 0 ∧ WI N n p ord L (u3 G 4 k 3 1) o h') ((c_X4_burst_0a hlt w hk (e43.trans hb) gf).mono fun v h' hq => ⟨_, hq.1, rfl, hq.2⟩)).up (by decide) (by decide) (by decide) (fun v h' hq => ?_)
      obtain ⟨i, rfl, rfl, w2⟩ := hq
      refine ⟨_, _, rfl, w2.vw, (keep_pipeflag hg gf (Or.inr rfl)).mono (Nat.le_succ T), Or.inr ⟨hb, ?_, (bur_bid hg gf).cg f⟩⟩
      rw [sp_sum_congr n (f := fun d => Γ 2 d 8 - u3 G 4 k 3 1 2 d 8) (g := fun _ => 0) (fun d _ => by rw [u3_n (by omega), e8, Int32.sub_self])]
      exact (sp_sum_0 n).symm
    · have gf : ¬ G 5 0 5 = 0 := fun z => hf (e5.symm.trans z)
      have hs1 : SC (u3 G 4 k 3 1) n p A B := by
        obtain ⟨s1, s2, s3, s4⟩ := hg.sc
        refine ⟨fun j hj => ?_, fun d hd => by rw [u3_n (by omega)]; exact s2 d hd, by rw [u3_n (by omega)]; exact s3, by rw [u3_n (by omega)]; exact s4⟩
        obtain ⟨b1, b2, b3, b4, b5⟩ := s1 j hj
        rw [u3_n (by omega), u3_n (by omega)]
        refine ⟨b1, b2, b3, b4, ?_⟩
        unfold KC at *
        by_cases e : j = k
        · subst e
          rw [u3_s, if_neg (by decide)]
          omega
        · rw [u3_n (by omega), u3_n (by omega)]
          exact b5
      have hcap : ∀ i, i < ord.length → 0 ≤ (G 2 (od ord i) 8).toInt ∧ (G 2 (od ord i) 8).toInt ≤ 9999 := fun i hi => by
        have := (hg.2.1 _ (hg.st hi).1).2.2.2.2.1
        omega
      refine (ca_burst_0 hlt h5k (Rr := fun i h' => ∃ (x : Nat → Int) (G1 : Nat → Nat → Nat → Int32), i = sp_sum (fun k => G1 2 (od ord k) 7 - G1 2 (od ord k) 8) ord.length ∧ WI N n p ord L (cit 10 Fback ord ord.length G1) o h' ∧ CST (cit 7 F7g ord ord.length (u3 G 4 k 3 1)) G1 p A B ord x) ((c_X4_burst_0b hlt w hk (e43.trans hb) gf hs1 hg.2.2.2.2.1.inj hcap).mono fun v h' hq => ?_)).up (by decide) (by decide) (by decide) (fun v h' hq => ?_)
      · obtain ⟨x, G1, rfl, q⟩ := hq
        exact ⟨_, rfl, x, G1, rfl, q⟩
      · obtain ⟨i, rfl, x, G1, rfl, w2, hC⟩ := hq
        obtain ⟨k1, k2, k3⟩ := keep_burst hg gf hk hC
        refine ⟨_, _, rfl, w2.vw, k1.mono (Nat.le_succ T), Or.inr ⟨hb, ?_, k2.cg f⟩⟩
        rw [k3]
        exact sp_sum_congr n fun d _ => by rw [e8]
  · refine (ca_burst_ISE hlt h5k (c_X4_burst_2 hlt w hk (fun z => hb (e43.symm.trans z)))).up (by decide) (by decide) (by decide) (fun v h' hq => ?_)
    obtain ⟨rfl, rfl⟩ := hq
    exact ⟨_, Γ, rfl, w', hc.mono (Nat.le_succ T), Or.inl ⟨hb, rfl, rfl⟩⟩
/-- an end: refused, or a new hour -/
def ENDF (T n p : Nat) (A B : Nat → Nat) (ord : List Nat) (Γ : Nat → Nat → Nat → Int32) (ord' : List Nat) (Γ' : Nat → Nat → Nat → Int32) (i : Int32) : Prop :=
  CI (T + 1) n p A B ord' Γ' ∧ ((Γ 5 0 5 = 0 ∧ i = -70008 ∧ Γ' = Γ) ∨ (Γ 5 0 5 = 1 ∧ i = sp_sum (fun k => if Γ 2 k 2 - eT Γ k ≤ 0 then 0 else 1) n ∧ EN n Γ Γ'))
theorem eT_cg {G : Nat → Nat → Nat → Int32} (f : frP Γ G) (d : Nat) : eK G d = eK Γ d ∧ eW G d = eW Γ d ∧ eT G d = eT Γ d := by
  unfold eT eW eK
  rw [f.e (c := 2) (i := d) (j := 8) (by omega), f.e (c := 2) (i := d) (j := 1) (by omega), f.e (c := 2) (i := d) (j := 3) (by omega), f.e (c := 2) (i := d) (j := 2) (by omega)]
  exact ⟨rfl, rfl, rfl⟩
theorem EN.cg {G W : Nat → Nat → Nat → Int32} (f : frP Γ G) (q : EN n G W) : EN n Γ W := by
  obtain ⟨q1, q2, q3, q4, q5, q6⟩ := q
  refine ⟨fun c i j z => (q1 c i j z).trans (f.e (by omega) (by omega)), q2, q3, by rw [q4, f.e (by omega)], ?_, fun d hd => ?_⟩
  · rw [q5, f.e (by omega), sp_sum_congr n (f := fun k => G 2 k 8) (g := fun k => Γ 2 k 8) (fun j _ => f.e (by omega))]
  · obtain ⟨a1, a2, a3, a4, a5, a6, a7⟩ := q6 d hd
    obtain ⟨k1, k2, k3⟩ := eT_cg f d
    rw [k2, k3] at a2
    rw [k1, f.e (by omega), f.e (by omega)] at a3
    rw [k3, f.e (by omega)] at a4
    rw [k3, f.e (by omega), f.e (by omega)] at a5
    exact ⟨a1, a2, a3, a4, a5, fun j hj => (a6 j hj).trans (f.e (by omega)), fun j hj => (a7 j hj).trans (f.e (by omega))⟩
theorem ka_end (hlt : l.stackTraces = false) (w : VW N n p ord L Γ o h) (hc : CI T n p A B ord Γ) (hT : T < 1000) {a b c : Int32} : am_Con l yL_asks cdA 22 1 6 [.ref (L 5 0), .int 7, .int a, .int b, .int c] h (fun v h' => ∃ (i : Int32) (ord' : List Nat) (L' : Nat → Nat → Nat) (Γ' : Nat → Nat → Nat → Int32), v = some (.int i) ∧ LK o L L' ∧ VW N n p ord' L' Γ' o h' ∧ ENDF T n p A B ord Γ ord' Γ' i) (fun _ _ => False) := by
  have w' := w
  obtain ⟨G, f, w⟩ := w
  have e5 : G 5 0 5 = Γ 5 0 5 := f.e (by omega)
  have h5k : am_K h (L 5 0) = 4 + 1 := w.k rfl
  have hg := hc.cg f
  by_cases hf : Γ 5 0 5 = 0
  · refine (ca_end_ISE hlt h5k (c_X4_end_1 hlt w (fun z => absurd (e5.trans hf) z))).up (by decide) (by decide) (by decide) (fun v h' hq => ?_)
    obtain ⟨rfl, rfl⟩ := hq
    exact ⟨_, ord, L, Γ, rfl, LK.rf, w', hc.mono (Nat.le_succ T), Or.inl ⟨hf, rfl, rfl⟩⟩
  · have f1 : Γ 5 0 5 = 1 := hc.1.2.2.1.resolve_left hf
    have gf : ¬ G 5 0 5 = 0 := fun z => hf (e5.symm.trans z)
    have hh : G 5 0 3 < 1000 := Int32.lt_iff_toInt_lt.mpr (by
      have := hg.1.1
      have h1 : (1000 : Int32).toInt = 1000 := by decide
      omega)
    refine (ca_end_0 hlt h5k (Rr := fun i h' => i = sp_sum (fun k => sp_clk k (sp_cends k G)) n ∧ ∃ L' : Nat → Nat → Nat, LE7 L L' ∧ WI N n p [] L' (sp_cend0 n G) o h') ((c_X4_end_0 hlt w gf hh).mono fun v h' hq => ⟨_, hq.1, rfl, hq.2⟩)).up (by decide) (by decide) (by decide) (fun v h' hq => ?_)
    obtain ⟨i, rfl, rfl, L', hL, w2⟩ := hq
    obtain ⟨k1, k2⟩ := keep_end hg (by omega)
    refine ⟨_, [], L', _, rfl, hL.lk, w2.vw, k1, Or.inr ⟨f1, ?_, k2.cg f⟩⟩
    refine sp_sum_congr n fun d _ => ?_
    rw [clk_at, (eT_cg f d).2.2, f.e (c := 2) (i := d) (j := 2) (by omega)]
end KAS
