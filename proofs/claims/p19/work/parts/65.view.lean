/-! ===== calls that throw; the world as the law sees it ===== -/
section LW2
variable {k : am_X} {own nm : String} {cc : ByteArray} {nL : Nat} {ret : Option FieldType} {cells slots : Nat} {Q : State → Prop} {pc : Nat} {ls : List (Nat × Value)} {st : List Value} {h : am_H}
/-- a static call that may throw what is caught here -/
theorem g_callSC {index maxL n d mc1 ms1 : Nat} {y : MethodName} {bytes : ByteArray} {r : Option FieldType} {Q1 : Option Value → am_H → Prop} {X1 : String → am_H → Prop} (As : List Value) (hd : decode cc pc = .ok (.invokestatic index, 3)) (hm : am_mc own index y bytes maxL r n) (hi : Cond.static y ∈ am_WS)
    (hcon : am_Con (am_kl k) y (.code y bytes maxL r) d mc1 ms1 As h Q1 X1) (hn : As.length = n) (hW : (st.map fun v => v.category).sum ≤ 8) (hro : am_room (am_kR k) cells slots d mc1 maxL ms1)
    (kk : ∀ v h', Q1 v h' → am_Ext h h' 0 → am_G k own nm cc nL ret (cells + mc1) (slots + ms1) Q (pc + 3) ls (v.toList ++ st) h')
    (kx : ∀ E h' a, X1 E h' → ∃ hpc, am_Ct k own E pc hpc ∧ am_G k own nm cc nL ret (cells + mc1) (slots + ms1) Q hpc ls [.ref a] h') : am_G k own nm cc nL ret cells slots Q pc ls (As.reverse ++ st) h := by
  obtain ⟨p, l, e, R, s, m, args, below, meth, c, h0, D, ac, zc⟩ := k
  intro hC H locs la hR hE hS hl
  have hC' := id hC
  obtain ⟨hx', hbb, hml, -, -, hown, hts, hK, -, -, -, hT, -⟩ := hC'
  have hr := vx_runS (e := e) (below := below) (meth := meth) (R := R) (locs := locs) (cells := cells) (slots := slots) (g := F0 m pc la (As.reverse ++ st)) ⟨hx', hbb, hml, hown, hts⟩ (hcon D ac zc H.size) ⟨am_callB hts hm hro, hts _ hi⟩ ⟨am_blind, fun U hU hW' => ⟨rfl, am_pre hC hR hE hS hU hW'⟩⟩ rfl hn hl.1 rfl (by simpa [JFrame.monitorRoom, F0] using hW) hd ⟨hro.2.2.1, hro.2.2.2⟩
  intro T hTT X
  rcases hr T hTT X with ⟨v, st₀, t, T', L, h0', X', hL, e1, e2, ⟨v', h', ev, hq', hR', hE', hF⟩, stp⟩ | ⟨q', st₀, t, T', L, E, ce, h0', X', hL, e1, e2, ⟨h', hx1, hR', hE', hF⟩, hce, hcv, hcl, stp⟩
  · cases ev
    obtain ⟨-, -, k3⟩ := vx_keep h0' e1 hS (fun q _ hq => am_W.in hE hS q hq) (am_W.in hE hS) hL hF
    obtain ⟨t2, a1, b1⟩ := kk _ h' hq' (fun a => ⟨(hE' a).1, fun z y => ⟨Nat.zero_le _, ((hE' a).2 z y).2⟩⟩) hC T'.heap (locs ++ L) la (by rw [e1]; exact hR') (hE.tr hE' hS.1) k3 hl T' rfl X'
    exact ⟨t2, stp t2 a1, b1⟩
  · obtain ⟨-, -, k3⟩ := vx_keep h0' e1 hS (fun q _ hq => am_W.in hE hS q hq) (am_W.in hE hS) hL hF
    obtain ⟨hpc, ⟨pre, x, suf, c1, c2, c3, c4, c5, c6, c7⟩, kG⟩ := kx E h' q' hx1
    have hk := kG hC T'.heap (locs ++ L) la (by rw [e1]; exact hR') (hE.tr hE' hS.1) k3 hl
    have hca := vx_catch (rest := st) (H := T'.heap) (q := q') hown pre x suf c1 (fun z hz => by
      rcases c2 z hz with y1 | ⟨y1, nm', y2, y3⟩
      · exact Or.inl y1
      · exact Or.inr ⟨y1, nm', hts _ y2, y3 s hT⟩) c3 c4 (hts _ c6) (va_Nw.use (by
        have := (List.mem_filter.mp c7).2
        rw [Bool.and_eq_true] at this
        exact this.1) (hT.1 _ c7)) (by rw [e1]; exact hce) hcv hcl (by rw [c5]; exact hk)
    obtain ⟨t2, a1, b1⟩ := hca T' rfl X'
    exact ⟨t2, stp.trans a1, b1⟩
/-- a call; what it throws leaves this method too -/
theorem g_callVP {index ci maxL n d mc1 ms1 b : Nat} {q : vw_C} {y : MethodName} {bytes : ByteArray} {r : Option FieldType} {Q1 : Option Value → am_H → Prop} {X1 : String → am_H → Prop} (As : List Value) (hd : decode cc pc = .ok (.invokevirtual index, 3)) (hm : am_mc own index y bytes maxL r n) (hi : Cond.instanceMethod y ∈ am_WS) (hse : Cond.selects q.1 y y ∈ am_WS)
    (hcon : am_Con (am_kl k) y (.code y bytes maxL r) d mc1 ms1 (.ref b :: As) h Q1 X1) (hb : am_K h b = ci + 1) (hq : am_C[ci]? = some q) (hn : As.length = n) (hW : (st.map fun v => v.category).sum ≤ 8) (hro : am_room (am_kR k) cells slots d mc1 maxL ms1)
    (kk : ∀ v h', Q1 v h' → am_Ext h h' 0 → am_G k own nm cc nL ret (cells + mc1) (slots + ms1) Q (pc + 3) ls (v.toList ++ st) h')
    (hno : am_noX k) {mc ms : Nat} {Qr : Option Value → am_H → Prop} {X : String → am_H → Prop} (hQ : Q = am_Q k mc ms Qr X) (hc2 : cells + mc1 ≤ mc) (hs2 : slots + ms1 ≤ ms) (kx : ∀ E h', X1 E h' → X E h') : am_G k own nm cc nL ret cells slots Q pc ls (As.reverse ++ .ref b :: st) h := by
  subst hQ
  obtain ⟨p, l, e, R, s, m, args, below, meth, c, h0, D, ac, zc⟩ := k
  intro hC H locs la hR hE hS hl
  have hC' := id hC
  obtain ⟨hx', hbb, hml, -, hlo, hown, hts, hK, -, -, -, hT, -⟩ := hC'
  have hr := vx_runV (e := e) (below := below) (meth := meth) (R := R) (locs := locs) (cells := cells) (slots := slots) (g := F0 m pc la (As.reverse ++ .ref b :: st)) ⟨hx', hbb, hml, hown, hts⟩ (hcon D ac zc H.size) ⟨am_callB hts hm hro, hts _ hi, hts _ hse⟩ ⟨am_blind, am_recv hK hR hb hq, fun U hU hW' => ⟨rfl, am_pre hC hR hE hS hU hW'⟩⟩ rfl hn hl.1 rfl (by simpa [JFrame.monitorRoom, F0] using hW) hd ⟨hro.2.2.1, hro.2.2.2⟩
  intro T hTT Xs
  rcases hr T hTT Xs with ⟨v, st₀, t, T', L, h0', X', hL, e1, e2, ⟨v', h', ev, hq', hR', hE', hF⟩, stp⟩ | ⟨q', st₀, t, T', L, E, ce, h0', X', hL, e1, e2, ⟨h', hx1, hR', hE', hF⟩, hce, hcv, hcl, stp⟩
  · cases ev
    obtain ⟨-, -, k3⟩ := vx_keep h0' e1 hS (fun q _ hq => am_W.in hE hS q hq) (am_W.in hE hS) hL hF
    obtain ⟨t2, a1, b1⟩ := kk _ h' hq' (fun a => ⟨(hE' a).1, fun z y => ⟨Nat.zero_le _, ((hE' a).2 z y).2⟩⟩) hC T'.heap (locs ++ L) la (by rw [e1]; exact hR') (hE.tr hE' hS.1) k3 hl T' rfl X'
    exact ⟨t2, stp t2 a1, b1⟩
  · obtain ⟨-, -, k3⟩ := vx_keep h0' e1 hS (fun q _ hq => am_W.in hE hS q hq) (am_W.in hE hS) hL hF
    have hca := vx_out (p := p) (l := l) (e := e) (R := R) (m := m) (below := below) (Qc := am_Qc Qr h0 s.heap.size D ac zc) (XC := am_Qx X h0 s.heap.size D ac zc) (args := args) (free := am_W h0 s.heap.size) (rest := st) (ls := la) (pc := pc) (locs := locs ++ L) (H := T'.heap) (q := q') (fun x hx => (hno x hx).elim) hlo (by rw [e1]; exact hce) hcv hcl (fun t9 ht _ => ⟨h', kx E h' hx1, by rw [ht, e1]; exact hR', hE.tr hE' hS.1, by rw [ht]; exact k3.1, fun q hq hA => by rw [ht]; exact k3.2.1 q hq hA⟩) k3.2.2 hc2 hs2
    obtain ⟨t2, a1, b1⟩ := hca T' rfl X'
    exact ⟨t2, stp.trans a1, b1⟩
end LW2
theorem fa_and (a b : Nat) : nI a &&& nI b = nI (a &&& b) := by
  apply Int32.toBitVec_inj.mp
  apply BitVec.eq_of_getLsbD_eq
  intro i hi
  show (BitVec.ofNat 32 a &&& BitVec.ofNat 32 b).getLsbD i = (BitVec.ofNat 32 (a &&& b)).getLsbD i
  simp [BitVec.getLsbD_ofNat, hi]
theorem fa_or (a b : Nat) : nI a ||| nI b = nI (a ||| b) := by
  apply Int32.toBitVec_inj.mp
  apply BitVec.eq_of_getLsbD_eq
  intro i hi
  show (BitVec.ofNat 32 a ||| BitVec.ofNat 32 b).getLsbD i = (BitVec.ofNat 32 (a ||| b)).getLsbD i
  simp [BitVec.getLsbD_ofNat, hi]
theorem fa_mask (n k : Nat) : nI n &&& nI (2 ^ k - 1) = nI (n % 2 ^ k) := by rw [fa_and, Nat.and_two_pow_sub_one_eq_mod]
theorem wb_of32 (x : Int32) : ∃ n, n < 2 ^ 32 ∧ x = nI n := ⟨x.toBitVec.toNat, x.toBitVec.isLt, Int32.toBitVec_inj.mp (by show _ = BitVec.ofNat 32 _; simp)⟩
/-- what isn't below 0 -/
theorem nI_ofI {x : Int32} (h : 0 ≤ x.toInt) : ∃ n : Nat, n < 2 ^ 31 ∧ x = nI n := by
  have h2 := x.toInt_lt
  refine ⟨x.toInt.toNat, by omega, Int32.toInt_inj.mp ?_⟩
  rw [nI_toInt (by omega)]
  omega
/-! the world, up to what a question may change -/
def VW (N n p : Nat) (ord : List Nat) (L : Nat → Nat → Nat) (Γ : Nat → Nat → Nat → Int32) (o : Nat) (h : am_H) : Prop := ∃ G, frP Γ G ∧ WI N n p ord L G o h
theorem frP.rf {Γ : Nat → Nat → Nat → Int32} : frP Γ Γ := fun _ _ _ _ _ _ => rfl
theorem frP.tr {Γ G G' : Nat → Nat → Nat → Int32} (a : frP Γ G) (b : frP G G') : frP Γ G' := fun c i j z1 z2 z3 => (b c i j z1 z2 z3).trans (a c i j z1 z2 z3)
theorem frP.u3 {Γ G : Nat → Nat → Nat → Int32} (a : frP Γ G) (c i j : Nat) (v : Int32) : frP (u3 Γ c i j v) (u3 G c i j v) := fun c' i' j' z1 z2 z3 => by
  rw [u3_ap, u3_ap, a c' i' j' z1 z2 z3]
theorem frP.e {Γ G : Nat → Nat → Nat → Int32} (a : frP Γ G) {c i j : Nat} (z : c < 9 ∨ 10 < c) (z2 : ¬ (c = 3 ∧ j = 2) := by omega) : G c i j = Γ c i j := a c i j (by omega) (by omega) z2
section VWS
variable {N n p : Nat} {ord : List Nat} {L : Nat → Nat → Nat} {Γ : Nat → Nat → Nat → Int32} {o : Nat} {h : am_H}
theorem WI.vw (w : WI N n p ord L Γ o h) : VW N n p ord L Γ o h := ⟨Γ, frP.rf, w⟩
theorem VW.w0 (w : VW N n p ord L Γ o h) : n ≤ 8 ∧ p ≤ 24 ∧ N ≤ 2048 ∧ (∀ e ∈ ord, e < n) ∧ ord.length ≤ 8 := by
  obtain ⟨G, -, w⟩ := w
  exact w.1
theorem VW.k (w : VW N n p ord L Γ o h) {c i : Nat} (hi : wdm n p o c i = true) : am_K h (L c i) = wk c := by
  obtain ⟨G, -, w⟩ := w
  exact w.k hi
variable {k : am_X} {own nm : String} {cc : ByteArray} {nL : Nat} {ret : Option FieldType} {cells slots : Nat} {Q : State → Prop} {pc : Nat} {ls : List (Nat × Value)} {st : List Value}
theorem v_ald {i j : Nat} (w : VW N n p ord L Γ o h) (hd : decode cc pc = .ok (.iaload, 1)) (hi : wdm n p o 13 i = true) (hj : j < wln 13 i) (kk : am_G k own nm cc nL ret cells slots Q (pc + 1) ls (.int (Γ 13 i j) :: st) h) : am_G k own nm cc nL ret cells slots Q pc ls (.int (nI j) :: .ref (L 13 i) :: st) h := by
  obtain ⟨G, f, w⟩ := w
  refine w_ald w hd (by omega) hi hj ?_
  rw [f.e (by omega)]
  exact kk
theorem v_ast {i j : Nat} {v : Int32} (w : VW N n p ord L Γ o h) (hd : decode cc pc = .ok (.iastore, 1)) (hi : wdm n p o 13 i = true) (hj : j < wln 13 i) (kk : ∀ h', VW N n p ord L (u3 Γ 13 i j v) o h' → am_G k own nm cc nL ret cells slots Q (pc + 1) ls st h') : am_G k own nm cc nL ret cells slots Q pc ls (.int v :: .int (nI j) :: .ref (L 13 i) :: st) h := by
  obtain ⟨G, f, w⟩ := w
  exact w_ast w hd (by omega) hi hj fun h' w' => kk h' ⟨_, f.u3 13 i j v, w'⟩
theorem v_alenS (w : VW N n p ord L Γ o h) (hd : decode cc pc = .ok (.arraylength, 1)) (kk : am_G k own nm cc nL ret cells slots Q (pc + 1) ls (.int (nI N) :: st) h) : am_G k own nm cc nL ret cells slots Q pc ls (.ref (L 15 0) :: st) h := by
  obtain ⟨G, f, w⟩ := w
  exact w_alenS w hd kk
theorem v_sald {j : Nat} (w : VW N n p ord L Γ o h) (hd : decode cc pc = .ok (.iaload, 1)) (hj : j < N) (kk : am_G k own nm cc nL ret cells slots Q (pc + 1) ls (.int (Γ 15 0 j) :: st) h) : am_G k own nm cc nL ret cells slots Q pc ls (.int (nI j) :: .ref (L 15 0) :: st) h := by
  obtain ⟨G, f, w⟩ := w
  refine w_sald w hd hj ?_
  rw [f.e (by omega)]
  exact kk
end VWS
/-- more room does no harm -/
theorem am_hasRoom {s : State} {pl : Platform} {r r' : Room} (hf : r.frames ≤ r'.frames) (hl : r.locals ≤ r'.locals) (hc : r.cells ≤ r'.cells) (hs : r.slots ≤ r'.slots) (h : s.hasRoom pl r' = true) : s.hasRoom pl r = true := by
  unfold State.hasRoom at *
  rw [Bool.and_eq_true, Bool.and_eq_true, Bool.and_eq_true, Bool.and_eq_true, decide_eq_true_eq, decide_eq_true_eq, decide_eq_true_eq, decide_eq_true_eq] at *
  exact ⟨⟨⟨⟨by omega, by omega, by omega, by omega, by omega, h.1.1.1.2.2.2.2.2⟩, by omega⟩, by omega⟩, h.2⟩
theorem am_Con.up {l : Launch} {y : MethodName} {code : Cond} {d mc ms : Nat} {av : List Value} {h : am_H} {Q : Option Value → am_H → Prop} {X : String → am_H → Prop} (hc : am_Con l y code d mc ms av h Q X) {d' mc' ms' : Nat} {Q' : Option Value → am_H → Prop} (h1 : d ≤ d') (h2 : mc ≤ mc') (h3 : ms ≤ ms') (hq : ∀ v h', Q v h' → Q' v h') : am_Con l y code d' mc' ms' av h Q' X := by
  intro D ac zc sz p e ha hcc hk s m args below hf a1 a2 a3
  obtain ⟨b1, b2, b3, b4, b5, b6, b7, b8⟩ := (Spec.appliesLoose_iff hf).mp a1
  have b9 := am_hasRoom (r := { frames := d, cells := mc, slots := ms, locals := 40 * d }) (r' := { frames := d', cells := mc', slots := ms', locals := 40 * d' }) h1 (Nat.mul_le_mul_left 40 h1) h2 h3 b7
  obtain ⟨k, o, c1, c2, c3, c4⟩ := hc D ac zc sz p e ha hcc hk s m args below hf ((Spec.appliesLoose_iff hf).mpr ⟨b1, b2, b3, b4, b5, b6, b9, b8⟩) a2 a3
  refine ⟨k, o, c1, c2, c3, ?_⟩
  rcases c4 with ⟨⟨v, h', e1, e2, e3⟩, L, ⟨f1, f2, f3⟩, f4⟩ | ⟨q, e1, E, ce, L, x1, x2, x3, x4, x5, x6, x7⟩
  · exact Or.inl ⟨⟨v, h', e1, hq v h' e2, e3⟩, L, ⟨f1, f2, f3.mono h2 h3⟩, f4⟩
  · exact Or.inr ⟨q, e1, E, ce, L, x1, x2, x3, x4, x5, x6.mono h2 h3, x7⟩
