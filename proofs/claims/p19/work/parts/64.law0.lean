/-! ===== the law's own methods: what is thrown is caught ===== -/
theorem am_Con.mono {l : Launch} {y : MethodName} {code : Cond} {d mc ms : Nat} {av : List Value} {h : am_H} {Q Q' : Option Value → am_H → Prop} {X : String → am_H → Prop} (hc : am_Con l y code d mc ms av h Q X) (f : ∀ v h', Q v h' → Q' v h') : am_Con l y code d mc ms av h Q' X := by
  intro D ac zc sz p e ha hc' hk s m args below hf a1 a2 a3
  obtain ⟨k, o, h1, h2, h3, h4⟩ := hc D ac zc sz p e ha hc' hk s m args below hf a1 a2 a3
  refine ⟨k, o, h1, h2, h3, ?_⟩
  rcases h4 with ⟨⟨v, h', b1, b2, b3⟩, b4⟩ | h4
  · exact Or.inl ⟨⟨v, h', b1, f v h' b2, b3⟩, b4⟩
  · exact Or.inr h4
def am_tab (k : am_X) : List ExceptionTableEntry := (k.2.2.2.2.2.2.2.2.2.1).exceptionTable.toList
theorem am_bodyH {l : Launch} {y : MethodName} {cc : ByteArray} {n : Nat} {ret : Option FieldType} {hh : List (Nat × Nat × Nat × Nat)} {d mc ms : Nat} {av : List Value} {h : am_H} {Q : Option Value → am_H → Prop} {X : String → am_H → Prop} (hlt : l.stackTraces = false) (hy : plainName y.cls = true) (hn : (lg_sl av).length ≤ n)
    (body : ∀ k : am_X, am_kl k = l → am_kR k = { frames := d, cells := mc, slots := ms, locals := 40 * d } → am_k0 k = h → am_tab k = tableOf hh → am_G k y.cls y.name cc n ret 0 0 (am_Q k mc ms Q X) 0 (lv_args 0 av) [] h) : am_Con l y (.codeWith y cc n ret hh) d mc ms av h Q X := by
  intro D ac zc sz
  refine vx_ofWH (cc := cc) (maxL := n) (ret := ret) (hh := hh) hy rfl ?_
  intro p e s m args below meth c s₁ B hml hv
  obtain ⟨rfl, hsz, hR, hK, hZ, hT, h16, h17, hu⟩ := hv
  subst hsz
  have hl := lv_entry av hn
  rw [lg_entry_eq]
  have hts := atoms_spec (ws := Cond.codeWith y cc n ret hh :: am_WS) B.pre
  exact body (p, l, e, _, s, m, _, below, meth, c, h, D, ac, zc) rfl rfl rfl (vx_table (x := y) B (hts _ List.mem_cons_self)) ⟨B.exec, B.bytes, hml, B.returns, B.notSynchronized, findClass_of_methodNamed B.named, fun w hw => hts w (List.mem_cons_of_mem _ hw), hK, hlt, hZ, (name_of_methodNamed B.named B.method).1, hT, h16, h17, hu⟩ s.heap [] _ hR am_Ext.rf va_S.rf hl
/-- E, thrown at pc, is taken by the row whose handler is hpc -/
def am_Ct (k : am_X) (own E : String) (pc hpc : Nat) : Prop := ∃ pre x suf, am_tab k = pre ++ x :: suf ∧ (∀ z ∈ pre, covers z pc = false ∨ (z.catchType ≠ 0 ∧ ∃ nm : String, Cond.classLink own z.catchType nm ∈ am_WS ∧ ∀ U, am_T U → va_Nc E nm U)) ∧ covers x pc = true ∧ x.catchType ≠ 0 ∧ x.handlerPc = hpc ∧ Cond.classLink own x.catchType E ∈ am_WS ∧ Cond.castable E E ∈ am_WF
section LW0
variable {k : am_X} {own nm : String} {cc : ByteArray} {nL : Nat} {ret : Option FieldType} {cells slots : Nat} {Q : State → Prop} {pc : Nat} {ls : List (Nat × Value)} {st : List Value} {h : am_H}
/-- a call that may throw what is caught here -/
theorem g_callVX {index ci maxL n d mc1 ms1 b : Nat} {q : vw_C} {y : MethodName} {bytes : ByteArray} {r : Option FieldType} {Q1 : Option Value → am_H → Prop} {X1 : String → am_H → Prop} (As : List Value) (hd : decode cc pc = .ok (.invokevirtual index, 3)) (hm : am_mc own index y bytes maxL r n) (hi : Cond.instanceMethod y ∈ am_WS) (hse : Cond.selects q.1 y y ∈ am_WS)
    (hcon : am_Con (am_kl k) y (.code y bytes maxL r) d mc1 ms1 (.ref b :: As) h Q1 X1) (hb : am_K h b = ci + 1) (hq : am_C[ci]? = some q) (hn : As.length = n) (hW : (st.map fun v => v.category).sum ≤ 8) (hro : am_room (am_kR k) cells slots d mc1 maxL ms1)
    (kk : ∀ v h', Q1 v h' → am_Ext h h' 0 → am_G k own nm cc nL ret (cells + mc1) (slots + ms1) Q (pc + 3) ls (v.toList ++ st) h')
    (kx : ∀ E h' a, X1 E h' → ∃ hpc, am_Ct k own E pc hpc ∧ am_G k own nm cc nL ret (cells + mc1) (slots + ms1) Q hpc ls [.ref a] h') : am_G k own nm cc nL ret cells slots Q pc ls (As.reverse ++ .ref b :: st) h := by
  obtain ⟨p, l, e, R, s, m, args, below, meth, c, h0, D, ac, zc⟩ := k
  intro hC H locs la hR hE hS hl
  have hC' := id hC
  obtain ⟨hx', hbb, hml, -, -, hown, hts, hK, -, -, -, hT, -⟩ := hC'
  have hr := vx_runV (e := e) (below := below) (meth := meth) (R := R) (locs := locs) (cells := cells) (slots := slots) (g := F0 m pc la (As.reverse ++ .ref b :: st)) ⟨hx', hbb, hml, hown, hts⟩ (hcon D ac zc H.size) ⟨am_callB hts hm hro, hts _ hi, hts _ hse⟩ ⟨am_blind, am_recv hK hR hb hq, fun U hU hW' => ⟨rfl, am_pre hC hR hE hS hU hW'⟩⟩ rfl hn hl.1 rfl (by simpa [JFrame.monitorRoom, F0] using hW) hd ⟨hro.2.2.1, hro.2.2.2⟩
  intro T hTT X
  rcases hr T hTT X with ⟨v, st₀, t, T', L, h0', X', hL, e1, e2, ⟨v', h', ev, hq', hR', hE', hF⟩, stp⟩ | ⟨q', st₀, t, T', L, E, ce, h0', X', hL, e1, e2, ⟨h', hx1, hR', hE', hF⟩, hce, hcv, hcl, stp⟩
  · cases ev
    obtain ⟨-, -, k3⟩ := vx_keep h0' e1 hS (fun q _ hq => am_W.in hE hS q hq) (am_W.in hE hS) hL hF
    obtain ⟨t2, a1, b1⟩ := kk _ h' hq' (fun a => ⟨(hE' a).1, fun z y => ⟨Nat.zero_le _, ((hE' a).2 z y).2⟩⟩) hC T'.heap (locs ++ L) la (by rw [e1]; exact hR') (hE.tr hE' hS.1) k3 hl T' rfl X'
    exact ⟨t2, stp t2 a1, b1⟩
  · obtain ⟨-, -, k3⟩ := vx_keep h0' e1 hS (fun q _ hq => am_W.in hE hS q hq) (am_W.in hE hS) hL hF
    obtain ⟨hpc, ⟨pre, x, suf, c1, c2, c3, c4, c5, c6, c7⟩, kG⟩ := kx E h' q' hx1
    have hk := kG hC T'.heap (locs ++ L) la (by rw [e1]; exact hR') (hE.tr hE' hS.1) k3 hl
    have hca := vx_catch (rest := st) (H := T'.heap) (q := q') hown pre x suf c1 (fun z hz => by
      rcases c2 z hz with y1 | ⟨y1, nm', y2, y3⟩
      · exact Or.inl y1
      · exact Or.inr ⟨y1, nm', hts _ y2, y3 s hT⟩) c3 c4 (hts _ c6) (va_Nw.use (by
        have := (List.mem_filter.mp c7).2
        rw [Bool.and_eq_true] at this
        exact this.1) (hT.1 _ c7)) (by rw [e1]; exact hce) hcv hcl (by rw [c5]; exact hk)
    obtain ⟨t2, a1, b1⟩ := hca T' rfl X'
    exact ⟨t2, stp.trans a1, b1⟩
/-- what a call's words say, of a method with a table -/
def am_mcW (own : String) (index : Nat) (y : MethodName) (bytes : ByteArray) (maxL : Nat) (r : Option FieldType) (hh : List (Nat × Nat × Nat × Nat)) (n : Nat) : Prop :=
  Cond.methodLink own index y ∈ am_WS ∧ Cond.codeWith y bytes maxL r hh ∈ am_WS ∧ Cond.initialized y.cls ∈ am_WS ∧ Cond.static y ∈ am_WS ∧ (y.cls ≠ "java/lang/invoke/MethodHandle" ∧ y.cls ≠ "java/lang/invoke/VarHandle") ∧ (parseMethodDescriptor y.desc).map (fun d => d.parameters.length) = some n
theorem g_callSX {index maxL n d mc1 ms1 : Nat} {y : MethodName} {bytes : ByteArray} {r : Option FieldType} {hh : List (Nat × Nat × Nat × Nat)} {Q1 : Option Value → am_H → Prop} {X1 : String → am_H → Prop} (As : List Value) (hd : decode cc pc = .ok (.invokestatic index, 3)) (hm : am_mcW own index y bytes maxL r hh n)
    (hcon : am_Con (am_kl k) y (.codeWith y bytes maxL r hh) d mc1 ms1 As h Q1 X1) (hn : As.length = n) (hW : (st.map fun v => v.category).sum ≤ 8) (hro : am_room (am_kR k) cells slots d mc1 maxL ms1) (hx : ∀ E h', ¬ X1 E h')
    (kk : ∀ v h', Q1 v h' → am_Ext h h' 0 → am_G k own nm cc nL ret (cells + mc1) (slots + ms1) Q (pc + 3) ls (v.toList ++ st) h') : am_G k own nm cc nL ret cells slots Q pc ls (As.reverse ++ st) h := by
  obtain ⟨p, l, e, R, s, m, args, below, meth, c, h0, D, ac, zc⟩ := k
  intro hC H locs la hR hE hS hl
  have hC' := id hC
  obtain ⟨hx', hbb, hml, -, -, hown, hts, hK, -⟩ := hC'
  obtain ⟨m1, m2, m3, m4, m5, m6⟩ := hm
  have hG : GoodIn am_WS (va_wsS own index y (Cond.codeWith y bytes maxL r hh :: am_WS)) := by
    intro w hw
    have hw' : w ∈ am_WS := by
      rcases List.mem_append.mp hw with z | z
      · rcases List.mem_cons.mp z with rfl | z
        · exact m1
        · rcases List.mem_cons.mp z with rfl | z
          · exact m4
          · rcases List.mem_cons.mp z with rfl | z
            · exact m3
            · cases z
      · rcases List.mem_cons.mp z with rfl | z
        · exact m2
        · exact z
    exact ⟨hw', good_of_word (List.mem_filter.mp hw').2⟩
  exact am_back hC hE hS hl (vx_runSX ⟨hx', hbb, hml, hown, hts⟩ (hcon D ac zc H.size) (vx_cwSW n hts hG rfl rfl rfl ⟨m5.1, m5.2, m6⟩ ⟨hro.1, hro.2.1⟩) ⟨am_blind, fun U hU hW' => ⟨rfl, am_pre hC hR hE hS hU hW'⟩⟩ rfl hn hl.1 rfl (by simpa [JFrame.monitorRoom, F0] using hW) hd ⟨hro.2.2.1, hro.2.2.2⟩) hx (fun v h' hv hE' => kk v h' hv (fun a => ⟨(hE' a).1, fun z y => ⟨Nat.zero_le _, ((hE' a).2 z y).2⟩⟩))
/-! the script and the answer's place -/
theorem g_alenS {a : Nat} {v : Int32} (hd : decode cc pc = .ok (.arraylength, 1)) (ha : am_K h a = 17) (hv : nI (am_N h a) = v) (kk : am_G k own nm cc nL ret cells slots Q (pc + 1) ls (.int v :: st) h) : am_G k own nm cc nL ret cells slots Q pc ls (.ref a :: st) h := by
  obtain ⟨p, l, e, R, s, m, args, below, meth, c, h0, D, ac, zc⟩ := k
  intro hC H locs la hR hE hS hl
  subst hv
  have h17 := (hR a).2.2.2.2.2.2.2.2 ha
  obtain ⟨hx, hb, -, -, -, -, -, -, -, -, -, -, -, harr, -⟩ := id hC
  exact W.alen (n := nI (am_N h a)) hx hb h17.1 harr (by rw [h17.2.1]; rfl) rfl rfl hd (kk hC H locs la hR hE hS hl)
theorem g_ialdS {a : Nat} {i : Int32} (hd : decode cc pc = .ok (.iaload, 1)) (ha : am_K h a = 17) (hin : vp_in i (am_N h a)) (kk : am_G k own nm cc nL ret cells slots Q (pc + 1) ls (.int (am_A h a i.toNatClampNeg) :: st) h) : am_G k own nm cc nL ret cells slots Q pc ls (.int i :: .ref a :: st) h := by
  obtain ⟨p, l, e, R, s, m, args, below, meth, c, h0, D, ac, zc⟩ := k
  intro hC H locs la hR hE hS hl
  have h17 := (hR a).2.2.2.2.2.2.2.2 ha
  obtain ⟨hx, hb, -, -, -, -, -, -, -, -, -, -, -, harr, -, hun⟩ := id hC
  have hlt : i.toNatClampNeg < am_N h a := Nat.not_le.mp fun q => hin (Or.inr q)
  exact W.iald hx hb h17.1 harr hun (by rw [h17.2.1]; exact hin) (h17.2.2 _ hlt) rfl rfl hd (kk hC H locs la hR hE hS hl)
variable {N n p : Nat} {ord : List Nat} {L : Nat → Nat → Nat} {Γ : Nat → Nat → Nat → Int32} {o : Nat}
theorem w_alenS (w : WI N n p ord L Γ o h) (hd : decode cc pc = .ok (.arraylength, 1)) (kk : am_G k own nm cc nL ret cells slots Q (pc + 1) ls (.int (nI N) :: st) h) : am_G k own nm cc nL ret cells slots Q pc ls (.ref (L 15 0) :: st) h :=
  g_alenS hd (w.k rfl) (by rw [w.2.2.2.2.2.2.2.2.2.1]) kk
theorem w_sald {j : Nat} (w : WI N n p ord L Γ o h) (hd : decode cc pc = .ok (.iaload, 1)) (hj : j < N) (kk : am_G k own nm cc nL ret cells slots Q (pc + 1) ls (.int (Γ 15 0 j) :: st) h) : am_G k own nm cc nL ret cells slots Q pc ls (.int (nI j) :: .ref (L 15 0) :: st) h := by
  have h9 := w.2.2.2.2.2.2.2.2.2
  have hN := w.1.2.2.1
  refine g_ialdS hd (w.k rfl) (by rw [h9.1]; exact vp_in_nI hj (by omega)) ?_
  rw [nI_clamp (by omega), h9.2 j hj]
  exact kk
end LW0
