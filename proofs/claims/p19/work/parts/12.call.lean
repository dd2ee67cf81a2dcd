/-! ===== contracts over the abstract heap, and their calls ===== -/
def am_kR (k : am_X) : Room := k.2.2.2.1
def am_kl (k : am_X) : Launch := k.2.1
def am_k0 (k : am_X) : am_H := k.2.2.2.2.2.2.2.2.2.2.1
/-- no handler stands in the method -/
def am_noX (k : am_X) : Prop := ∀ x ∈ (k.2.2.2.2.2.2.2.2.2.1).exceptionTable.toList, False
def am_Qc (Q : Option Value → am_H → Prop) (h : am_H) (sz : Nat) (D : va_G) (ac : Nat → ClassId) (zc : Cell × Cell) : Array Value → State → Outcome → State → Prop := fun _ st o t =>
  ∃ (v : Option Value) (h' : am_H), o = .returned v ∧ Q v h' ∧ am_Rep D ac zc h' t.heap ∧ am_Ext h h' sz ∧ va_F (am_W h sz) st t
def am_Qx (X : String → am_H → Prop) (h : am_H) (sz : Nat) (D : va_G) (ac : Nat → ClassId) (zc : Cell × Cell) : String → State → State → Prop := fun E st t =>
  ∃ h' : am_H, X E h' ∧ am_Rep D ac zc h' t.heap ∧ am_Ext h h' sz ∧ va_F (am_W h sz) st t
/-- how a state stands to an abstract heap -/
def am_Bg (D : va_G) (ac : Nat → ClassId) (zc : Cell × Cell) (h : am_H) (sz : Nat) (U : State) : Prop :=
  U.heap.size = sz ∧ am_Rep D ac zc h U.heap ∧ va_K D am_C (am_tys ac) U ∧ am_Z h (am_W h sz) U U.heap ∧ am_T U ∧ U.isArrayOf zc.1 (.object "java/lang/Object") ∧ U.isArrayOf zc.2 .int ∧ zc.1.vm ≠ .unknown ∧ zc.2.vm ≠ .unknown
/-- THE CONTRACT of y, called with av over h: it returns v over h' with Q v h', or throws E over h' with X E h'; d levels of frames, mc cells of ms slots -/
def am_Con (l : Launch) (y : MethodName) (code : Cond) (d mc ms : Nat) (av : List Value) (h : am_H) (Q : Option Value → am_H → Prop) (X : String → am_H → Prop) : Prop :=
  ∀ (D : va_G) (ac : Nat → ClassId) (zc : Cell × Cell) (sz : Nat), vx_Met l y (code :: am_WS) { frames := d, cells := mc, slots := ms, locals := 40 * d } (va_Pc av (am_Bg D ac zc h sz)) (am_Qc Q h sz D ac zc) (am_Qx X h sz D ac zc) mc ms (am_W h sz)
def am_Q (k : am_X) (mc ms : Nat) (Q : Option Value → am_H → Prop) (X : String → am_H → Prop) : State → Prop :=
  match k with
  | (_, _, _, _, s, _, args, below, _, _, h0, D, ac, zc) => vx_MQ below (am_Qc Q h0 s.heap.size D ac zc) (am_Qx X h0 s.heap.size D ac zc) args s mc ms (am_W h0 s.heap.size)
theorem am_T.same {u U : State} (hv : U.vm = u.vm) (h : am_T u) : am_T U := by
  obtain ⟨h1, h2, h3, h4, h5, h6, ⟨mi, h7⟩, h8, n1, n2, n3⟩ := h
  refine ⟨fun w hw => va_Nw.same ?_ hv.symm (h1 w hw), va_Nw.same rfl hv.symm h2, va_Nw.same rfl hv.symm h3, fun q hq => ?_, h5.moved (by rw [hv]; exact Vm.Alike.refl u.vm), ?_, ⟨mi, h7.moved (by rw [hv]; exact Vm.Alike.refl u.vm)⟩, h8.moved (by rw [hv]; exact Vm.Alike.refl u.vm), n1.moved (by rw [hv]; exact Vm.Alike.refl u.vm), n2.moved (by rw [hv]; exact Vm.Alike.refl u.vm), n3.moved (by rw [hv]; exact Vm.Alike.refl u.vm)⟩
  · have := (List.mem_filter.mp hw).2
    rw [Bool.and_eq_true] at this
    exact this.1
  · obtain ⟨sa, hsa⟩ := h4 q hq
    exact ⟨sa, hsa.same hv⟩
  · show (Cond.arrayOver (.array .int)).before #[] U = true
    have h6' : (Cond.arrayOver (.array .int)).before #[] u = true := h6
    simp only [Cond.before, Cond.holds, Cond.value, hv] at h6' ⊢
    exact h6'
theorem va_AOA.moved {ty : FieldType} {u U : State} (hvm : u.vm.Alike U.vm) (h : va_AOA ty u) : va_AOA ty U := by
  unfold va_AOA Cond.before Cond.holds at h ⊢
  simp only [Cond.value, beq_iff_eq] at h ⊢
  cases hc : u.vm.findClass (FieldType.array ty).toString with
  | none => simp [hc] at h
  | some comp =>
    simp only [hc, Option.bind_some, Option.bind_eq_some_iff, Option.map_eq_some_iff] at h
    obtain ⟨c, hi, k, hk, hb⟩ := h
    obtain ⟨k', hk', he⟩ := hvm.2.2 _ _ hk
    have hi2 := (va_idx_bare u.vm comp).trans hi
    have hbr : U.vm.bare = u.vm.bare := by first | exact hvm.bare_eq | exact hvm.bare_eq.symm
    rw [← hbr] at hi2
    have hi' := (va_idx_bare U.vm comp).symm.trans hi2
    have hkind : k'.kind = k.kind := by rw [he]
    have f1 : U.vm.findClass (FieldType.array ty).toString = some comp := by rw [hvm.findClass]; exact hc
    rw [f1, Option.bind_some]
    simp only [Option.bind_eq_some_iff, Option.map_eq_some_iff]
    refine ⟨c, hi', k', hk', ?_⟩
    rw [hkind, hvm.findClass]
    exact hb
theorem am_T.warm {s U : State} (hW : s.WarmedH U.vm) (h : am_T s) : am_T U := by
  obtain ⟨h1, h2, h3, h4, h5, h6, ⟨mi, h7⟩, h8, n1, n2, n3⟩ := h
  refine ⟨fun w hw => ?_, h2.warmM hW, h3.warmM hW, fun q hq => ?_, h5.moved hW.alike, h6.moved hW.alike, ⟨mi, h7.moved hW.alike⟩, h8.moved hW.alike, n1.moved hW.alike, n2.moved hW.alike, n3.moved hW.alike⟩
  · have hg := (List.mem_filter.mp hw).2
    rw [Bool.and_eq_true] at hg
    have hk : w.before #[] (s.setVm U.vm) = true := Cond.before_shiftedFace (State.Shifted.of_warmed hW) w hg.2 (h1 w hw)
    exact va_tabs hg.1 (rfl : (s.setVm U.vm).vm = U.vm) hk
  · obtain ⟨sa, hsa⟩ := h4 q hq
    exact ⟨sa, hsa.warm hW⟩
theorem am_Z.moved {h0 : am_H} {A : Nat → Prop} {u U : State} {H : Heap} (hvm : u.vm.Alike U.vm) (h : am_Z h0 A u H) : am_Z h0 A U H := by
  obtain ⟨a, b, z, c, u, d⟩ := h
  exact ⟨vx_Zq.moved hvm a, vx_Zq.moved hvm b, z, c, u, va_Z.moved hvm d⟩
theorem am_Z.kept {h0 : am_H} {A : Nat → Prop} {U : State} {H H1 : Heap} (h : am_Z h0 A U H) (hq : ∀ a : Nat, a < H.size → ¬ A a → H1[a]? = H[a]?) : am_Z h0 A U H1 := by
  obtain ⟨a, b, z, c, u, d⟩ := h
  exact ⟨vx_Zq.kept a hq, vx_Zq.kept b hq, z, c, u, va_Z.kept d hq⟩
theorem am_Z.narrow {h0 : am_H} {A B : Nat → Prop} {U : State} {H : Heap} (h : am_Z h0 A U H) (hAB : ∀ q, B q → A q) : am_Z h0 B U H := by
  obtain ⟨a, b, z, c, u, d⟩ := h
  exact ⟨vx_Zq.narrow a hAB, vx_Zq.narrow b hAB, z, c, u, va_Z.narrow d hAB⟩
theorem am_Z.ext {h0 h1 : am_H} {A : Nat → Prop} {U : State} {H : Heap} {sz : Nat} (h : am_Z h0 A U H) (e : am_Ext h0 h1 sz) : am_Z h1 A U H := by
  obtain ⟨a, b, z, c, u, d⟩ := h
  refine ⟨a, b, z, by rw [((e z).1 (by rw [c]; decide)).1]; exact c, fun y hy => ?_, d⟩
  by_cases x : am_K h0 y = 0
  · exact absurd hy ((e y).2 x (by rw [hy]; decide)).2
  · exact u y (by rw [← ((e y).1 x).1]; exact hy)
/-- what a callee may write, its caller may -/
theorem am_W.in {h0 h : am_H} {s : State} {H : Heap} {locs : List Loc} (hE : am_Ext h0 h s.heap.size) (hS : va_S (am_W h0 s.heap.size) s.heap H locs) : ∀ q, am_W h H.size q → am_W h0 s.heap.size q := by
  intro q hq
  rcases hq with h1 | h1
  · exact hE.in h1
  · exact Or.inr (Nat.le_trans hS.1 h1)
theorem am_blind {D : va_G} {ac : Nat → ClassId} {zc : Cell × Cell} {h : am_H} {sz : Nat} {av : List Value} : FrameBlind (va_Pc av (am_Bg D ac zc h sz)) := by
  intro a U g mk hp
  obtain ⟨h1, h2, h3, h4, h5, h6, h7, h8⟩ := hp
  exact ⟨h1, h2, h3, va_K.moved (u := U) (U := U.calling g mk a) (Vm.Alike.refl U.vm) h4, am_Z.moved (u := U) (U := U.calling g mk a) (Vm.Alike.refl U.vm) h5, am_T.same (u := U) (U := U.calling g mk a) rfl h6, State.isArrayOf_alike (Vm.Alike.refl U.vm) h7, State.isArrayOf_alike (Vm.Alike.refl U.vm) h8.1, h8.2⟩
/-- a caller's state, seen by the callee -/
theorem am_pre {p : Program} {l : Launch} {s : State} {m : MethodId} {args : Array Value} {meth : Method} {c : Code} {own nm : String} {cc : ByteArray} {nL : Nat} {ret : Option FieldType} {h0 h : am_H} {D : va_G} {ac : Nat → ClassId} {zc : Cell × Cell} {H : Heap} {locs : List Loc}
    (hC : am_Cx p l s m args meth c own nm cc nL ret h0 D ac zc) (hR : am_Rep D ac zc h H) (hE : am_Ext h0 h s.heap.size) (hS : va_S (am_W h0 s.heap.size) s.heap H locs) {U : State} (hU : U.heap = H) (hW : s.WarmedH U.vm) : am_Bg D ac zc h H.size U := by
  obtain ⟨-, -, -, -, -, -, -, hK, -, hZ, -, hT, h16, h17, hu⟩ := hC
  refine ⟨by rw [hU], by rw [hU]; exact hR, va_K.moved hW.alike hK, ?_, hT.warm hW, State.isArrayOf_alike hW.alike h16, State.isArrayOf_alike hW.alike h17, hu⟩
  rw [hU]
  exact am_Z.moved hW.alike (((hZ.kept hS.2.1).narrow (am_W.in hE hS)).ext hE)
section AMB
variable {l : Launch} {y : MethodName} {cc : ByteArray} {n : Nat} {ret : Option FieldType} {d mc ms : Nat} {av : List Value} {h : am_H} {Q : Option Value → am_H → Prop} {X : String → am_H → Prop}
/-- a contract out of the walk of the body -/
theorem am_body (hlt : l.stackTraces = false) (hy : plainName y.cls = true) (hn : (lg_sl av).length ≤ n)
    (body : ∀ k : am_X, am_kl k = l → am_kR k = { frames := d, cells := mc, slots := ms, locals := 40 * d } → am_k0 k = h → am_noX k → am_G k y.cls y.name cc n ret 0 0 (am_Q k mc ms Q X) 0 (lv_args 0 av) [] h) : am_Con l y (.code y cc n ret) d mc ms av h Q X := by
  intro D ac zc sz
  refine vx_ofW (cc := cc) (maxL := n) (ret := ret) hy rfl ?_
  intro p e s m args below meth c s₁ B hml hno hv
  obtain ⟨rfl, hsz, hR, hK, hZ, hT, h16, h17, hu⟩ := hv
  subst hsz
  have hl := lv_entry av hn
  rw [lg_entry_eq]
  have hts := atoms_spec (ws := Cond.code y cc n ret :: am_WS) B.pre
  exact body (p, l, e, _, s, m, _, below, meth, c, h, D, ac, zc) rfl rfl rfl hno ⟨B.exec, B.bytes, hml, B.returns, B.notSynchronized, findClass_of_methodNamed B.named, fun w hw => hts w (List.mem_cons_of_mem _ hw), hK, hlt, hZ, (name_of_methodNamed B.named B.method).1, hT, h16, h17, hu⟩ s.heap [] _ hR am_Ext.rf va_S.rf hl
end AMB
section AMC
variable {k : am_X} {own nm : String} {cc : ByteArray} {nL : Nat} {ret : Option FieldType} {cells slots : Nat} {Q : State → Prop} {pc : Nat} {ls : List (Nat × Value)} {st : List Value} {h : am_H} {mc ms : Nat} {Qr : Option Value → am_H → Prop} {X : String → am_H → Prop}
theorem g_iret {v : Int32} {ty : FieldType} (hd : decode cc pc = .ok (.ireturn, 1)) (hr : ret = some ty) (hn : narrow ty (.int v) = .int v) (hc : cells ≤ mc) (hs : slots ≤ ms) (hq : Qr (some (.int v)) h) : am_G k own nm cc nL ret cells slots (am_Q k mc ms Qr X) pc ls [.int v] h := by
  obtain ⟨p, l, e, R, s, m, args, below, meth, c, h0, D, ac, zc⟩ := k
  intro hC H locs la hR hE hS hl
  refine W.widen hc hs (vx_ret (W.zret (ty := ty) hC.1 hC.2.1 (hC.2.2.2.1.trans hr) hn (fun t ht hW => ⟨_, h, rfl, hq, by rw [ht]; exact hR, hE, hS.F ht⟩) hS.2.2 hd hC.2.2.2.2.1))
theorem g_vret (hd : decode cc pc = .ok (.return_, 1)) (hr : ret = none) (hc : cells ≤ mc) (hs : slots ≤ ms) (hq : Qr none h) : am_G k own nm cc nL ret cells slots (am_Q k mc ms Qr X) pc ls [] h := by
  obtain ⟨p, l, e, R, s, m, args, below, meth, c, h0, D, ac, zc⟩ := k
  intro hC H locs la hR hE hS hl
  refine W.widen hc hs (vx_ret (W.vret hC.1 hC.2.1 (hC.2.2.2.1.trans hr) (fun t ht hW => ⟨_, h, rfl, hq, by rw [ht]; exact hR, hE, hS.F ht⟩) hS.2.2 hd hC.2.2.2.2.1))
theorem g_aret {r : Option Nat} {ty : FieldType} (hd : decode cc pc = .ok (.areturn, 1)) (hr : ret = some ty) (hrt : (∃ n, ty = .object n) ∨ ∃ t, ty = .array t) (hc : cells ≤ mc) (hs : slots ≤ ms) (hq : Qr (some (va_rf r)) h) : am_G k own nm cc nL ret cells slots (am_Q k mc ms Qr X) pc ls [va_rf r] h := by
  obtain ⟨p, l, e, R, s, m, args, below, meth, c, h0, D, ac, zc⟩ := k
  intro hC H locs la hR hE hS hl
  refine W.widen hc hs (vx_ret (W.aret hC.1 hC.2.1 (hC.2.2.2.1.trans hr) hrt (by cases r with | none => exact Or.inl rfl | some a => exact Or.inr ⟨a, rfl⟩) (fun t ht hW => ⟨_, h, rfl, hq, by rw [ht]; exact hR, hE, hS.F ht⟩) hS.2.2 hd hC.2.2.2.2.1))
/-- what a call's words say: of a method y at 'index' of own, its code -/
def am_mc (own : String) (index : Nat) (y : MethodName) (bytes : ByteArray) (maxL : Nat) (r : Option FieldType) (n : Nat) : Prop :=
  Cond.methodLink own index y ∈ am_WS ∧ Cond.code y bytes maxL r ∈ am_WS ∧ Cond.initialized y.cls ∈ am_WS ∧ (y.cls ≠ "java/lang/invoke/MethodHandle" ∧ y.cls ≠ "java/lang/invoke/VarHandle") ∧ (parseMethodDescriptor y.desc).map (fun d => d.parameters.length) = some n
abbrev am_room (R : Room) (cells slots d mc maxL ms : Nat) : Prop := d + 1 ≤ R.frames ∧ 8 + (maxL + 11) + 40 * d ≤ R.locals ∧ cells + mc ≤ R.cells ∧ slots + ms ≤ R.slots
theorem am_rm {k : am_X} {R : Room} {c s d mc ml ms : Nat} (hR : am_kR k = R) (h : am_room R c s d mc ml ms) : am_room (am_kR k) c s d mc ml ms := by rw [hR]; exact h
theorem am_good {y : MethodName} {bytes : ByteArray} {maxL : Nat} {r : Option FieldType} (h : Cond.code y bytes maxL r ∈ am_WS) : GoodIn am_WS (Cond.code y bytes maxL r :: am_WS) := by
  intro w hw
  have hw' : w ∈ am_WS := by
    rcases List.mem_cons.mp hw with rfl | h1
    · exact h
    · exact h1
  exact ⟨hw', good_of_word (List.mem_filter.mp hw').2⟩
theorem am_callB {s : State} {args : Array Value} {R : Room} {own : String} {index : Nat} {y : MethodName} {bytes : ByteArray} {maxL : Nat} {r : Option FieldType} {n d mc1 ms1 c1 s1 : Nat} (hts : ∀ w ∈ am_WS, w.before args s = true) (hm : am_mc own index y bytes maxL r n) (hro : am_room R c1 s1 d mc1 maxL ms1) :
    CallB R s args own index y bytes maxL r (Cond.code y bytes maxL r :: am_WS) { frames := d, cells := mc1, slots := ms1, locals := 40 * d } mc1 ms1 n := by
  obtain ⟨h1, h2, h3, h4, h5⟩ := hm
  exact callB_of n hts (am_good h2) rfl rfl rfl (hts _ h3) (hts _ h1) ⟨h4.1, h4.2, h5⟩ ⟨hro.1, hro.2.1⟩
/-- behind a call -/
theorem am_back {p : Program} {l : Launch} {e : Env} {R : Room} {s : State} {m : MethodId} {args : Array Value} {below : List Frame} {meth : Method} {c : Code} {h0 : am_H} {D : va_G} {ac : Nat → ClassId} {zc : Cell × Cell} {H : Heap} {locs : List Loc} {la : Array Slot} {mc1 ms1 : Nat} {Q1 : Option Value → am_H → Prop} {X1 : String → am_H → Prop} {a : Array Value} {stk : List Value}
    (hC : am_Cx p l s m args meth c own nm cc nL ret h0 D ac zc) (hE : am_Ext h0 h s.heap.size) (hS : va_S (am_W h0 s.heap.size) s.heap H locs) (hl : lv_has la nL ls)
    (hr : vx_Run p l e R s m args below meth c H locs cells slots mc1 ms1 (F0 m pc la stk) st (am_Qc Q1 h H.size D ac zc a) (am_Qx X1 h H.size D ac zc) (am_W h H.size))
    (hx : ∀ E h', ¬ X1 E h')
    (kk : ∀ v h', Q1 v h' → am_Ext h h' H.size → am_G (p, l, e, R, s, m, args, below, meth, c, h0, D, ac, zc) own nm cc nL ret (cells + mc1) (slots + ms1) Q (pc + 3) ls (v.toList ++ st) h') : W p l e R s m args below meth c H locs cells slots Q (F0 m pc la stk) := by
  intro T hT X
  rcases hr T hT X with ⟨v, st₀, t, T', L, h0', X', hL, e1, e2, ⟨v', h', ev, hq, hR', hE', hF⟩, stp⟩ | ⟨q, st₀, t, T', L, E, ce, h0', X', hL, e1, e2, ⟨h', hx', -⟩, -⟩
  · cases ev
    obtain ⟨-, -, k3⟩ := vx_keep h0' e1 hS (fun q _ hq => am_W.in hE hS q hq) (am_W.in hE hS) hL hF
    obtain ⟨t2, a1, b1⟩ := kk _ h' hq hE' hC T'.heap (locs ++ L) la (by rw [e1]; exact hR') (hE.tr hE' hS.1) k3 hl T' rfl X'
    exact ⟨t2, stp t2 a1, b1⟩
  · exact absurd hx' (hx E h')
theorem am_recv {D : va_G} {ac : Nat → ClassId} {zc : Cell × Cell} {H : Heap} {s : State} {b ci : Nat} {q : vw_C} (hK : va_K D am_C (am_tys ac) s) (hR : am_Rep D ac zc h H) (hb : am_K h b = ci + 1) (hq : am_C[ci]? = some q) : ∃ cell : Cell, H[b]? = some cell ∧ cell.vm.isStatics = false ∧ s.vm.findClass q.1 = some cell.cls := by
  obtain ⟨cell, g1, g2, g3, -⟩ := (hR b).2.1 ci q hb hq
  exact ⟨cell, g1, by rw [g3]; rfl, by rw [g2]; exact (hK.1 ci q hq).2.1⟩
/-- invokevirtual (also of a private method of the class's own) -/
theorem g_callV {index ci maxL n d mc1 ms1 b : Nat} {q : vw_C} {y : MethodName} {bytes : ByteArray} {r : Option FieldType} {Q1 : Option Value → am_H → Prop} {X1 : String → am_H → Prop} (As : List Value) (hd : decode cc pc = .ok (.invokevirtual index, 3)) (hm : am_mc own index y bytes maxL r n) (hi : Cond.instanceMethod y ∈ am_WS) (hse : Cond.selects q.1 y y ∈ am_WS)
    (hcon : am_Con (am_kl k) y (.code y bytes maxL r) d mc1 ms1 (.ref b :: As) h Q1 X1) (hb : am_K h b = ci + 1) (hq : am_C[ci]? = some q) (hn : As.length = n) (hW : (st.map fun v => v.category).sum ≤ 8) (hro : am_room (am_kR k) cells slots d mc1 maxL ms1) (hx : ∀ E h', ¬ X1 E h')
    (kk : ∀ v h', Q1 v h' → am_Ext h h' 0 → am_G k own nm cc nL ret (cells + mc1) (slots + ms1) Q (pc + 3) ls (v.toList ++ st) h') : am_G k own nm cc nL ret cells slots Q pc ls (As.reverse ++ .ref b :: st) h := by
  obtain ⟨p, l, e, R, s, m, args, below, meth, c, h0, D, ac, zc⟩ := k
  intro hC H locs la hR hE hS hl
  have hC' := id hC
  obtain ⟨hx', hbb, hml, -, -, hown, hts, hK, -⟩ := hC'
  exact am_back hC hE hS hl (vx_runV ⟨hx', hbb, hml, hown, hts⟩ (hcon D ac zc H.size) ⟨am_callB hts hm hro, hts _ hi, hts _ hse⟩ ⟨am_blind, am_recv hK hR hb hq, fun U hU hW' => ⟨rfl, am_pre hC hR hE hS hU hW'⟩⟩ rfl hn hl.1 rfl (by simpa [JFrame.monitorRoom, F0] using hW) hd ⟨hro.2.2.1, hro.2.2.2⟩) hx (fun v h' hv hE' => kk v h' hv (fun a => ⟨(hE' a).1, fun z y => ⟨Nat.zero_le _, ((hE' a).2 z y).2⟩⟩))
theorem g_callS {index maxL n d mc1 ms1 : Nat} {y : MethodName} {bytes : ByteArray} {r : Option FieldType} {Q1 : Option Value → am_H → Prop} {X1 : String → am_H → Prop} (As : List Value) (hd : decode cc pc = .ok (.invokestatic index, 3)) (hm : am_mc own index y bytes maxL r n) (hi : Cond.static y ∈ am_WS)
    (hcon : am_Con (am_kl k) y (.code y bytes maxL r) d mc1 ms1 As h Q1 X1) (hn : As.length = n) (hW : (st.map fun v => v.category).sum ≤ 8) (hro : am_room (am_kR k) cells slots d mc1 maxL ms1) (hx : ∀ E h', ¬ X1 E h')
    (kk : ∀ v h', Q1 v h' → am_Ext h h' 0 → am_G k own nm cc nL ret (cells + mc1) (slots + ms1) Q (pc + 3) ls (v.toList ++ st) h') : am_G k own nm cc nL ret cells slots Q pc ls (As.reverse ++ st) h := by
  obtain ⟨p, l, e, R, s, m, args, below, meth, c, h0, D, ac, zc⟩ := k
  intro hC H locs la hR hE hS hl
  have hC' := id hC
  obtain ⟨hx', hbb, hml, -, -, hown, hts, hK, -⟩ := hC'
  exact am_back hC hE hS hl (vx_runS ⟨hx', hbb, hml, hown, hts⟩ (hcon D ac zc H.size) ⟨am_callB hts hm hro, hts _ hi⟩ ⟨am_blind, fun U hU hW' => ⟨rfl, am_pre hC hR hE hS hU hW'⟩⟩ rfl hn hl.1 rfl (by simpa [JFrame.monitorRoom, F0] using hW) hd ⟨hro.2.2.1, hro.2.2.2⟩) hx (fun v h' hv hE' => kk v h' hv (fun a => ⟨(hE' a).1, fun z y => ⟨Nat.zero_le _, ((hE' a).2 z y).2⟩⟩))
theorem g_callI {index maxL n d mc1 ms1 b : Nat} {y : MethodName} {bytes : ByteArray} {Q1 : Option Value → am_H → Prop} {X1 : String → am_H → Prop} (As : List Value) (hd : decode cc pc = .ok (.invokespecial index, 3)) (hm : am_mc own index y bytes maxL none n) (hi : Cond.instanceMethod y ∈ am_WS) (hy : y.name = "<init>")
    (hcon : am_Con (am_kl k) y (.code y bytes maxL none) d mc1 ms1 (.ref b :: As) h Q1 X1) (hn : As.length = n) (hW : (st.map fun v => v.category).sum ≤ 8) (hro : am_room (am_kR k) cells slots d mc1 maxL ms1) (hx : ∀ E h', ¬ X1 E h')
    (kk : ∀ v h', Q1 v h' → am_Ext h h' 0 → am_G k own nm cc nL ret (cells + mc1) (slots + ms1) Q (pc + 3) ls (v.toList ++ st) h') : am_G k own nm cc nL ret cells slots Q pc ls (As.reverse ++ .ref b :: st) h := by
  obtain ⟨p, l, e, R, s, m, args, below, meth, c, h0, D, ac, zc⟩ := k
  intro hC H locs la hR hE hS hl
  have hC' := id hC
  obtain ⟨hx', hbb, hml, -, -, hown, hts, hK, -⟩ := hC'
  exact am_back hC hE hS hl (vx_runI ⟨hx', hbb, hml, hown, hts⟩ (hcon D ac zc H.size) ⟨am_callB hts hm hro, hy, hts _ hi⟩ ⟨am_blind, fun U hU hW' => ⟨rfl, am_pre hC hR hE hS hU hW'⟩⟩ rfl hn hl.1 rfl (by simpa [JFrame.monitorRoom, F0] using hW) hd ⟨hro.2.2.1, hro.2.2.2⟩) hx (fun v h' hv hE' => kk v h' hv (fun a => ⟨(hE' a).1, fun z y => ⟨Nat.zero_le _, ((hE' a).2 z y).2⟩⟩))
end AMC
