/-! THE CLAIM OUT OF ONE WALK OF THE LAW'S BODY. Your part is whole_start (and what it stands on); all else here is the same for every law, but numbers. -/
def R_law : String := "PipewrightExchangeLaw"
def lw_P (b : Addr) (xs : List Int32) (args : Array Value) (s : State) : Prop := args = #[.ref b] ∧ s.IntsAt b xs ∧ xs.length ≤ 260 ∧ (Jvm.Cond.and given_1 narrow_1).before args s = true
def lw_Q (_ : Array Value) (s : State) (o : Outcome) (t : State) : Prop := o = .returned (some (.int 1)) ∧ Framed s o t [] 655974 7133547
def lw_Z (below : List Frame) (a : Array Value) (s : State) : State → Prop := fun t => ∃ o, t.status = .running ∧ Ended t below o ∧ lw_Q a s o t
/-- the law's own end, with 1 on the stack, nothing written that was there before, its room as the claim has it -/
theorem lw_ret {p : Program} {l : Launch} {e : Env} {s : State} {m : MethodId} {below : List Frame} {meth : Method} {c : Code} {b : Nat} (hx : p.tables.exec = Jvm.exec) (hb : c.code = code) (hr : meth.sig.returnType = ret) (hlocks : meth.locks = false) {pc : Nat} {H : Heap} {ls : Array Slot} (hdg : decode code pc = .ok (.ireturn, 1)) : W p l e room_1 s m #[Value.ref b] below meth c H [] 655974 7133547 (lw_Z below #[Value.ref b] s) (F0 m pc ls [.int 1]) := by
  intro T hT X
  obtain ⟨fs, hret, hrun, hended, hW, hframe⟩ := X.leave (v := some (.int 1)) (hlocks := hlocks) (fun h => by rw [hr] at h; cases h)
  have hmeth' : T.vm.method? m = some meth := X.method'
  refine ⟨T.setFrames fs, ?_, .returned (some (.int 1)), hrun, hended, rfl, ⟨_, rfl⟩, hW, hframe⟩
  jvm_step X.here [X.here.top, hx, hb, hdg, hmeth', hr, ret, narrow_b1]
  (try refine ⟨rfl, ?_⟩); (try refine ⟨rfl, ?_⟩)
  first | (intro acts; rw [hret _ acts rfl rfl rfl]) | rw [hret _ _ rfl rfl rfl]
  exact Steps.refl _
/-- what holds at the law's entry: the machine, the code, the tables' words (any of lw_tbl by 'hts w (by decide +kernel)'), the script of L ints xs at the cell b, what the Statement gives of the start (any of its parts by flat_of_before) -/
def lw_At (p : Program) (s : State) (m : MethodId) (meth : Method) (c : Code) (b L : Nat) (xs : Nat → Int32) : Prop :=
  p.tables.exec = Jvm.exec ∧ c.code = code ∧ meth.sig.returnType = ret ∧ c.maxLocals = 1 ∧ s.vm.findClass R_law = some m.cls ∧ (∀ w ∈ lw_tbl, w.before #[Value.ref b] s = true) ∧ va_X b L xs s s.heap ∧ b < s.heap.size ∧ meth.locks = false ∧ (Jvm.Cond.and given_1 narrow_1).before #[Value.ref b] s = true

section START
variable {s : State} {b : Addr}
theorem st_words (hall : ∀ w ∈ lw_tbl, w.before #[Value.ref b] s = true) : ∀ w ∈ am_WS, w.before #[Value.ref b] s = true := fun w hw => hall w (List.mem_filter.mp hw).1
theorem st_K (hall : ∀ w ∈ lw_tbl, w.before #[Value.ref b] s = true) : ∃ (D : va_G) (ac : Nat → ClassId), va_K D am_C (am_tys ac) s := by
  have hts := st_words hall
  obtain ⟨c0, i0, h0⟩ := u_known hts cl_X0.2.1 (hts _ cl_X0.2.2.2.2.1)
  obtain ⟨c1, i1, h1⟩ := u_known hts cl_X1.2.1 (hts _ cl_X1.2.2.2.2.1)
  obtain ⟨c2, i2, h2⟩ := u_known hts cl_X2.2.1 (hts _ cl_X2.2.2.2.2.1)
  obtain ⟨c3, i3, h3⟩ := u_known hts cl_X3.2.1 (hts _ cl_X3.2.2.2.2.1)
  obtain ⟨c4, i4, h4⟩ := u_known hts cl_X4.2.1 (hts _ cl_X4.2.2.2.2.1)
  obtain ⟨c5, i5, h5⟩ := u_known hts cl_AL.2.1 (hts _ cl_AL.2.2.2.2.1)
  obtain ⟨c6, i6, h6⟩ := u_known hts cl_AL.2.1 (hts _ cl_AL.2.2.2.2.1)
  obtain ⟨a0, k0, m0, f0, g0, e0⟩ := Cond.arrayClass_spec (hts _ aw_int)
  obtain ⟨a1, k1, m1, f1, g1, e1⟩ := Cond.arrayClass_spec (hts _ aw_int)
  obtain ⟨m2, a2, k2, n2, o2, g2, e2, f2⟩ := Cond.arrayOver_spec (n := "java/lang/Object") (hall _ (List.mem_of_getElem? (i := 389) (by decide +kernel)))
  obtain ⟨m3, a3, k3, n3, o3, g3, e3, f3⟩ := arrayOverA_spec (t := .int) (hall _ (List.mem_of_getElem? (i := 93) (by decide +kernel)))
  obtain ⟨a4, k4, m4, f4, g4, e4⟩ := Cond.arrayClass_spec (hts _ aw_int)
  refine ⟨(fun k => match k with | 0 => c0 | 1 => c1 | 2 => c2 | 3 => c3 | 4 => c4 | 5 => c5 | _ => c6, fun k => match k with | 0 => i0 | 1 => i1 | 2 => i2 | 3 => i3 | 4 => i4 | 5 => i5 | _ => i6), fun k => match k with | 0 => a0 | 1 => a1 | 2 => a2 | 3 => a3 | _ => a4, ?_, ?_⟩
  · intro k q hq
    rcases k with _ | _ | _ | _ | _ | _ | _ | k
    · cases hq; exact h0
    · cases hq; exact h1
    · cases hq; exact h2
    · cases hq; exact h3
    · cases hq; exact h4
    · cases hq; exact h5
    · cases hq; exact h6
    · simp [am_C] at hq
  · intro k q hq
    rcases k with _ | _ | _ | _ | _ | k
    · cases hq; exact ⟨fun N z => ⟨(fun k h => by cases h), k0, g0, m0, e0⟩, f0⟩
    · cases hq; exact ⟨fun N z => ⟨(fun k h => by cases h), k1, g1, m1, e1⟩, f1⟩
    · cases hq; exact ⟨fun N z => ⟨(fun k h => by cases h), k2, g2, m2, e2⟩, k2, m2, g2, e2, n2, f2⟩
    · cases hq; exact ⟨fun N z => ⟨(fun k h => by cases h), k3, g3, m3, e3⟩, f3⟩
    · cases hq; exact ⟨fun N z => ⟨(fun k h => by cases h), k4, g4, m4, e4⟩, f4⟩
    · simp [am_tys] at hq

theorem st_strs : ∀ q ∈ am_strs, Cond.stringRef RX4 q.1 q.2 ∈ lw_tbl := List.forall_mem_cons.mpr ⟨List.mem_of_getElem? (i := 201) (by decide +kernel), List.forall_mem_cons.mpr ⟨List.mem_of_getElem? (i := 237) (by decide +kernel), List.forall_mem_cons.mpr ⟨List.mem_of_getElem? (i := 248) (by decide +kernel), List.forall_mem_cons.mpr ⟨List.mem_of_getElem? (i := 253) (by decide +kernel), List.forall_mem_cons.mpr ⟨List.mem_of_getElem? (i := 416) (by decide +kernel), List.forall_mem_cons.mpr ⟨List.mem_of_getElem? (i := 423) (by decide +kernel), List.forall_mem_cons.mpr ⟨List.mem_of_getElem? (i := 424) (by decide +kernel), List.forall_mem_cons.mpr ⟨List.mem_of_getElem? (i := 471) (by decide +kernel), List.forall_mem_cons.mpr ⟨List.mem_of_getElem? (i := 482) (by decide +kernel), List.forall_mem_cons.mpr ⟨List.mem_of_getElem? (i := 483) (by decide +kernel), List.forall_mem_cons.mpr ⟨List.mem_of_getElem? (i := 492) (by decide +kernel), List.forall_mem_cons.mpr ⟨List.mem_of_getElem? (i := 803) (by decide +kernel), List.forall_mem_cons.mpr ⟨List.mem_of_getElem? (i := 804) (by decide +kernel), List.forall_mem_cons.mpr ⟨List.mem_of_getElem? (i := 820) (by decide +kernel), List.forall_mem_cons.mpr ⟨List.mem_of_getElem? (i := 825) (by decide +kernel), List.forall_mem_cons.mpr ⟨List.mem_of_getElem? (i := 860) (by decide +kernel), List.forall_mem_cons.mpr ⟨List.mem_of_getElem? (i := 874) (by decide +kernel), fun _ h => absurd h List.not_mem_nil⟩⟩⟩⟩⟩⟩⟩⟩⟩⟩⟩⟩⟩⟩⟩⟩⟩
theorem st_T (hall : ∀ w ∈ lw_tbl, w.before #[Value.ref b] s = true) (hgv : (Jvm.Cond.and given_1 narrow_1).before #[Value.ref b] s = true) : am_T s := by
  have hs := flat_of_before _ hgv
  have hts := st_words hall
  obtain ⟨c4, i4, h4⟩ := u_known hts cl_X4.2.1 (hts _ cl_X4.2.2.2.2.1)
  refine ⟨fun w hw => ?_, va_any rfl (hall _ (List.mem_of_getElem? (i := 86) (by decide +kernel))), va_any rfl (hall _ (List.mem_of_getElem? (i := 262) (by decide +kernel))), fun q hq => ?_, va_AO.of (hall _ (List.mem_of_getElem? (i := 389) (by decide +kernel))), va_AOA.of (hall _ (List.mem_of_getElem? (i := 93) (by decide +kernel))), va_Mi.of (hs (Cond.isRef (.mirror "[Ljava/lang/Object;")) (by decide +kernel)), va_Dc.of (hall _ (List.mem_of_getElem? (i := 933) (by decide +kernel))), va_Nc.of (hs (Cond.not (.castable "java/lang/IllegalStateException" "java/lang/IllegalArgumentException")) (by decide +kernel)), va_Nc.of (hs (Cond.not (.castable "java/lang/IllegalArgumentException" "java/lang/IndexOutOfBoundsException")) (by decide +kernel)), va_Nc.of (hs (Cond.not (.castable "java/lang/IllegalStateException" "java/lang/IndexOutOfBoundsException")) (by decide +kernel))⟩
  · obtain ⟨h1, h2⟩ := List.mem_filter.mp hw
    rw [Bool.and_eq_true] at h2
    exact va_any h2.1 (hall w h1)
  · have h := hall _ (st_strs q hq)
    obtain ⟨k, cf, i, a, -, -, -, -, -, he⟩ := Cond.stringRef_spec h4.2.1 h
    exact ⟨a, vk_R.of h he⟩
/-- the picture at the start -/
def st_h (z b N : Nat) (xs : Nat → Int32) : am_H := (fun a => if a = z then 16 else if a = b then 17 else 0, fun a => if a = z then 0 else if a = b then N else 0, fun _ _ => 0, fun _ _ => none, fun a j => if a = b then xs j else 0, fun _ _ => none, fun _ _ => 0)
theorem st_hK {z b N a : Nat} {xs : Nat → Int32} : am_K (st_h z b N xs) a = if a = z then 16 else if a = b then 17 else 0 := rfl
theorem st_W {z b N a sz : Nat} {xs : Nat → Int32} (h : am_W (st_h z b N xs) sz a) : sz ≤ a := by
  rcases h with ⟨h1, h2⟩ | h
  · rw [st_hK] at h1 h2
    split at h2
    · exact absurd h2 (by decide)
    · split at h2
      · exact absurd h2 (by decide)
      · rename_i z1 z2
        rw [if_neg z1, if_neg z2] at h1
        exact absurd rfl h1
  · exact h
theorem st_Rep {D : va_G} {ac : Nat → ClassId} {cz scr : Cell} {z b N : Nat} {xs : Nat → Int32} {H : Heap} (hne : b ≠ z) (hz : H[z]? = some cz) (hz0 : cz.slots.size.toInt32 = nI 0) (hb : H[b]? = some scr) (hN : scr.slots.size = N) (hv : ∀ j : Nat, j < N → scr.slots[j]? = some (.int (xs j))) : am_Rep D ac (cz, scr) (st_h z b N xs) H := by
  intro a
  by_cases e : a = z
  · subst e
    have hk : am_K (st_h a b N xs) a = 16 := if_pos rfl
    unfold am_at
    rw [hk]
    refine ⟨fun _ => (Array.getElem?_eq_some_iff.mp hz).1, fun ci q e1 e2 => ?_, fun q => absurd q (by decide), fun q => absurd q (by decide), fun q => absurd q (by decide), fun q => absurd q (by decide), fun q => absurd q (by decide), fun _ => ⟨hz, ?_⟩, fun q => absurd q (by decide)⟩
    · have : ci < 7 := (List.getElem?_eq_some_iff.mp e2).1
      omega
    · show cz.slots.size.toInt32 = nI (if a = a then 0 else if a = b then N else 0)
      rw [if_pos rfl]
      exact hz0
  · by_cases e2 : a = b
    · subst e2
      have hk : am_K (st_h z a N xs) a = 17 := (if_neg e).trans (if_pos rfl)
      unfold am_at
      rw [hk]
      refine ⟨fun _ => (Array.getElem?_eq_some_iff.mp hb).1, fun ci q e1 e3 => ?_, fun q => absurd q (by decide), fun q => absurd q (by decide), fun q => absurd q (by decide), fun q => absurd q (by decide), fun q => absurd q (by decide), fun q => absurd q (by decide), fun _ => ?_⟩
      · have : ci < 7 := (List.getElem?_eq_some_iff.mp e3).1
        omega
      · have hn : am_N (st_h z a N xs) a = N := (if_neg e).trans (if_pos rfl)
        have ha : ∀ j, am_A (st_h z a N xs) a j = xs j := fun j => if_pos rfl
        rw [hn]
        refine ⟨hb, hN, fun j hj => ?_⟩
        rw [ha]
        exact hv j hj
    · have hk : am_K (st_h z b N xs) a = 0 := (if_neg e).trans (if_neg e2)
      refine ⟨fun q => absurd hk q, fun ci q e1 _ => ?_, fun q => ?_, fun q => ?_, fun q => ?_, fun q => ?_, fun q => ?_, fun q => ?_, fun q => ?_⟩
      all_goals (exfalso; omega)
theorem st_flags {l : Launch} (h : l.flags = flags0) : l.stackTraces = false := by
  unfold Launch.stackTraces
  rw [h]
  unfold flags0
  simp
end START
set_option maxRecDepth 100000 in
set_option maxHeartbeats 4000000 in
theorem whole_start {p : Program} {e : Env} {s : State} {m : MethodId} {below : List Frame} {meth : Method} {c : Code} (l : Launch) (hflags : l.flags = flags0) {b L : Nat} {xs : Nat → Int32} (hL : L ≤ 260) (C0 : lw_At p s m meth c b L xs) : W p l e room_1 s m #[Value.ref b] below meth c s.heap [] 0 0 (lw_Z below #[Value.ref b] s) (entryFrame m ([Value.ref b] : List Value).toArray 1) := by
  obtain ⟨hx, hb, hr, hml, hown, hall, hX, hbl, hlocks, hgv⟩ := C0
  have hs := flat_of_before _ hgv
  have hlt := st_flags hflags
  obtain ⟨D, ac, hK⟩ := st_K hall
  have hT := st_T hall hgv
  obtain ⟨scr, hscr, hsof, hskn, hsN, hsv⟩ := hX
  obtain ⟨z, hze, cz, hcz, hzof, hzkn, -, hz0, -, -⟩ := va_Tof (N := 0) (f := fun _ => .null) (A := fun q => s.heap.size ≤ q) (by decide) (hs (Cond.arrayOf (.static "java/util/ArrayList" "DEFAULTCAPACITY_EMPTY_ELEMENTDATA" "[Ljava/lang/Object;") (.object "java/lang/Object")) (by decide +kernel)) (va_eqt (hs (Cond.eq (.length (.static "java/util/ArrayList" "DEFAULTCAPACITY_EMPTY_ELEMENTDATA" "[Ljava/lang/Object;")) (.int 0)) (by decide +kernel))) (fun j hj => absurd hj (Nat.not_lt_zero _)) (fun a ha => Nat.not_le.mpr ha)
  have hne : b ≠ z := fun e => by
    subst e
    cases hcz.symm.trans hscr
    obtain ⟨-, k1, e1, c1, f1⟩ := hzof
    obtain ⟨-, k2, e2, c2, f2⟩ := hsof
    rw [e1] at e2
    cases e2
    rw [f1] at f2
    cases f2
  obtain ⟨h0, eh0⟩ : ∃ h0, h0 = st_h z b L xs := ⟨_, rfl⟩
  have hA : ∀ a : Nat, a < s.heap.size → ¬ am_W h0 s.heap.size a := fun a ha h => by
    rw [eh0] at h
    have := st_W h
    omega
  have hRep : am_Rep D ac (cz, scr) h0 s.heap := by rw [eh0]; exact st_Rep hne hcz hz0 hscr hsN hsv
  have hZ : am_Z h0 (am_W h0 s.heap.size) s s.heap := by
    refine ⟨vx_Zqof (hall _ (List.mem_of_getElem? (i := 187) (by decide +kernel))) (hall _ (List.mem_of_getElem? (i := 25) (by decide +kernel))) (hs (Cond.isRef (.static "java/lang/Throwable" "UNASSIGNED_STACK" "[Ljava/lang/StackTraceElement;")) (by decide +kernel)) hA, vx_Zqof (hall _ (List.mem_of_getElem? (i := 189) (by decide +kernel))) (hall _ (List.mem_of_getElem? (i := 25) (by decide +kernel))) (hs (Cond.isRef (.static "java/lang/Throwable" "SUPPRESSED_SENTINEL" "Ljava/util/List;")) (by decide +kernel)) hA, z, ?_, fun y hy => ?_, va_Zof (hall _ (List.mem_of_getElem? (i := 71) (by decide +kernel))) (hall _ (List.mem_of_getElem? (i := 23) (by decide +kernel))) hze hA⟩
    · rw [eh0]
      exact if_pos rfl
    · rw [eh0, st_hK] at hy
      split at hy
      · assumption
      · split at hy <;> exact absurd hy (by decide)
  have hl := lv_entry ([.ref b]) (n := 1) (Nat.le_of_ble_eq_true rfl)
  rw [lg_entry_eq]
  obtain ⟨k, ek⟩ : ∃ k : am_X, k = (p, l, e, room_1, s, m, #[Value.ref b], below, meth, c, h0, D, ac, cz, scr) := ⟨_, rfl⟩
  have hR : am_kR k = room_1 := by rw [ek]; rfl
  have hlk : (am_kl k).stackTraces = false := by rw [ek]; exact hlt
  have hend : ∀ (cc ss : Nat) (ls : List (Nat × Value)) (h : am_H), cc ≤ 655974 → ss ≤ 7133547 → am_G k RL meth.name cL_law 1 ret cc ss (lw_Z below #[Value.ref b] s) 33 ls [.int 1] h := by
    intro cc ss ls h hcc hss
    rw [ek]
    intro hC H locs la hR' hE hS hl'
    refine va_forget (fun q hq => ?_) ?_
    · have := hS.2.2 q hq
      rw [eh0] at this
      exact st_W this
    · exact W.widen (k := 655974) (n := 7133547) hcc hss (lw_ret hx hb hr hlocks dL_law_33)
  have hG : am_G k RL meth.name cL_law 1 ret 0 0 (lw_Z below #[Value.ref b] s) 0 (lv_args 0 [.ref b]) [] h0 := by
    have k0 : am_K h0 b = 17 := by rw [eh0]; exact (if_neg hne).trans (if_pos rfl)
    have n0 : am_N h0 b = L := by rw [eh0]; exact (if_neg hne).trans (if_pos rfl)
    have x0 : ∀ j, j < L → am_A h0 b j = xs j := fun j _ => by rw [eh0]; exact if_pos rfl
    have z0 : am_K h0 z = 16 := by rw [eh0]; exact if_pos rfl
    have y0 : am_N h0 z = 0 := by rw [eh0]; exact if_pos rfl
    refine g_aload_n dL_law_0 rfl ?_
    refine g_iconst (v := nI 0) dL_law_1 (by decide) ?_
    refine g_callS [_, _] dL_law_2 mc_L_118 ms_L_exchange (c_exchange hlk k0 n0 hL x0 z0 y0 (a0 := 0) (by decide)) rfl (Nat.le_of_ble_eq_true rfl) (am_rm hR (by decide)) (fun _ _ z => z) (fun v hx9 hq hE => ?_)
    obtain ⟨rfl, x1⟩ := hq
    have k1 := ((hE b).1 (by rw [k0]; decide)).1.trans k0
    have n1 := ((hE b).1 (by rw [k0]; decide)).2.trans n0
    have z1 := ((hE z).1 (by rw [z0]; decide)).1.trans z0
    have y1 := ((hE z).1 (by rw [z0]; decide)).2.trans y0
    refine g_if_eq 32 dL_law_5 (by decide) (fun z => absurd z (by decide)) (fun _ => ?_)
    refine g_aload_n dL_law_8 rfl ?_
    refine g_sipush (v := nI 207) dL_law_9 (by decide) ?_
    refine g_callS [_, _] dL_law_12 mc_L_118 ms_L_exchange (c_exchange hlk k1 n1 hL x1 z1 y1 (a0 := 207) (by decide)) rfl (Nat.le_of_ble_eq_true rfl) (am_rm hR (by decide)) (fun _ _ z => z) (fun v hx9 hq hE => ?_)
    obtain ⟨rfl, x2⟩ := hq
    have k2 := ((hE b).1 (by rw [k1]; decide)).1.trans k1
    have n2 := ((hE b).1 (by rw [k1]; decide)).2.trans n1
    have z2 := ((hE z).1 (by rw [z1]; decide)).1.trans z1
    have y2 := ((hE z).1 (by rw [z1]; decide)).2.trans y1
    refine g_if_eq 32 dL_law_15 (by decide) (fun z => absurd z (by decide)) (fun _ => ?_)
    refine g_aload_n dL_law_18 rfl ?_
    refine g_sipush (v := nI 414) dL_law_19 (by decide) ?_
    refine g_callS [_, _] dL_law_22 mc_L_118 ms_L_exchange (c_exchange hlk k2 n2 hL x2 z2 y2 (a0 := 414) (by decide)) rfl (Nat.le_of_ble_eq_true rfl) (am_rm hR (by decide)) (fun _ _ z => z) (fun v hx9 hq hE => ?_)
    obtain ⟨rfl, x3⟩ := hq
    have k3 := ((hE b).1 (by rw [k2]; decide)).1.trans k2
    have n3 := ((hE b).1 (by rw [k2]; decide)).2.trans n2
    have z3 := ((hE z).1 (by rw [z2]; decide)).1.trans z2
    have y3 := ((hE z).1 (by rw [z2]; decide)).2.trans y2
    refine g_if_eq 32 dL_law_25 (by decide) (fun z => absurd z (by decide)) (fun _ => ?_)
    refine g_iconst (v := 1) dL_law_28 (by decide) ?_
    refine g_goto 33 dL_law_29 (by decide) ?_
    exact hend _ _ _ _ (Nat.le_of_ble_eq_true rfl) (Nat.le_of_ble_eq_true rfl)
  rw [ek] at hG
  exact hG ⟨hx, hb, hml, hr, hlocks, hown, st_words hall, hK, hlt, hZ, rfl, hT, hzof, hsof, hzkn, hskn⟩ s.heap [] _ hRep am_Ext.rf va_S.rf hl

set_option maxHeartbeats 4000000 in
theorem lw_walk (l : Launch) (hflags : l.flags = flags0) (b : Addr) (xs : List Int32) : MetFree l x (headSpec (Jvm.Cond.code x code maxLocals ret :: tables_1) room_1) (lw_P b xs) (fun _ _ _ _ _ => True) lw_Q := by
  refine MetFree.of_bodyS (code := code) (maxLocals := maxLocals) (ret := ret) (by decide) ?_ ?_
  · intro args s m h hn
    obtain ⟨meth, c, h1, h2, h3, h4, h5, h6, -, -⟩ := Cond.code_spec hn (atoms_spec (ws := Jvm.Cond.code x code maxLocals ret :: tables_1) h _ List.mem_cons_self)
    exact ⟨meth, c, h1, h2, h3, h4, h5, h6⟩
  · intro p e s m args below meth c s₁ B hml0 hP _
    obtain ⟨rfl, hx, hbd, hgv⟩ := hP
    obtain ⟨scr, harrAt, hlist, hof, hsmall⟩ := hx
    obtain ⟨hcb, hkn, -, -⟩ := State.arrayAt?_spec harrAt
    have hown : s.vm.findClass R_law = some m.cls := findClass_of_methodNamed B.named
    have hts0 : ∀ c ∈ (Jvm.Cond.code x code maxLocals ret :: tables_1), c.before #[Value.ref b] s = true := atoms_spec (ws := Jvm.Cond.code x code maxLocals ret :: tables_1) B.pre
    have hts : ∀ w ∈ lw_tbl, w.before #[Value.ref b] s = true := k2_hts_sels lw_privs (fun w hw => hts0 w (List.mem_cons_of_mem _ hw)) lw_privs_ok
    have hml : c.maxLocals = 1 := B.maxLocals_eq (hts0 _ List.mem_cons_self)
    have X₀ : Stand p l e room_1 s m #[Value.ref b] below meth c s₁ [] 0 0 := Stand.of_body B
    have hh0 : s₁.heap = s.heap := by rw [B.state]; rfl
    have hsz : scr.slots.size = xs.length := by rw [← Array.length_toList, hlist, List.length_map]
    have hval : ∀ j : Nat, j < xs.length → scr.slots[j]? = some (.int (xs.getD j 0)) := fun j hj => by
      rw [← Array.getElem?_toList, hlist]
      simp [hj]
    have hbl : b < s.heap.size := (Array.getElem?_eq_some_iff.mp hcb).1
    have hX : va_X b xs.length (fun j => xs.getD j 0) s s.heap := ⟨scr, hcb, hof, hkn, hsz, hval⟩
    have K : W p l e room_1 s m #[Value.ref b] below meth c s₁.heap [] 0 0 (lw_Z below #[Value.ref b] s) (entryFrame m ([Value.ref b] : List Value).toArray 1) := by
      rw [hh0]
      exact whole_start l hflags hbd ⟨B.exec, B.bytes, B.returns, hml, hown, hts, hX, hbl, B.notSynchronized, hgv⟩
    obtain ⟨t, a1, o, b1, b2, b3⟩ := K s₁ rfl X₀
    exact ⟨t, o, a1, b1, b2, b3⟩
theorem lw_pre_spec {args : Array Value} {s : State} (h : (Jvm.Cond.and given_1 narrow_1).before args s = true) (hr : rest_1_c.before args s = true) : ∃ (b : Addr) (xs : List Int32), lw_P b xs args s := by
  have hs := flat_of_before _ h
  have hq := flat_of_before _ hr
  have hc : (Cond.count 1).before args s = true := hs _ (by decide +kernel)
  have harr : (Cond.arrayOf (.arg 0) .int).before args s = true := hs _ (by decide +kernel)
  have hle : (Cond.le (.length (.arg 0)) (.int 260)).before args s = true := hs _ (by decide +kernel)
  have hlen : (Cond.isInt (.length (.arg 0))).before args s = true := hq _ (by decide +kernel)
  have hall : (Cond.all (.arg 0) (.isInt (.elem (.arg 0) (.index 0)))).before args s = true := hq _ (by decide +kernel)
  obtain ⟨b, xs, hb, hx⟩ := State.ints_of_pre rfl harr hlen hall
  have hsm : xs.length < 2 ^ 31 := hx.choose_spec.2.2.2
  have hev : (Term.length (.arg 0)).eval args s none [] s = some (.int xs.length.toInt32) := hx.length_eval hb
  have hv := Cond.le_ints hev (show (Term.int 260).eval args s none [] s = some (.int 260) from rfl)
  have hd : xs.length.toInt32 ≤ 260 := by
    simpa [Cond.before, Cond.holds, hv] using hle
  have hN : xs.length ≤ 260 := (Int32.ofNat_le_ofNat hsm (by decide)).mp (show Int32.ofNat xs.length ≤ Int32.ofNat 260 from hd)
  exact ⟨b, xs, Cond.one_arg hc (show args[0]? = some (.ref b) from hb), hx, hN, h⟩
theorem lw_comes (l : Launch) (hflags : l.flags = flags0) : Comes l x (Jvm.Cond.code x code maxLocals ret :: tables_1) room_1 (fun tb e args s => Calls_1 tb e args s ∧ rest_1 tb e args s ∧ Pre_1 tb e args s)
    (fun _ _ args s o t => lw_Q args s o t) := by
  intro p e ha hc hk s m args below hf hfit hheap happ hpre
  obtain ⟨b, xs, hP⟩ := lw_pre_spec hpre.2.2 hpre.2.1
  obtain ⟨k, o, h1, h2, h3, hQ⟩ := lw_walk l hflags b xs p e ha hc hk s m args below hf ((Spec.applies_iff_loose hf).mp happ).1 hP trivial
  exact ⟨k, o, h1, h2, h3, hQ⟩
theorem lw_frame {s t : State} {o : Outcome} {args : Array Value} (h : Framed s o t [] 655974 7133547) :
    Framed s o t (fieldLocs frame_1_writes args s ++ arrayLocs frame_1_arrays args s ++ staticLocs frame_1_statics s) 655974 7133547 := h
theorem lw_limb (L : Cond) (hL : ∀ (args : Array Value) (s t : State), L.after args s (.returned (some (.int 1))) t = true) :
    ArmFor flags0 classFile x code maxLocals ret World_1 tables_1 room_1 Calls_1 rest_1 Pre_1
      (fun tb e a s o t => postC L tb e a s o t ∧ Framed s o t (fieldLocs frame_1_writes a s ++ arrayLocs frame_1_arrays a s ++ staticLocs frame_1_statics s) 655974 7133547) := by
  intro l hflags _ _ p e ha hc hk s m args below hf hfit hheap happ hpre
  obtain ⟨k, o, h1, h2, h3, rfl, hF⟩ := lw_comes l hflags p e ha hc hk s m args below hf hfit hheap happ hpre
  exact ⟨k, _, h1, h2, h3, hL args s _, lw_frame hF⟩
theorem i_vc : Claimed_1_1 ∧ Claimed_1_2 := ⟨lw_limb limb_1_1 (fun args s t => by simp [limb_1_1, Cond.after, Cond.holds, Cond.value]), lw_limb limb_1_2 (fun args s t => Cond.after_iff.mpr (by
  first | (rw [show limb_1_2 = Cond.eq .result (.int 1) from rfl, Cond.eq_ints (x := 1) (y := 1) rfl rfl]; simp; done) | (simp [limb_1_2, Cond.value, Term.eval]; done)))⟩

