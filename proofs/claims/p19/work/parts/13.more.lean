/-! ===== making cells, casts, throws ===== -/
/-- a cell that is new in the machine's heap is new in the picture -/
theorem am_fresh {D : va_G} {ac : Nat → ClassId} {zc : Cell × Cell} {h : am_H} {H : Heap} (hR : am_Rep D ac zc h H) {a : Nat} (ha : H.size ≤ a) : am_K h a = 0 := by
  by_cases z : am_K h a = 0
  · exact z
  · exact absurd ((hR a).1 z) (Nat.not_lt.mpr ha)
theorem am_Rep.nw {D : va_G} {ac : Nat → ClassId} {zc : Cell × Cell} {h : am_H} {H H' : Heap} {k n : Nat} (hR : am_Rep D ac zc h H) (o1 : ∀ q : Nat, q < H.size → H'[q]? = H[q]?) (z : H'.size = H.size + 1) (ha : am_at D ac zc (am_nw h H.size k n) H' H.size) : am_Rep D ac zc (am_nw h H.size k n) H' := by
  intro b
  by_cases e : b = H.size
  · rw [e]; exact ha
  · by_cases hb : b < H.size
    · exact (hR b).kept (am_same_nw e) (o1 b hb) (by omega)
    · have hk : am_K (am_nw h H.size k n) b = 0 := by
        rw [am_K_nw, if_neg e]
        exact am_fresh hR (Nat.not_lt.mp hb)
      refine ⟨fun q => absurd hk q, fun ci q e1 _ => ?_, fun q => ?_, fun q => ?_, fun q => ?_, fun q => ?_, fun q => ?_, fun q => ?_, fun q => ?_⟩
      all_goals (exfalso; omega)
theorem am_Ext.nw {D : va_G} {ac : Nat → ClassId} {zc : Cell × Cell} {h0 h : am_H} {H : Heap} {sz k n : Nat} (hR : am_Rep D ac zc h H) (hE : am_Ext h0 h sz) (hz : sz ≤ H.size) (hk : k ≠ 16) : am_Ext h0 (am_nw h H.size k n) sz := by
  intro a
  by_cases e : a = H.size
  · have h1 : am_K h a = 0 := am_fresh hR (by omega)
    have h2 : am_K h0 a = 0 := by
      by_cases z : am_K h0 a = 0
      · exact z
      · exact absurd (((hE a).1 z).1.symm.trans h1) z
    exact ⟨fun z => absurd h2 z, fun _ _ => ⟨by omega, by rw [am_K_nw, if_pos e]; exact hk⟩⟩
  · rw [am_K_nw, am_N_nw, if_neg e, if_neg e]
    exact hE a
theorem am_S.nw {A : Nat → Prop} {H0 H H' : Heap} {locs : List Loc} (hS : va_S A H0 H locs) (o1 : ∀ q : Nat, q < H.size → H'[q]? = H[q]?) (z : H'.size = H.size + 1) : va_S A H0 H' locs := ⟨Nat.le_trans hS.1 (by omega), fun x h1 h2 => (o1 x (Nat.lt_of_lt_of_le h1 hS.1)).trans (hS.2.1 x h1 h2), hS.2.2⟩
/-- what the tables say of class ci: its number, name, table -/
def am_cl (ci : Nat) (q : vw_C) : Prop := am_C[ci]? = some q ∧ (∀ w ∈ u_ws q.1 q.2.1 q.2.2, w ∈ am_WS) ∧ (∀ k, k < q.2.2 → parseFieldDescriptor (q.2.1 k).2.2.1 = some (am_ty ci k)) ∧ (∀ k, k < q.2.2 → defaultValue (am_ty ci k) = (match am_isR (am_ty ci k) with | true => .null | false => .int 0)) ∧ Cond.instantiable q.1 q.2.2 ∈ am_WS ∧ Cond.initialized q.1 ∈ am_WS
/-- an address above all is new -/
theorem am_new0 {h : am_H} {a : Nat} (ha : ∀ q, am_K h q ≠ 0 → q < a) : am_K h a = 0 := by
  by_cases z : am_K h a = 0
  · exact z
  · exact absurd (ha a z) (Nat.lt_irrefl _)
section AMM
variable {k : am_X} {own nm : String} {cc : ByteArray} {nL : Nat} {ret : Option FieldType} {cells slots : Nat} {Q : State → Prop} {pc : Nat} {ls : List (Nat × Value)} {st : List Value} {h : am_H}
theorem g_new {index ci : Nat} {q : vw_C} (hd : decode cc pc = .ok (.new index, 3)) (hc : am_cl ci q) (hl : Cond.classLink own index q.1 ∈ am_WS) (h1 : cells + 1 ≤ (am_kR k).cells) (h2 : slots + q.2.2 ≤ (am_kR k).slots) (kk : ∀ a, (∀ q, am_K h q ≠ 0 → q < a) → am_G k own nm cc nL ret (cells + 1) (slots + q.2.2) Q (pc + 3) ls (.ref a :: st) (am_nw h a (ci + 1) 0)) : am_G k own nm cc nL ret cells slots Q pc ls st h := by
  obtain ⟨p, l, e, R, s, m, args, below, meth, c, h0, D, ac, zc⟩ := k
  intro hC H locs la hR hE hS hlv
  obtain ⟨hq, hw, hty, hdf, hin, hini⟩ := hc
  obtain ⟨hx, hb, -, -, -, hown, hts, hK, -⟩ := id hC
  have hKn := hK.1 ci q hq
  refine W.newcK hx hb hown (hts _ hl) (hts _ hin) (hts _ hini) rfl hd h1 h2 hKn.2.1 rfl fun H1 kC hkC e1 z1 o1 => ?_
  refine kk H.size (fun q hq => (hR q).1 hq) hC H1 locs la (hR.nw o1 z1 ?_) (hE.nw hR hS.1 (by have := am_lt7 hq; omega)) (am_S.nw hS o1 z1) hlv
  refine am_at_obj hq (by rw [am_K_nw, if_pos rfl]) (by omega) ((u_born (am_ty ci) hts hw hKn hkC e1 hty).to fun j hj => ?_)
  rw [hdf j hj]
  unfold am_V
  cases hr : am_isR (am_ty ci j) with
  | true => show Value.null = va_rf (am_R (am_nw h H.size (ci + 1) 0) (100 * ci + j) H.size); rw [am_R_nw, if_pos rfl]; rfl
  | false => show Value.int 0 = Value.int (am_I (am_nw h H.size (ci + 1) 0) (100 * ci + j) H.size); rw [am_I_nw, if_pos rfl]
theorem am_cid {s : State} {D : va_G} {ac : Nat → ClassId} {j : Nat} {t : FieldType} {cA : ClassId} (hK : va_K D am_C (am_tys ac) s) (hj : (am_tys ac)[j]? = some (ac j, t)) (hr : va_RA s (ac j) t → s.vm.findClass ("[" ++ t.toString) = some (ac j)) (hcA : s.vm.findClass ("[" ++ t.toString) = some cA) : cA = ac j := Option.some.inj (hcA.symm.trans (hr (hK.2 j _ hj).2))
theorem g_newI {n : Int32} {N : Nat} (hd : decode cc pc = .ok (.newarray .int, 2)) (hw : Cond.arrayClass .int ∈ am_WS) (hn : ¬ n < 0) (hN : n.toNatClampNeg = N) (hb1 : N * 4 ≤ 536870912) (h1 : cells + 1 ≤ (am_kR k).cells) (h2 : slots + N ≤ (am_kR k).slots) (kk : ∀ a, (∀ q, am_K h q ≠ 0 → q < a) → am_G k own nm cc nL ret (cells + 1) (slots + N) Q (pc + 2) ls (.ref a :: st) (am_nw h a 11 N)) : am_G k own nm cc nL ret cells slots Q pc ls (.int n :: st) h := by
  obtain ⟨p, l, e, R, s, m, args, below, meth, c, h0, D, ac, zc⟩ := k
  intro hC H locs la hR hE hS hlv
  obtain ⟨hx, hb, -, -, -, hown, hts, hK, -⟩ := id hC
  refine va_newaK (atype := .int) hx hb (hts _ hw) rfl hd rfl hn hN hb1 h1 h2 rfl fun H1 cA e1 z1 o1 _ hNm => ?_
  have ec : cA = ac 0 := am_cid (j := 0) (t := .int) hK rfl (fun h => h) hNm
  subst ec
  refine kk H.size (fun q hq => (hR q).1 hq) hC H1 locs la (hR.nw o1 z1 (am_at_11 (by rw [am_K_nw, if_pos rfl]) (by omega) ?_)) (hE.nw hR hS.1 (by decide)) (am_S.nw hS o1 z1) hlv
  rw [e1, am_N_nw, if_pos rfl, vp_cell_i]
  congr 2
  funext j
  rw [am_A_nw, if_pos rfl]
  rfl
theorem g_newO {index : Nat} {n : Int32} {N : Nat} (hd : decode cc pc = .ok (.anewarray index, 3)) (hw : Cond.classLink own index "java/lang/Object" ∈ am_WS) (hn : ¬ n < 0) (hN : n.toNatClampNeg = N) (hb1 : N * 4 ≤ 536870912) (h1 : cells + 1 ≤ (am_kR k).cells) (h2 : slots + N ≤ (am_kR k).slots) (kk : ∀ a, (∀ q, am_K h q ≠ 0 → q < a) → am_G k own nm cc nL ret (cells + 1) (slots + N) Q (pc + 3) ls (.ref a :: st) (am_nw h a 13 N)) : am_G k own nm cc nL ret cells slots Q pc ls (.int n :: st) h := by
  obtain ⟨p, l, e, R, s, m, args, below, meth, c, h0, D, ac, zc⟩ := k
  intro hC H locs la hR hE hS hlv
  obtain ⟨hx, hb, -, -, -, hown, hts, hK, -, -, -, hT, -⟩ := id hC
  subst hN
  refine W.anew hx hb hown (hts _ hw) (va_AO.use hT.2.2.2.2.1) rfl hd rfl hn hb1 h1 h2 fun cA kA comp f1 f2 f3 f4 => ?_
  generalize hH1 : H.push ({ cls := cA, slots := Array.replicate n.toNatClampNeg .null, vm := .none } : Cell) = H1
  have z1 : H1.size = H.size + 1 := by rw [← hH1, Array.size_push]
  have e1 : H1[H.size]? = some (arrV cA n.toNatClampNeg (fun _ => .null)) := by rw [← hH1, Array.getElem?_push_size, ← arrV_new]
  have o1 : ∀ q : Nat, q < H.size → H1[q]? = H[q]? := fun q hq => by rw [← hH1, Array.getElem?_push, if_neg (Nat.ne_of_lt hq)]
  have ec : cA = ac 2 := am_cid (j := 2) (t := .object "java/lang/Object") hK rfl (fun h => by obtain ⟨_, _, _, _, _, h9⟩ := h; exact h9) f1
  subst ec
  refine kk H.size (fun q hq => (hR q).1 hq) hC H1 locs la (hR.nw o1 z1 (am_at_13 (by rw [am_K_nw, if_pos rfl]) (by omega) ?_)) (hE.nw hR hS.1 (by decide)) (am_S.nw hS o1 z1) hlv
  rw [e1, am_N_nw, if_pos rfl, vp_cell_q]
  congr 2
  funext j
  rw [am_B_nw, if_pos rfl]
  rfl
/-- a cast to the object's own class -/
theorem g_castS {index a ci : Nat} {q : vw_C} (hd : decode cc pc = .ok (.checkcast index, 3)) (hl : Cond.classLink own index q.1 ∈ am_WS) (ha : am_K h a = ci + 1) (hq : am_C[ci]? = some q) (kk : am_G k own nm cc nL ret cells slots Q (pc + 3) ls (.ref a :: st) h) : am_G k own nm cc nL ret cells slots Q pc ls (.ref a :: st) h := by
  obtain ⟨p, l, e, R, s, m, args, below, meth, c, h0, D, ac, zc⟩ := k
  intro hC H locs la hR hE hS hlv
  obtain ⟨hx, hb, -, -, -, hown, hts, hK, -⟩ := id hC
  exact va_castS hx hb hown (hts _ hl) (hK.1 ci q hq).2 (am_recv hK hR ha hq) hd (kk hC H locs la hR hE hS hlv)
theorem g_objInit {index a : Nat} (hd : decode cc pc = .ok (.invokespecial index, 3)) (hl : Cond.methodLink own index Lib.objectInit ∈ am_WS) (hi : Cond.instanceMethod Lib.objectInit ∈ am_WS) (hc : Cond.code Lib.objectInit ⟨#[0xb1]⟩ 1 none ∈ am_WS) (hf : 1 ≤ (am_kR k).frames) (hlo : (st.map fun v => v.category).sum + 12 ≤ (am_kR k).locals) (kk : am_G k own nm cc nL ret cells slots Q (pc + 3) ls st h) : am_G k own nm cc nL ret cells slots Q pc ls (.ref a :: st) h := by
  obtain ⟨p, l, e, R, s, m, args, below, meth, c, h0, D, ac, zc⟩ := k
  intro hC H locs la hR hE hS hlv
  obtain ⟨hx, hb, hml, -, -, hown, hts, hK, -⟩ := id hC
  exact W.objInit hx hb hown (hts _ hl) (hts _ hi) (hts _ hc) rfl (hlv.1.trans hml.symm) rfl hd hf (by have hlo' : (st.map fun v => v.category).sum + 12 ≤ R.locals := hlo; simpa [JFrame.monitorRoom, F0] using hlo') (kk hC H locs la hR hE hS hlv)
theorem g_min {index : Nat} {x y : Int32} (hd : decode cc pc = .ok (.invokestatic index, 3)) (hl : Cond.methodLink own index Lib.Math.min.name ∈ am_WS) (hs : Cond.static Lib.Math.min.name ∈ am_WS) (hi : Cond.initialized "java/lang/Math" ∈ am_WS) (hc : Cond.code Lib.Math.min.name Lib.Math.min.code 2 (some .int) ∈ am_WS) (hf : 1 ≤ (am_kR k).frames) (hlo : (st.map fun v => v.category).sum + 13 ≤ (am_kR k).locals) (h1 : cells ≤ (am_kR k).cells) (h2 : slots ≤ (am_kR k).slots) (kk : am_G k own nm cc nL ret cells slots Q (pc + 3) ls (.int (if y < x then y else x) :: st) h) : am_G k own nm cc nL ret cells slots Q pc ls (.int y :: .int x :: st) h := by
  obtain ⟨p, l, e, R, s, m, args, below, meth, c, h0, D, ac, zc⟩ := k
  intro hC H locs la hR hE hS hlv
  obtain ⟨hx, hb, hml, -, -, hown, hts, hK, -⟩ := id hC
  exact va_mmin hx hb (hml.trans hlv.1.symm) hown (hts _ hl) (hts _ hs) (hts _ hi) (hts _ hc) hf hlo h1 h2 hd (kk hC H locs la hR hE hS hlv)
theorem g_max {index : Nat} {x y : Int32} (hd : decode cc pc = .ok (.invokestatic index, 3)) (hl : Cond.methodLink own index Lib.Math.max.name ∈ am_WS) (hs : Cond.static Lib.Math.max.name ∈ am_WS) (hi : Cond.initialized "java/lang/Math" ∈ am_WS) (hc : Cond.code Lib.Math.max.name Lib.Math.max.code 2 (some .int) ∈ am_WS) (hf : 1 ≤ (am_kR k).frames) (hlo : (st.map fun v => v.category).sum + 13 ≤ (am_kR k).locals) (h1 : cells ≤ (am_kR k).cells) (h2 : slots ≤ (am_kR k).slots) (kk : am_G k own nm cc nL ret cells slots Q (pc + 3) ls (.int (if x < y then y else x) :: st) h) : am_G k own nm cc nL ret cells slots Q pc ls (.int y :: .int x :: st) h := by
  obtain ⟨p, l, e, R, s, m, args, below, meth, c, h0, D, ac, zc⟩ := k
  intro hC H locs la hR hE hS hlv
  obtain ⟨hx, hb, hml, -, -, hown, hts, hK, -⟩ := id hC
  exact va_mmax hx hb (hml.trans hlv.1.symm) hown (hts _ hl) (hts _ hs) (hts _ hi) (hts _ hc) hf hlo h1 h2 hd (kk hC H locs la hR hE hS hlv)
theorem g_null (hd : decode cc pc = .ok (.aconst_null, 1)) (kk : am_G k own nm cc nL ret cells slots Q (pc + 1) ls (.null :: st) h) : am_G k own nm cc nL ret cells slots Q pc ls st h := by
  obtain ⟨p, l, e, R, s, m, args, below, meth, c, h0, D, ac, zc⟩ := k
  intro hC H locs la hR hE hS hlv
  exact lv_null hC.1 hC.2.1 hd (kk hC H locs la hR hE hS hlv)
end AMM
/-- the words of 'throw new E(text)' -/
def am_tw (ik ic : Nat) (E : String) : Prop := Cond.classLink RX4 ik E ∈ am_WF ∧ Cond.initialized E ∈ am_WF ∧ (∀ w ∈ vx_atS RX4 ic E ["java/lang/RuntimeException", "java/lang/Exception"], w ∈ am_WF) ∧ Bundle.fit E = true
theorem am_fits : ∀ n ∈ ["java/lang/RuntimeException", "java/lang/Exception"], Bundle.fit n = true := by decide +kernel
section AMT
variable {k : am_X} {nm : String} {cc : ByteArray} {nL : Nat} {ret : Option FieldType} {cells slots : Nat} {pc : Nat} {ls : List (Nat × Value)} {st : List Value} {h : am_H} {mc ms : Nat} {Qr : Option Value → am_H → Prop} {X : String → am_H → Prop}
theorem g_throw {ik is ic : Nat} {E text : String} (d0 : decode cc pc = .ok (.new ik, 3)) (d3 : decode cc (pc + 3) = .ok (.dup, 1)) (d4 : decode cc (pc + 4) = .ok (.ldc is, 2)) (d6 : decode cc (pc + 6) = .ok (.invokespecial ic, 3)) (d9 : decode cc (pc + 9) = .ok (.athrow, 1)) (hw : am_tw ik ic E) (hs : (is, text) ∈ am_strs) (hno : am_noX k) (hf : 5 < (am_kR k).frames) (hlo : (st.map fun v => v.category).sum + 82 ≤ (am_kR k).locals) (h1 : cells + 1 ≤ (am_kR k).cells) (h2 : slots + 6 ≤ (am_kR k).slots) (h3 : cells + 1 ≤ mc) (h4 : slots + 6 ≤ ms) (hx : X E h) : am_G k RX4 nm cc nL ret cells slots (am_Q k mc ms Qr X) pc ls st h := by
  obtain ⟨p, l, e, R, s, m, args, below, meth, c, h0, D, ac, zc⟩ := k
  intro hC H locs la hR hE hS hlv
  obtain ⟨hxx, hb, hml, -, hlk, hown, hts, hK, hst, hZ, -, hT, -⟩ := id hC
  obtain ⟨w1, w2, w3, w4⟩ := hw
  obtain ⟨sa, hsa⟩ := hT.2.2.2.1 _ hs
  have hot : ∀ w ∈ am_WF, vx_ot w = true := fun w hw => by
    have := (List.mem_filter.mp hw).2
    rw [Bool.and_eq_true] at this
    unfold vx_ot
    rw [this.1]
    rfl
  have hbe : ∀ w ∈ am_WF, w.before args s = true := fun w hw => by
    have := (List.mem_filter.mp hw).2
    rw [Bool.and_eq_true] at this
    exact va_Nw.use this.1 (hT.1 w hw)
  refine vx_throwS hxx hb hst hown w4 am_fits (hbe _ w1) (hbe _ w2) hsa (fun w hw => hbe w (w3 w hw)) (fun w hw => ?_) hZ.1 hZ.2.1 hS (hlv.1.trans hml.symm) d0 d3 d4 d6 d9 (fun x hx => (hno x hx).elim) (by show 2 + 3 < _; exact hf) (by show _ + (13 * (2 + 1) + 43) ≤ _; exact hlo) h1 h2 hlk (fun t hvm hz hk => ?_) hS.2.2 h3 h4
  · rcases List.mem_cons.mp hw with rfl | hw
    · exact hot _ w1
    · rcases List.mem_cons.mp hw with rfl | hw
      · exact hot _ w2
      · exact hot w (w3 w hw)
  · refine ⟨h, hx, ?_, hE, Nat.le_trans hS.1 hz, fun q hq hA => (hk q (Nat.lt_of_lt_of_le hq hS.1)).trans (hS.2.1 q hq hA)⟩
    intro b
    by_cases z : am_K h b = 0
    · refine ⟨fun q => absurd z q, fun ci q e1 _ => ?_, fun q => ?_, fun q => ?_, fun q => ?_, fun q => ?_, fun q => ?_, fun q => ?_, fun q => ?_⟩
      all_goals (exfalso; omega)
    · exact (hR b).kept am_same.rf (hk b ((hR b).1 z)) hz
end AMT
theorem am_twt (ik ic : Nat) (E : String) (h1 : (Cond.classLink RX4 ik E :: Cond.initialized E :: vx_atS RX4 ic E ["java/lang/RuntimeException", "java/lang/Exception"]).all (fun w => decide (w ∈ lw_tbl) && (w.onTables && w.keepsFace)) = true) (h2 : Bundle.fit E = true) : am_tw ik ic E := by
  have h3 : ∀ w ∈ (Cond.classLink RX4 ik E :: Cond.initialized E :: vx_atS RX4 ic E ["java/lang/RuntimeException", "java/lang/Exception"]), w ∈ am_WF := fun w hw => by
    have := List.all_eq_true.mp h1 w hw
    rw [Bool.and_eq_true] at this
    exact List.mem_filter.mpr ⟨of_decide_eq_true this.1, this.2⟩
  exact ⟨h3 _ List.mem_cons_self, h3 _ (List.mem_cons_of_mem _ List.mem_cons_self), fun w hw => h3 w (List.mem_cons_of_mem _ (List.mem_cons_of_mem _ hw)), h2⟩
