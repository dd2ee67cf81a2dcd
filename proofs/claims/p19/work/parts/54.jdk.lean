/-! ===== what lists want of the JDK: the static empty row, getClass, class constants, rows copied, rows of references written ===== -/
abbrev jGC : MethodName := ⟨"java/lang/Object", "getClass", "()Ljava/lang/Class;"⟩
theorem jw_39 : Cond.fieldLink RJx4a65c 39 "java/util/ArrayList" "DEFAULTCAPACITY_EMPTY_ELEMENTDATA" "[Ljava/lang/Object;" ∈ am_WS := am_ws (i := 70) (by decide +kernel) rfl
theorem jw_112 : Cond.methodLink RJx4a65c 112 arraycopyName ∈ am_WS := am_ws (i := 759) (by decide +kernel) rfl
theorem jw_150 : Cond.methodLink RJ7 150 arraycopyName ∈ am_WS := am_ws (i := 394) (by decide +kernel) rfl
theorem jw_acn : Cond.native arraycopyName ∈ am_WS := am_ws (i := 396) (by decide +kernel) rfl
theorem jw_acs : Cond.static arraycopyName ∈ am_WS := am_ws (i := 395) (by decide +kernel) rfl
theorem jw_sys : Cond.initialized "java/lang/System" ∈ am_WS := am_ws (i := 35) (by decide +kernel) rfl
theorem jw_86 : Cond.methodLink RJ7 86 jGC ∈ am_WS := am_ws (i := 370) (by decide +kernel) rfl
theorem jw_gci : Cond.instanceMethod jGC ∈ am_WS := am_ws (i := 371) (by decide +kernel) rfl
theorem jw_gcn : Cond.native jGC ∈ am_WS := am_ws (i := 384) (by decide +kernel) rfl
theorem jw_gcs : Cond.selects "[Ljava/lang/Object;" jGC jGC ∈ am_WS := am_ws (i := 932) (by decide +kernel) rfl
theorem jw_cD : Cond.castable RX1 "java/lang/Object" ∈ am_WF := am_wf (i := 924) (by decide +kernel) rfl
theorem jw_cP : Cond.castable RX3 "java/lang/Object" ∈ am_WF := am_wf (i := 927) (by decide +kernel) rfl
def am_ks (k : am_X) : State := k.2.2.2.2.1
/-- mi is the class object of Object[] -/
def am_kM (k : am_X) (mi : Nat) : Prop := va_Mi "[Ljava/lang/Object;" mi (am_ks k)
theorem am_kM.uniq {k : am_X} {mi mj : Nat} (h : am_kM k mi) (h2 : am_kM k mj) : mi = mj := by
  obtain ⟨c, q, a1, a2, a3⟩ := h
  obtain ⟨c', q', b1, b2, b3⟩ := h2
  cases a1.symm.trans b1
  cases a2.symm.trans b2
  exact Option.some.inj (a3.symm.trans b3)
/-- a whole row of references -/
def am_sBr (h : am_H) (a : Nat) (f : Nat → Option Nat) : am_H := (h.1, h.2.1, h.2.2.1, h.2.2.2.1, h.2.2.2.2.1, fun b i => if b = a then f i else h.2.2.2.2.2.1 b i, h.2.2.2.2.2.2)
theorem am_K_sBr (h : am_H) (a : Nat) (f : Nat → Option Nat) : am_K (am_sBr h a f) = am_K h := rfl
theorem am_N_sBr (h : am_H) (a : Nat) (f : Nat → Option Nat) : am_N (am_sBr h a f) = am_N h := rfl
theorem am_I_sBr (h : am_H) (a : Nat) (f : Nat → Option Nat) : am_I (am_sBr h a f) = am_I h := rfl
theorem am_R_sBr (h : am_H) (a : Nat) (f : Nat → Option Nat) : am_R (am_sBr h a f) = am_R h := rfl
theorem am_A_sBr (h : am_H) (a : Nat) (f : Nat → Option Nat) : am_A (am_sBr h a f) = am_A h := rfl
theorem am_B_sBr (h : am_H) (a : Nat) (f : Nat → Option Nat) (b i : Nat) : am_B (am_sBr h a f) b i = if b = a then f i else am_B h b i := rfl
theorem am_L_sBr (h : am_H) (a : Nat) (f : Nat → Option Nat) : am_L (am_sBr h a f) = am_L h := rfl
theorem am_same_sBr {h : am_H} {a : Nat} {f : Nat → Option Nat} {b : Nat} (e : b ≠ a) : am_same h (am_sBr h a f) b := ⟨rfl, rfl, fun _ => rfl, fun _ => rfl, rfl, funext fun g => by rw [am_B_sBr, if_neg e], rfl⟩
section JDK
variable {k : am_X} {own nm : String} {cc : ByteArray} {nL : Nat} {ret : Option FieldType} {cells slots : Nat} {Q : State → Prop} {pc : Nat} {ls : List (Nat × Value)} {st : List Value} {h : am_H}
theorem g_gets39 (hd : decode cc pc = .ok (.getstatic 39, 3)) (kk : ∀ z, am_K h z = 16 → (∀ y, am_K h y = 16 → y = z) → am_G k RJx4a65c nm cc nL ret cells slots Q (pc + 3) ls (.ref z :: st) h) : am_G k RJx4a65c nm cc nL ret cells slots Q pc ls st h := by
  obtain ⟨p, l, e, R, s, m, args, below, meth, c, h0, D, ac, zc⟩ := k
  intro hC H locs la hR hE hS hl
  obtain ⟨hx, hb, hml, -, -, hown, hts, hK, -, hZ, -⟩ := id hC
  obtain ⟨-, -, z, z1, z2, z3⟩ := hZ.ext hE
  exact va_gets hx hb z3 hS hown (hts _ jw_39) (fun _ x => x) hd (kk z z1 z2 hC H locs la hR hE hS hl)
theorem am_obj13 {D : va_G} {ac : Nat → ClassId} {zc : Cell × Cell} {H : Heap} {s : State} {b : Nat} (hK : va_K D am_C (am_tys ac) s) (hR : am_Rep D ac zc h H) (hb : am_K h b = 13) : ∃ cell : Cell, H[b]? = some cell ∧ cell.vm.isStatics = false ∧ s.vm.findClass "[Ljava/lang/Object;" = some cell.cls := by
  have h1 := (hR b).2.2.2.2.1 hb
  have h2 := va_nmO (C := "java/lang/Object") (nm := "[Ljava/lang/Object;") (hK.2 2 _ rfl).2 (by decide)
  exact ⟨_, h1, rfl, h2⟩
theorem g_getC {a : Nat} (hd : decode cc pc = .ok (.invokevirtual 86, 3)) (ha : am_K h a = 13) (hf : 1 ≤ (am_kR k).frames) (hlo : (st.map fun v => v.category).sum + 14 ≤ (am_kR k).locals) (kk : ∀ mi, am_kM k mi → am_G k RJ7 nm cc nL ret cells slots Q (pc + 3) ls (.ref mi :: st) h) : am_G k RJ7 nm cc nL ret cells slots Q pc ls (.ref a :: st) h := by
  obtain ⟨p, l, e, R, s, m, args, below, meth, c, h0, D, ac, zc⟩ := k
  intro hC H locs la hR hE hS hlv
  obtain ⟨hx, hb, hml, -, -, hown, hts, hK, -, -, -, hT, -⟩ := id hC
  obtain ⟨-, -, -, -, -, -, ⟨mi, hM⟩, hD, -⟩ := hT
  exact va_getC hx hb (hml.trans hlv.1.symm) hown (hts _ jw_86) hD.use (hts _ jw_gcs) (hts _ jw_gci) (hts _ jw_gcn) hM (am_obj13 hK hR ha) hf hlo hd (kk mi hM hC H locs la hR hE hS hlv)
theorem g_ldcM {mi : Nat} (hM : am_kM k mi) (hd : decode cc pc = .ok (.ldc 110, 2)) (kk : am_G k RJ7 nm cc nL ret cells slots Q (pc + 2) ls (.ref mi :: st) h) : am_G k RJ7 nm cc nL ret cells slots Q pc ls st h := by
  obtain ⟨p, l, e, R, s, m, args, below, meth, c, h0, D, ac, zc⟩ := k
  intro hC H locs la hR hE hS hlv
  obtain ⟨hx, hb, hml, -, -, hown, hts, hK, -⟩ := id hC
  exact va_ldcM hx hb hown (hts _ kl_JA_110) hM hd (kk hC H locs la hR hE hS hlv)
/-- districts and pipes may lie in a row of Objects -/
theorem am_any {D : va_G} {ac : Nat → ClassId} {zc : Cell × Cell} {H : Heap} {s : State} {b : Nat} (hK : va_K D am_C (am_tys ac) s) (hT : am_T s) (hR : am_Rep D ac zc h H) (hb : am_K h b = 2 ∨ am_K h b = 4) : va_Any "java/lang/Object" s H b := by
  rcases hb with hb | hb
  · obtain ⟨cell, a1, a2, a3⟩ := am_recv (ci := 1) (q := (RX1, TX1, 14)) hK hR hb rfl
    obtain ⟨kC, hkC, -⟩ := Vm.findClass_spec a3
    exact ⟨cell, a1, a2, ⟨kC, hkC⟩, fun comp hc => vb_asgC (hT.1 _ jw_cD) comp _ hc a3⟩
  · obtain ⟨cell, a1, a2, a3⟩ := am_recv (ci := 3) (q := (RX3, TX3, 4)) hK hR hb rfl
    obtain ⟨kC, hkC, -⟩ := Vm.findClass_spec a3
    exact ⟨cell, a1, a2, ⟨kC, hkC⟩, fun comp hc => vb_asgC (hT.1 _ jw_cP) comp _ hc a3⟩
theorem g_oast {a v : Nat} {i : Int32} (hd : decode cc pc = .ok (.aastore, 1)) (ha : am_K h a = 13) (hin : vp_in i (am_N h a)) (hv : am_K h v = 2 ∨ am_K h v = 4) (kk : am_G k own nm cc nL ret cells slots Q (pc + 1) ls st (am_sB h a i.toNatClampNeg (some v))) : am_G k own nm cc nL ret cells slots Q pc ls (.ref v :: .int i :: .ref a :: st) h := by
  obtain ⟨p, l, e, R, s, m, args, below, meth, c, h0, D, ac, zc⟩ := k
  intro hC H locs la hR hE hS hlv
  obtain ⟨hx, hb, hml, -, -, hown, hts, hK, -, -, -, hT, -⟩ := id hC
  obtain ⟨cellV, g1, g2, ⟨kC, hkC⟩, hasg⟩ := am_any hK hT hR hv
  obtain ⟨kA, comp, k1, k2, k3, -⟩ := (hK.2 2 _ rfl).2
  obtain ⟨kE, hkE, -⟩ := Vm.findClass_spec k3
  have hlt : i.toNatClampNeg < am_N h a := Nat.not_le.mp fun q => hin (Or.inr q)
  refine W.aast hx hb ((hR a).2.2.2.2.1 ha) (fun q z => by cases z) (fun z => by cases z) k1 k2 rfl hkE ⟨fun q => hin (Or.inl q), by show _ < (arrV _ _ _).slots.size; rw [arrV_size]; exact hlt⟩ g1 (fun q z => by rw [z] at g2; cases g2) hkC (hasg _ k3) rfl rfl hd fun H1 e1 z oq => ?_
  refine kk hC H1 _ la (hR.upd a (fun b hb => am_same_sB hb) oq z (am_at_13 (by rw [am_K_sB]; exact ha) (am_lt hR z ha) ?_)) (hE.k rfl rfl) (hS.put z oq (hE.in (by rw [ha]; exact ⟨by decide, by decide⟩))) hlv
  rw [e1, am_N_sB, vp_cell_q, vp_cell_q, arrV_store]
  congr 2
  funext q
  unfold updV
  rw [am_B_sB]
  by_cases hq : q = i.toNatClampNeg
  · rw [if_pos hq, if_pos ⟨rfl, hq⟩]
    rfl
  · rw [if_neg hq, if_neg (fun z => hq z.2)]
theorem g_oastN {a : Nat} {i : Int32} (hd : decode cc pc = .ok (.aastore, 1)) (ha : am_K h a = 13) (hin : vp_in i (am_N h a)) (kk : am_G k own nm cc nL ret cells slots Q (pc + 1) ls st (am_sB h a i.toNatClampNeg none)) : am_G k own nm cc nL ret cells slots Q pc ls (.null :: .int i :: .ref a :: st) h := by
  obtain ⟨p, l, e, R, s, m, args, below, meth, c, h0, D, ac, zc⟩ := k
  intro hC H locs la hR hE hS hlv
  obtain ⟨hx, hb, hml, -, -, hown, hts, hK, -⟩ := id hC
  refine va_WaastN (C := "java/lang/Object") hx hb ((hR a).2.2.2.2.1 ha) ((hK.2 2 _ rfl).1 _ (fun j => va_rf (am_B h a j))) (fun z => by cases z) (by show ¬ (i < 0 ∨ (arrV _ _ _).slots.size ≤ _); rw [arrV_size]; exact hin) rfl rfl hd fun H1 e1 z oq => ?_
  refine kk hC H1 _ la (hR.upd a (fun b hb => am_same_sB hb) oq z (am_at_13 (by rw [am_K_sB]; exact ha) (am_lt hR z ha) ?_)) (hE.k rfl rfl) (hS.put z oq (hE.in (by rw [ha]; exact ⟨by decide, by decide⟩))) hlv
  rw [e1, am_N_sB, vp_cell_q, vp_cell_q, arrV_store]
  congr 2
  funext q
  unfold updV
  rw [am_B_sB]
  by_cases hq : q = i.toNatClampNeg
  · rw [if_pos hq, if_pos ⟨rfl, hq⟩]
    rfl
  · rw [if_neg hq, if_neg (fun z => hq z.2)]
theorem nI_n {n : Nat} (h : n < 2 ^ 31) : ¬ nI n < 0 := nI_pos h
/-- rows of references copied, also within one row -/
theorem g_copyB {index a0 a sp dp n : Nat} (hd : decode cc pc = .ok (.invokestatic index, 3)) (hl : Cond.methodLink own index arraycopyName ∈ am_WS) (h0 : am_K h a0 = 13) (h1 : am_K h a = 13) (hs1 : sp + n ≤ am_N h a0) (hs2 : dp + n ≤ am_N h a) (hb0 : am_N h a0 < 2 ^ 30) (hb1 : am_N h a < 2 ^ 30) (hel : ∀ i, i < n → ∀ y, am_B h a0 (sp + i) = some y → am_K h y = 2 ∨ am_K h y = 4) (hf : 1 ≤ (am_kR k).frames) (hlo : (st.map fun v => v.category).sum + (nativeFrameWords "java/lang/System" "arraycopy" 5 + 11) ≤ (am_kR k).locals)
    (kk : am_G k own nm cc nL ret cells slots Q (pc + 3) ls st (am_sBr h a (va_cpy (am_B h a0) (am_B h a) sp dp n))) : am_G k own nm cc nL ret cells slots Q pc ls (.int (nI n) :: .int (nI dp) :: .ref a :: .int (nI sp) :: .ref a0 :: st) h := by
  obtain ⟨p, l, e, R, s, m, args, below, meth, c, hh0, D, ac, zc⟩ := k
  intro hC H locs la hR hE hS hlv
  obtain ⟨hx, hb, hml, -, -, hown, hts, hK, -, -, -, hT, -⟩ := id hC
  intro T hT' X
  have hc0 := (hR a0).2.2.2.2.1 h0
  have hc1 := (hR a).2.2.2.2.1 h1
  obtain ⟨-, k0, hk0, cm0, hkk0⟩ := (hK.2 2 _ rfl).1 (am_N h a0) (fun j => va_rf (am_B h a0 j))
  obtain ⟨-, k1, hk1, cm1, hkk1⟩ := (hK.2 2 _ rfl).1 (am_N h a) (fun j => va_rf (am_B h a j))
  have n1 : (nI n).toInt = n := nI_toInt (by omega)
  have n2 : (nI sp).toInt = sp := nI_toInt (by omega)
  have n3 : (nI dp).toInt = dp := nI_toInt (by omega)
  have c1 : (nI n).toNatClampNeg = n := nI_clamp (by omega)
  have c2 : (nI sp).toNatClampNeg = sp := nI_clamp (by omega)
  have c3 : (nI dp).toNatClampNeg = dp := nI_clamp (by omega)
  obtain ⟨vm', X', step⟩ := X.arraycopy hx hown (hts _ hl) (hts _ jw_acn) (hts _ jw_acs) (hts _ jw_sys) (src := a0) (dst := a) (cs := vp_cell (ac 2) (am_N h a0, .inr (.inr (.inr (.inr (am_B h a0)))))) (cd := vp_cell (ac 2) (am_N h a, .inr (.inr (.inr (.inr (am_B h a)))))) (srcPos := nI sp) (destPos := nI dp) (n := nI n) (by rw [hT']; exact hc0) (by rw [hT']; exact hc1)
    (fun _ z => by cases z) (fun _ z => by cases z) (fun z => by cases z) (fun z => by cases z) hk0 hk1 hkk0 hkk1 rfl (nI_pos (by omega)) (nI_pos (by omega)) (nI_pos (by omega))
    (by rw [n2, n1]; show ¬ _ > ((arrV (ac 2) (am_N h a0) (fun j => va_rf (am_B h a0 j))).slots.size : Int); rw [arrV_size]; omega)
    (by rw [n3, n1]; show ¬ _ > ((arrV (ac 2) (am_N h a) (fun j => va_rf (am_B h a j))).slots.size : Int); rw [arrV_size]; omega)
    (fun vm₁ hal i hi => by
      rw [c1] at hi
      have e : (vp_cell (ac 2) (am_N h a0, .inr (.inr (.inr (.inr (am_B h a0)))))).slots.getD ((nI sp).toNatClampNeg + i) .null = va_rf (am_B h a0 (sp + i)) := by
        rw [c2]
        show (arrV (ac 2) (am_N h a0) (fun j => va_rf (am_B h a0 j))).slots.getD _ _ = _
        rw [Array.getD_eq_getD_getElem?, arrV_read _ _ (by omega)]
        rfl
      rw [e]
      cases hy : am_B h a0 (sp + i) with
      | none => exact ⟨rfl, trivial⟩
      | some y =>
        obtain ⟨cellV, g1, g2, ⟨kC, hkC⟩, hasg⟩ := am_any hK hT hR (hel i hi y hy)
        obtain ⟨kA, comp, r1, r2, r3, -⟩ := (hK.2 2 _ rfl).2
        cases hk1.symm.trans r1
        cases hkk1.symm.trans r2
        obtain ⟨kE, hkE, -⟩ := Vm.findClass_spec r3
        obtain ⟨kC', hkC', -⟩ := hal.2.2 _ _ hkC
        obtain ⟨kE', hkE', -⟩ := hal.2.2 _ _ hkE
        refine ⟨rfl, cellV, (show T.heap[y]? = some cellV by rw [hT']; exact g1), (fun q z => by rw [z] at g2; cases g2), ⟨kC', hkC'⟩, ?_, ?_⟩
        · exact ⟨kE', hkE'⟩
        · show vm₁.assignable _ _ = true
          rw [hal.assignable]
          exact hasg _ r3)
    (g := F0 m pc la (.int (nI n) :: .int (nI dp) :: .ref a :: .int (nI sp) :: .ref a0 :: st)) rfl (by rw [hml]; exact hlv.1) (rest := st) rfl (by rw [hb]; exact hd) hf (by show 2 * 0 + _ + _ ≤ _; have hlo' : (st.map fun v => v.category).sum + (nativeFrameWords "java/lang/System" "arraycopy" 5 + 11) ≤ R.locals := hlo; omega)
  have e1 : copied (vp_cell (ac 2) (am_N h a0, .inr (.inr (.inr (.inr (am_B h a0)))))) (vp_cell (ac 2) (am_N h a, .inr (.inr (.inr (.inr (am_B h a)))))) (nI sp) (nI dp) (nI n) = vp_cell (ac 2) (am_N h a, .inr (.inr (.inr (.inr (va_cpy (am_B h a0) (am_B h a) sp dp n))))) := by
    rw [vp_cell_q, vp_cell_q, vp_cell_q]
    have := va_copied (fun z => va_rf z) (ac 2) (ac 2) (n0 := am_N h a0) (n1 := am_N h a) (sp := (nI sp).toNatClampNeg) (dp := (nI dp).toNatClampNeg) (n := (nI n).toNatClampNeg) (am_B h a0) (am_B h a) (by rw [c1, c2]; exact hs1)
    rw [c1, c2, c3] at this
    unfold copied
    rw [c1, c2, c3]
    exact this
  rw [e1] at X' step
  have hl' : a < H.size := (Array.getElem?_eq_some_iff.mp hc1).1
  obtain ⟨H1, eH1⟩ : ∃ H1, H1 = H.setIfInBounds a (vp_cell (ac 2) (am_N h a, .inr (.inr (.inr (.inr (va_cpy (am_B h a0) (am_B h a) sp dp n)))))) := ⟨_, rfl⟩
  have hheap : ((T.setVm vm').setCell a (vp_cell (ac 2) (am_N h a, .inr (.inr (.inr (.inr (va_cpy (am_B h a0) (am_B h a) sp dp n))))))).heap = H1 := by rw [eH1, ← hT']; rfl
  have oq : ∀ q : Nat, q ≠ a → H1[q]? = H[q]? := fun q hq => by rw [eH1]; simp [Array.getElem?_setIfInBounds, Ne.symm hq]
  have ea : H1[a]? = some (vp_cell (ac 2) (am_N h a, .inr (.inr (.inr (.inr (va_cpy (am_B h a0) (am_B h a) sp dp n)))))) := by rw [eH1]; simp [Array.getElem?_setIfInBounds, hl']
  have hz : H1.size = H.size := by rw [eH1]; simp
  have hAin : am_W hh0 s.heap.size a := hE.in (by rw [h1]; exact ⟨by decide, by decide⟩)
  have eB : am_B (am_sBr h a (va_cpy (am_B h a0) (am_B h a) sp dp n)) a = va_cpy (am_B h a0) (am_B h a) sp dp n := funext fun i => by rw [am_B_sBr, if_pos rfl]
  obtain ⟨t, a1, b1⟩ := kk hC H1 _ la (hR.upd a (fun b hb => am_same_sBr hb) oq hz (am_at_13 (by rw [am_K_sBr]; exact h1) (by omega) (by rw [ea, am_N_sBr, eB]))) (hE.k rfl rfl) ⟨by rw [hz]; exact hS.1, fun q g1 g2 => by
      rw [oq q (fun e => g2 (by rw [e]; exact hAin))]
      exact hS.2.1 q g1 g2, fun q hq => by
      rcases List.mem_append.mp hq with z | z
      · exact hS.2.2 q z
      · obtain ⟨z, -, hz⟩ := List.mem_map.mp z
        rw [← hz]
        exact hAin⟩ hlv _ hheap X'
  exact ⟨t, step t a1, b1⟩
end JDK
