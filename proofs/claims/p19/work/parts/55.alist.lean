theorem jw_200 : Cond.constant RJ8 200 2147483639 ∈ am_WS := am_ws (i := 363) (by decide +kernel) rfl
section AL1
variable {k : am_X} {own nm : String} {cc : ByteArray} {nL : Nat} {ret : Option FieldType} {cells slots : Nat} {Q : State → Prop} {pc : Nat} {ls : List (Nat × Value)} {st : List Value} {h : am_H}
theorem g_ldc200 (hd : decode cc pc = .ok (.ldc 200, 2)) (kk : am_G k RJ8 nm cc nL ret cells slots Q (pc + 2) ls (.int (nI 2147483639) :: st) h) : am_G k RJ8 nm cc nL ret cells slots Q pc ls st h := by
  obtain ⟨p, l, e, R, s, m, args, below, meth, c, h0, D, ac, zc⟩ := k
  intro hC H locs la hR hE hS hlv
  obtain ⟨hx, hb, hml, -, -, hown, hts, hK, -⟩ := id hC
  exact lv_ldc hx hb hown (hts _ jw_200) hd (kk hC H locs la hR hE hS hlv)
theorem g_acmp_eq {x y : Option Nat} {off : Int} (tgt : Nat) (hd : decode cc pc = .ok (.if_acmp .eq off, 3)) (ht : (pc : Int) + off = (tgt : Int)) (kt : x = y → am_G k own nm cc nL ret cells slots Q tgt ls st h) (kf : ¬ x = y → am_G k own nm cc nL ret cells slots Q (pc + 3) ls st h) : am_G k own nm cc nL ret cells slots Q pc ls (va_rf y :: va_rf x :: st) h := by
  obtain ⟨p, l, e, R, s, m, args, below, meth, c, h0, D, ac, zc⟩ := k
  intro hC H locs la hR hE hS hl
  exact lv_acmp_eq hC.1 hC.2.1 hd ht (fun z => kt z hC H locs la hR hE hS hl) (fun z => kf z hC H locs la hR hE hS hl)
theorem g_alenO {a : Nat} {v : Int32} (hd : decode cc pc = .ok (.arraylength, 1)) (ha : am_K h a = 13 ∨ am_K h a = 16) (hv : nI (am_N h a) = v) (kk : am_G k own nm cc nL ret cells slots Q (pc + 1) ls (.int v :: st) h) : am_G k own nm cc nL ret cells slots Q pc ls (.ref a :: st) h := by
  rcases ha with ha | ha
  · exact g_alen hd (Or.inr ha) hv kk
  · obtain ⟨p, l, e, R, s, m, args, below, meth, c, h0, D, ac, zc⟩ := k
    intro hC H locs la hR hE hS hl
    subst hv
    have h16 := (hR a).2.2.2.2.2.2.2.1 ha
    obtain ⟨hx, hb, -, -, -, -, -, -, -, -, -, -, harr, -⟩ := id hC
    exact W.alen (n := nI (am_N h a)) hx hb h16.1 harr h16.2 rfl rfl hd (kk hC H locs la hR hE hS hl)
end AL1
/-- a contract that knows the class object of Object[] -/
def am_ConM (l : Launch) (y : MethodName) (code : Cond) (d mc ms : Nat) (av : List Value) (h : am_H) (mi : Nat) (Q : Option Value → am_H → Prop) (X : String → am_H → Prop) : Prop :=
  ∀ (D : va_G) (ac : Nat → ClassId) (zc : Cell × Cell) (sz : Nat), vx_Met l y (code :: am_WS) { frames := d, cells := mc, slots := ms, locals := 40 * d } (va_Pc av (fun U => am_Bg D ac zc h sz U ∧ va_Mi "[Ljava/lang/Object;" mi U)) (am_Qc Q h sz D ac zc) (am_Qx X h sz D ac zc) mc ms (am_W h sz)
theorem am_bodyM {l : Launch} {y : MethodName} {cc : ByteArray} {n : Nat} {ret : Option FieldType} {d mc ms mi : Nat} {av : List Value} {h : am_H} {Q : Option Value → am_H → Prop} {X : String → am_H → Prop} (hlt : l.stackTraces = false) (hy : plainName y.cls = true) (hn : (lg_sl av).length ≤ n)
    (body : ∀ k : am_X, am_kl k = l → am_kR k = { frames := d, cells := mc, slots := ms, locals := 40 * d } → am_k0 k = h → am_noX k → am_kM k mi → am_G k y.cls y.name cc n ret 0 0 (am_Q k mc ms Q X) 0 (lv_args 0 av) [] h) : am_ConM l y (.code y cc n ret) d mc ms av h mi Q X := by
  intro D ac zc sz
  refine vx_ofW (cc := cc) (maxL := n) (ret := ret) hy rfl ?_
  intro p e s m args below meth c s₁ B hml hno hv
  obtain ⟨rfl, ⟨hsz, hR, hK, hZ, hT, h16, h17, hu⟩, hM⟩ := hv
  subst hsz
  have hl := lv_entry av hn
  rw [lg_entry_eq]
  have hts := atoms_spec (ws := Cond.code y cc n ret :: am_WS) B.pre
  exact body (p, l, e, _, s, m, _, below, meth, c, h, D, ac, zc) rfl rfl rfl hno hM ⟨B.exec, B.bytes, hml, B.returns, B.notSynchronized, findClass_of_methodNamed B.named, fun w hw => hts w (List.mem_cons_of_mem _ hw), hK, hlt, hZ, (name_of_methodNamed B.named B.method).1, hT, h16, h17, hu⟩ s.heap [] _ hR am_Ext.rf va_S.rf hl
theorem am_blindM {D : va_G} {ac : Nat → ClassId} {zc : Cell × Cell} {h : am_H} {sz mi : Nat} {av : List Value} : FrameBlind (va_Pc av (fun U => am_Bg D ac zc h sz U ∧ va_Mi "[Ljava/lang/Object;" mi U)) := by
  intro a U g mk hp
  obtain ⟨h1, h2, h3⟩ := hp
  have hb := am_blind (av := av) a U g mk ⟨h1, h2⟩
  exact ⟨hb.1, hb.2, va_Mi.moved (u := U) (U := U.calling g mk a) (Vm.Alike.refl U.vm) h3⟩
theorem g_callSM {k : am_X} {own nm : String} {cc : ByteArray} {nL : Nat} {ret : Option FieldType} {cells slots : Nat} {Q : State → Prop} {pc : Nat} {ls : List (Nat × Value)} {st : List Value} {h : am_H} {index maxL n d mc1 ms1 mi : Nat} {y : MethodName} {bytes : ByteArray} {r : Option FieldType} {Q1 : Option Value → am_H → Prop} {X1 : String → am_H → Prop} (As : List Value) (hd : decode cc pc = .ok (.invokestatic index, 3)) (hm : am_mc own index y bytes maxL r n) (hi : Cond.static y ∈ am_WS) (hM : am_kM k mi)
    (hcon : am_ConM (am_kl k) y (.code y bytes maxL r) d mc1 ms1 As h mi Q1 X1) (hn : As.length = n) (hW : (st.map fun v => v.category).sum ≤ 8) (hro : am_room (am_kR k) cells slots d mc1 maxL ms1) (hx : ∀ E h', ¬ X1 E h')
    (kk : ∀ v h', Q1 v h' → am_Ext h h' 0 → am_G k own nm cc nL ret (cells + mc1) (slots + ms1) Q (pc + 3) ls (v.toList ++ st) h') : am_G k own nm cc nL ret cells slots Q pc ls (As.reverse ++ st) h := by
  obtain ⟨p, l, e, R, s, m, args, below, meth, c, h0, D, ac, zc⟩ := k
  intro hC H locs la hR hE hS hl
  have hC' := id hC
  obtain ⟨hx', hbb, hml, -, -, hown, hts, hK, -⟩ := hC'
  exact am_back hC hE hS hl (vx_runS ⟨hx', hbb, hml, hown, hts⟩ (hcon D ac zc H.size) ⟨am_callB hts hm hro, hts _ hi⟩ ⟨am_blindM, fun U hU hW' => ⟨rfl, am_pre hC hR hE hS hU hW', va_Mi.moved hW'.alike hM⟩⟩ rfl hn hl.1 rfl (by simpa [JFrame.monitorRoom, F0] using hW) hd ⟨hro.2.2.1, hro.2.2.2⟩) hx (fun v h' hv hE' => kk v h' hv (fun a => ⟨(hE' a).1, fun z y => ⟨Nat.zero_le _, ((hE' a).2 z y).2⟩⟩))
theorem sh1_100 : ∀ m, m < 101 → nI m >>> ((1 : Int32) &&& 31) = nI (m / 2) := by decide +kernel
theorem max_nI {a b : Nat} (ha : a < 2 ^ 31) (hb : b < 2 ^ 31) : (if nI a < nI b then nI b else nI a) = nI (max a b) := by
  by_cases c : a < b
  · rw [if_pos ((nI_ltI ha hb).mpr c), Nat.max_eq_right (Nat.le_of_lt c)]
  · rw [if_neg (fun z => c ((nI_ltI ha hb).mp z)), Nat.max_eq_left (Nat.not_lt.mp c)]
theorem min_nI {a b : Nat} (ha : a < 2 ^ 31) (hb : b < 2 ^ 31) : (if nI b < nI a then nI b else nI a) = nI (min a b) := by
  by_cases c : b < a
  · rw [if_pos ((nI_ltI hb ha).mpr c), Nat.min_eq_right (Nat.le_of_lt c)]
  · rw [if_neg (fun z => c ((nI_ltI hb ha).mp z)), Nat.min_eq_left (Nat.not_lt.mp c)]
set_option maxRecDepth 100000 in
set_option maxHeartbeats 4000000 in
theorem c_newLength {l : Launch} (hlt : l.stackTraces = false) {h : am_H} {a b c : Nat} (ha : a ≤ 100) (hb : b ≤ 100) (hc : c ≤ 100) (h0 : 0 < a + max b c) : am_Con l yJ8_newLength_cabcc (.code yJ8_newLength_cabcc cJ8_newLength_cabcc 4 (some .int)) 3 0 0 [.int (nI a), .int (nI b), .int (nI c)] h (fun v h' => v = some (.int (nI (a + max b c))) ∧ h' = h) (fun _ _ => False) := by
  refine am_body hlt (by decide +kernel) (Nat.le_of_ble_eq_true rfl) (fun k hl hR h0 hno => ?_)
  subst hl
  obtain ⟨Qf, hQ⟩ : ∃ Qf, Qf = am_Q k 0 0 (fun v h' => v = some (.int (nI (a + max b c))) ∧ h' = h) (fun _ _ => False) := ⟨_, rfl⟩
  rw [← hQ]
  refine g_iload_n dJ8_newLength_cabcc_0 rfl ?_
  refine g_iload_n dJ8_newLength_cabcc_1 rfl ?_
  refine g_iload_n dJ8_newLength_cabcc_2 rfl ?_
  refine g_max dJ8_newLength_cabcc_3 ml_JS_194 ms_max ini_Math mcode_max (by rw [hR]; decide) (by rw [hR]; exact Nat.le_of_ble_eq_true rfl) (by rw [hR]; decide) (by rw [hR]; first | decide | (show _ ≤ 100; omega)) ?_
  rw [max_nI (by omega) (by omega)]
  refine g_iadd dJ8_newLength_cabcc_6 ?_
  rw [nI_add]
  refine g_istore_n dJ8_newLength_cabcc_7 (by decide) rfl ?_
  refine g_iconst (v := nI 0) dJ8_newLength_cabcc_8 (by decide) ?_
  refine g_iload_n dJ8_newLength_cabcc_9 rfl ?_
  refine gN_ge 21 dJ8_newLength_cabcc_10 (by decide) (by omega) (by omega) (fun z => absurd z (by omega)) (fun c_10 => ?_)
  refine g_iload_n dJ8_newLength_cabcc_13 rfl ?_
  refine g_ldc200 dJ8_newLength_cabcc_14 ?_
  refine gN_gt 21 dJ8_newLength_cabcc_16 (by decide) (by omega) (by omega) (fun z => absurd z (by omega)) (fun c_16 => ?_)
  refine g_iload_n dJ8_newLength_cabcc_19 rfl ?_
  rw [hQ]
  refine g_iret dJ8_newLength_cabcc_20 rfl rfl (by decide) (by decide) ?_
  exact ⟨rfl, rfl⟩
set_option maxRecDepth 100000 in
set_option maxHeartbeats 4000000 in
theorem c_copyOfM {l : Launch} (hlt : l.stackTraces = false) {h : am_H} {b c mi : Nat} (hk : am_K h b = 13) (hn : am_N h b ≤ 50) (hc : c ≤ 100) (hnc : am_N h b ≤ c) (hel : ∀ i, i < am_N h b → ∀ y, am_B h b i = some y → am_K h y = 2 ∨ am_K h y = 4) : am_ConM l yJ7_copyOf_6403c (.code yJ7_copyOf_6403c cJ7_copyOf_6403c 4 (some (.array (.object "java/lang/Object")))) 2 1 100 [.ref b, .int (nI c), .ref mi] h mi (fun v h' => ∃ (b' : Nat) (f : Nat → Option Nat), v = some (.ref b') ∧ am_K h b' = 0 ∧ (∀ i, i < am_N h b → f i = am_B h b i) ∧ h' = am_sBr (am_nw h b' 13 c) b' f) (fun _ _ => False) := by
  refine am_bodyM hlt (by decide +kernel) (Nat.le_of_ble_eq_true rfl) (fun k hl hR h0 hno hM => ?_)
  subst hl
  obtain ⟨Qf, hQ⟩ : ∃ Qf, Qf = am_Q k 1 100 (fun v h' => ∃ (b' : Nat) (f : Nat → Option Nat), v = some (.ref b') ∧ am_K h b' = 0 ∧ (∀ i, i < am_N h b → f i = am_B h b i) ∧ h' = am_sBr (am_nw h b' 13 c) b' f) (fun _ _ => False) := ⟨_, rfl⟩
  rw [← hQ]
  refine g_aload_n dJ7_copyOf_6403c_0 rfl ?_
  refine g_ldcM hM dJ7_copyOf_6403c_1 ?_
  refine g_acmp_ne (x := some mi) (y := some mi) 13 dJ7_copyOf_6403c_3 (by decide) (fun z => absurd rfl z) (fun _ => ?_)
  refine g_iload_n dJ7_copyOf_6403c_6 rfl ?_
  refine g_newO (N := c) dJ7_copyOf_6403c_7 kl_JA_2 (nI_pos (by omega)) (nI_clamp (by omega)) (by omega) (by rw [hR]; exact Nat.le_of_ble_eq_true rfl) (by rw [hR]; show 0 + c ≤ 100; omega) (fun b' hb9 => ?_)
  have hb' := am_new0 hb9
  have hne : b ≠ b' := fun z => by rw [z, hb'] at hk; cases hk
  have hkb : am_K (am_nw h b' 13 c) b = 13 := by rw [am_K_nw, if_neg hne]; exact hk
  have hnb : am_N (am_nw h b' 13 c) b = am_N h b := by rw [am_N_nw, if_neg hne]
  have hkb2 : am_K (am_nw h b' 13 c) b' = 13 := by rw [am_K_nw, if_pos rfl]
  have hnb2 : am_N (am_nw h b' 13 c) b' = c := by rw [am_N_nw, if_pos rfl]
  refine g_goto 24 dJ7_copyOf_6403c_10 (by decide) ?_
  refine g_astore_n dJ7_copyOf_6403c_24 (by decide) rfl ?_
  refine g_aload_n dJ7_copyOf_6403c_25 rfl ?_
  refine g_iconst (v := nI 0) dJ7_copyOf_6403c_26 (by decide) ?_
  refine g_aload_n dJ7_copyOf_6403c_27 rfl ?_
  refine g_iconst (v := nI 0) dJ7_copyOf_6403c_28 (by decide) ?_
  refine g_aload_n dJ7_copyOf_6403c_29 rfl ?_
  refine g_alen dJ7_copyOf_6403c_30 (Or.inr hkb) (by rw [hnb]) ?_
  refine g_iload_n dJ7_copyOf_6403c_31 rfl ?_
  refine g_min dJ7_copyOf_6403c_32 ml_JA_304 ms_min ini_Math mcode_min (by rw [hR]; decide) (by rw [hR]; exact Nat.le_of_ble_eq_true rfl) (by rw [hR]; decide) (by rw [hR]; first | decide | (show _ ≤ 100; omega)) ?_
  rw [min_nI (by omega) (by omega), Nat.min_eq_left hnc]
  refine g_copyB dJ7_copyOf_6403c_35 jw_150 hkb hkb2 (by rw [hnb]; omega) (by rw [hnb2]; omega) (by rw [hnb]; omega) (by rw [hnb2]; omega) (fun i hi y hy => ?_) (by rw [hR]; exact Nat.le_of_ble_eq_true rfl) (by rw [hR]; exact Nat.le_of_ble_eq_true rfl) ?_
  · rw [am_B_nw, if_neg hne, Nat.zero_add] at hy
    have hq := hel i hi y hy
    have hy2 : y ≠ b' := fun z => by rw [z, hb'] at hq; rcases hq with q | q <;> cases q
    rw [am_K_nw, if_neg hy2]
    exact hq
  refine g_aload_n dJ7_copyOf_6403c_38 rfl ?_
  rw [hQ]
  refine g_aret (r := some b') dJ7_copyOf_6403c_39 rfl (Or.inr ⟨_, rfl⟩) (by decide) (by show 0 + c ≤ 100; omega) ⟨b', _, rfl, hb', fun i hi => ?_, rfl⟩
  rw [show am_B (am_nw h b' 13 c) b = am_B h b from funext fun j => by rw [am_B_nw, if_neg hne]]
  unfold va_cpy
  rw [if_pos (by omega)]
  simp
set_option maxRecDepth 100000 in
set_option maxHeartbeats 4000000 in
theorem c_copyOf {l : Launch} (hlt : l.stackTraces = false) {h : am_H} {b c : Nat} (hk : am_K h b = 13) (hn : am_N h b ≤ 50) (hc : c ≤ 100) (hnc : am_N h b ≤ c) (hel : ∀ i, i < am_N h b → ∀ y, am_B h b i = some y → am_K h y = 2 ∨ am_K h y = 4) : am_Con l yJ7_copyOf_1904c (.code yJ7_copyOf_1904c cJ7_copyOf_1904c 2 (some (.array (.object "java/lang/Object")))) 3 1 100 [.ref b, .int (nI c)] h (fun v h' => ∃ (b' : Nat) (f : Nat → Option Nat), v = some (.ref b') ∧ am_K h b' = 0 ∧ (∀ i, i < am_N h b → f i = am_B h b i) ∧ h' = am_sBr (am_nw h b' 13 c) b' f) (fun _ _ => False) := by
  refine am_body hlt (by decide +kernel) (Nat.le_of_ble_eq_true rfl) (fun k hl hR h0 hno => ?_)
  subst hl
  obtain ⟨Qf, hQ⟩ : ∃ Qf, Qf = am_Q k 1 100 (fun v h' => ∃ (b' : Nat) (f : Nat → Option Nat), v = some (.ref b') ∧ am_K h b' = 0 ∧ (∀ i, i < am_N h b → f i = am_B h b i) ∧ h' = am_sBr (am_nw h b' 13 c) b' f) (fun _ _ => False) := ⟨_, rfl⟩
  rw [← hQ]
  refine g_aload_n dJ7_copyOf_1904c_0 rfl ?_
  refine g_iload_n dJ7_copyOf_1904c_1 rfl ?_
  refine g_aload_n dJ7_copyOf_1904c_2 rfl ?_
  refine g_getC dJ7_copyOf_1904c_3 hk (by rw [hR]; exact Nat.le_of_ble_eq_true rfl) (by rw [hR]; exact Nat.le_of_ble_eq_true rfl) (fun mi hM => ?_)
  refine g_callSM [_, _, _] dJ7_copyOf_1904c_6 mc_JA_300 ms_J7_copyOf_6403c hM (c_copyOfM hlt hk hn hc hnc hel) rfl (Nat.le_of_ble_eq_true rfl) (am_rm hR (by decide)) (fun _ _ z => z) (fun v hx hq hE => ?_)
  obtain ⟨b', f, rfl, q1, q2, rfl⟩ := hq
  rw [hQ]
  exact g_aret (r := some b') dJ7_copyOf_1904c_9 rfl (Or.inr ⟨_, rfl⟩) (by decide) (by decide) ⟨b', f, rfl, q1, q2, rfl⟩
