theorem cw_X0 : Cond.code yX0_init cX0_init 1 none ∈ am_WS := am_ws (i := 264) (by decide +kernel) rfl
theorem cw_X2 : Cond.code yX2_init cX2_init 1 none ∈ am_WS := am_ws (i := 88) (by decide +kernel) rfl
theorem mi_X0_init : Cond.instanceMethod yX0_init ∈ am_WS := am_ws (i := 263) (by decide +kernel) rfl
theorem mi_X2_init : Cond.instanceMethod yX2_init ∈ am_WS := am_ws (i := 87) (by decide +kernel) rfl
section MKN
variable {k : am_X} {own nm : String} {cc : ByteArray} {nL : Nat} {ret : Option FieldType} {cells slots : Nat} {Q : State → Prop} {pc : Nat} {ls : List (Nat × Value)} {st : List Value} {h : am_H}
/-- a private constructor of a nest mate -/
theorem g_callIN {index maxL n d mc1 ms1 b : Nat} {host : String} {y : MethodName} {bytes : ByteArray} {Q1 : Option Value → am_H → Prop} {X1 : String → am_H → Prop} (As : List Value) (hd : decode cc pc = .ok (.invokespecial index, 3)) (hN : ∀ U, am_T U → va_Nw (.methodLinkNest own index y host) U) (hcw : Cond.code y bytes maxL none ∈ am_WS) (hiw : Cond.initialized y.cls ∈ am_WS) (hmh : y.cls ≠ "java/lang/invoke/MethodHandle" ∧ y.cls ≠ "java/lang/invoke/VarHandle") (hds : (parseMethodDescriptor y.desc).map (fun d => d.parameters.length) = some n) (hi : Cond.instanceMethod y ∈ am_WS) (hy : y.name = "<init>")
    (hcon : am_Con (am_kl k) y (.code y bytes maxL none) d mc1 ms1 (.ref b :: As) h Q1 X1) (hn : As.length = n) (hW : (st.map fun v => v.category).sum ≤ 8) (hro : am_room (am_kR k) cells slots d mc1 maxL ms1) (hx : ∀ E h', ¬ X1 E h')
    (kk : ∀ v h', Q1 v h' → am_Ext h h' 0 → am_G k own nm cc nL ret (cells + mc1) (slots + ms1) Q (pc + 3) ls (v.toList ++ st) h') : am_G k own nm cc nL ret cells slots Q pc ls (As.reverse ++ .ref b :: st) h := by
  obtain ⟨p, l, e, R, s, m, args, below, meth, c, h0, D, ac, zc⟩ := k
  intro hC H locs la hR hE hS hl
  have hC' := id hC
  obtain ⟨hx', hbb, hml, -, -, hown, hts, hK, -, -, -, hT, -⟩ := hC'
  exact am_back hC hE hS hl (vx_runIN ⟨hx', hbb, hml, hown, hts⟩ (hcon D ac zc H.size) ⟨va_cnB n hts (am_good hcw) rfl rfl rfl (hN s hT) (hts _ hiw) ⟨hmh.1, hmh.2, hds⟩ ⟨hro.1, hro.2.1⟩, hy, hts _ hi⟩ ⟨am_blind, fun U hU hW' => ⟨rfl, am_pre hC hR hE hS hU hW'⟩⟩ rfl hn hl.1 rfl (by simpa [JFrame.monitorRoom, F0] using hW) hd ⟨hro.2.2.1, hro.2.2.2⟩) hx (fun v h' hv hE' => kk v h' hv (fun a => ⟨(hE' a).1, fun z y => ⟨Nat.zero_le _, ((hE' a).2 z y).2⟩⟩))
end MKN
set_option maxRecDepth 100000 in
set_option maxHeartbeats 4000000 in
theorem c_X0_init {l : Launch} (hlt : l.stackTraces = false) {h : am_H} {a : Nat} (hk : am_K h a = 0 + 1) : am_Con l yX0_init (.code yX0_init cX0_init 1 none) 2 0 0 [.ref a] h (fun v h' => v = none ∧ h' = am_sI (am_sI (am_sI (am_sI h 0 a 0) 1 a 0) 2 a 0) 3 a 0) (fun _ _ => False) := by
  refine am_body hlt (by decide +kernel) (Nat.le_of_ble_eq_true rfl) (fun k hl hR h0 hno => ?_)
  subst hl
  obtain ⟨Qf, hQ⟩ : ∃ Qf, Qf = am_Q k 0 0 (fun v h' => v = none ∧ h' = am_sI (am_sI (am_sI (am_sI h 0 a 0) 1 a 0) 2 a 0) 3 a 0) (fun _ _ => False) := ⟨_, rfl⟩
  rw [← hQ]
  refine g_aload_n dX0_init_0 rfl ?_
  refine g_objInit dX0_init_1 oi_X0 oi_i oi_c (by rw [hR]; exact Nat.le_of_ble_eq_true rfl) (by rw [hR]; exact Nat.le_of_ble_eq_true rfl) ?_
  refine g_aload_n dX0_init_4 rfl ?_
  refine g_iconst (v := 0) dX0_init_5 (by decide) ?_
  refine g_putI dX0_init_6 fl_X0_7 rfl (fun q hq => by cases hq; first | exact Or.inl rfl | exact Or.inr ⟨rfl, rfl, rfl⟩) hk rfl rfl ?_
  refine g_aload_n dX0_init_9 rfl ?_
  refine g_iconst (v := 0) dX0_init_10 (by decide) ?_
  refine g_putI dX0_init_11 fl_X0_13 rfl (fun q hq => by cases hq; first | exact Or.inl rfl | exact Or.inr ⟨rfl, rfl, rfl⟩) hk rfl rfl ?_
  refine g_aload_n dX0_init_14 rfl ?_
  refine g_iconst (v := 0) dX0_init_15 (by decide) ?_
  refine g_putI dX0_init_16 fl_X0_17 rfl (fun q hq => by cases hq; first | exact Or.inl rfl | exact Or.inr ⟨rfl, rfl, rfl⟩) hk rfl rfl ?_
  refine g_aload_n dX0_init_19 rfl ?_
  refine g_iconst (v := 0) dX0_init_20 (by decide) ?_
  refine g_putI dX0_init_21 fl_X0_20 rfl (fun q hq => by cases hq; first | exact Or.inl rfl | exact Or.inr ⟨rfl, rfl, rfl⟩) hk rfl rfl ?_
  rw [hQ]
  refine g_vret dX0_init_24 rfl (by decide) (by decide) ?_
  exact ⟨rfl, rfl⟩
set_option maxRecDepth 100000 in
set_option maxHeartbeats 4000000 in
theorem c_X3_init {l : Launch} (hlt : l.stackTraces = false) {h : am_H} {a : Nat} (hk : am_K h a = 3 + 1) {f t l1 : Int32} : am_Con l yX3_init (.code yX3_init cX3_init 4 none) 2 0 0 [.ref a, .int f, .int t, .int l1] h (fun v h' => v = none ∧ h' = am_sI (am_sI (am_sI (am_sI h 303 a 0) 300 a f) 301 a t) 302 a l1) (fun _ _ => False) := by
  refine am_body hlt (by decide +kernel) (Nat.le_of_ble_eq_true rfl) (fun k hl hR h0 hno => ?_)
  subst hl
  obtain ⟨Qf, hQ⟩ : ∃ Qf, Qf = am_Q k 0 0 (fun v h' => v = none ∧ h' = am_sI (am_sI (am_sI (am_sI h 303 a 0) 300 a f) 301 a t) 302 a l1) (fun _ _ => False) := ⟨_, rfl⟩
  rw [← hQ]
  refine g_aload_n dX3_init_0 rfl ?_
  refine g_objInit dX3_init_1 oi_X3 oi_i oi_c (by rw [hR]; exact Nat.le_of_ble_eq_true rfl) (by rw [hR]; exact Nat.le_of_ble_eq_true rfl) ?_
  refine g_aload_n dX3_init_4 rfl ?_
  refine g_iconst (v := 0) dX3_init_5 (by decide) ?_
  refine g_putI dX3_init_6 fl_X3_7 rfl (fun q hq => by cases hq; first | exact Or.inl rfl | exact Or.inr ⟨rfl, rfl, rfl⟩) hk rfl rfl ?_
  refine g_aload_n dX3_init_9 rfl ?_
  refine g_iload_n dX3_init_10 rfl ?_
  refine g_putI dX3_init_11 fl_X3_13 rfl (fun q hq => by cases hq; first | exact Or.inl rfl | exact Or.inr ⟨rfl, rfl, rfl⟩) hk rfl rfl ?_
  refine g_aload_n dX3_init_14 rfl ?_
  refine g_iload_n dX3_init_15 rfl ?_
  refine g_putI dX3_init_16 fl_X3_17 rfl (fun q hq => by cases hq; first | exact Or.inl rfl | exact Or.inr ⟨rfl, rfl, rfl⟩) hk rfl rfl ?_
  refine g_aload_n dX3_init_19 rfl ?_
  refine g_iload_n dX3_init_20 rfl ?_
  refine g_putI dX3_init_21 fl_X3_20 rfl (fun q hq => by cases hq; first | exact Or.inl rfl | exact Or.inr ⟨rfl, rfl, rfl⟩) hk rfl rfl ?_
  rw [hQ]
  refine g_vret dX3_init_24 rfl (by decide) (by decide) ?_
  exact ⟨rfl, rfl⟩
def hB0 (h : am_H) (s : Nat) : am_H := am_sI (am_sI (am_sI (am_sI (am_nw h s 1 0) 0 s 0) 1 s 0) 2 s 0) 3 s 0
def hD1 (h : am_H) (a s : Nat) : am_H := am_sR (hB0 (am_sI h 103 a 0) s) 104 a (some s)
def hD2 (h : am_H) (a s b : Nat) : am_H := am_sR (hB0 (hD1 h a s) b) 105 a (some b)
def hD (h : am_H) (a s b : Nat) (i t e : Int32) : am_H := am_sI (am_sI (am_sI (am_sI (am_sI (am_sI (am_sI (am_sI (am_sI (am_sI (am_sI (hD2 h a s b) 106 a 0) 107 a 0) 108 a 0) 109 a 0) 110 a 0) 111 a 0) 112 a 0) 113 a 0) 100 a i) 101 a t) 102 a e
set_option maxRecDepth 100000 in
set_option maxHeartbeats 4000000 in
theorem c_X1_init {l : Launch} (hlt : l.stackTraces = false) {h : am_H} {a : Nat} (hk : am_K h a = 1 + 1) {i t e : Int32} : am_Con l yX1_init (.code yX1_init cX1_init 4 none) 4 2 8 [.ref a, .int i, .int t, .int e] h (fun v h' => v = none ∧ ∃ s b : Nat, am_K h s = 0 ∧ am_K h b = 0 ∧ s ≠ a ∧ b ≠ a ∧ s ≠ b ∧ h' = hD h a s b (i + 1) t e) (fun _ _ => False) := by
  refine am_body hlt (by decide +kernel) (Nat.le_of_ble_eq_true rfl) (fun k hl hR h0 hno => ?_)
  subst hl
  obtain ⟨Qf, hQ⟩ : ∃ Qf, Qf = am_Q k 2 8 (fun v h' => v = none ∧ ∃ s b : Nat, am_K h s = 0 ∧ am_K h b = 0 ∧ s ≠ a ∧ b ≠ a ∧ s ≠ b ∧ h' = hD h a s b (i + 1) t e) (fun _ _ => False) := ⟨_, rfl⟩
  rw [← hQ]
  refine g_aload_n dX1_init_0 rfl ?_
  refine g_objInit dX1_init_1 oi_X1 oi_i oi_c (by rw [hR]; exact Nat.le_of_ble_eq_true rfl) (by rw [hR]; exact Nat.le_of_ble_eq_true rfl) ?_
  refine g_aload_n dX1_init_4 rfl ?_
  refine g_iconst (v := 0) dX1_init_5 (by decide) ?_
  refine g_putI dX1_init_6 fl_X1_7 rfl (fun q hq => by cases hq; first | exact Or.inl rfl | exact Or.inr ⟨rfl, rfl, rfl⟩) hk rfl rfl ?_
  refine g_aload_n dX1_init_9 rfl ?_
  refine g_new dX1_init_10 cl_X0 kl_X1_13 (by rw [hR]; exact Nat.le_of_ble_eq_true rfl) (by rw [hR]; exact Nat.le_of_ble_eq_true rfl) (fun s hs9 => ?_)
  have hs0 : am_K h s = 0 := am_new0 hs9
  have hsa : s ≠ a := fun z => by rw [z, hk] at hs0; cases hs0
  refine g_dup dX1_init_13 rfl ?_
  refine g_callIN [] dX1_init_14 (fun U hU => hU.2.2.1) cw_X0 cl_X0.2.2.2.2.2 (by decide) rfl mi_X0_init rfl (c_X0_init hlt (by rw [am_K_nw, if_pos rfl])) rfl (Nat.le_of_ble_eq_true rfl) (am_rm hR (by decide)) (fun _ _ z => z) (fun v1 hx1 hq hE => ?_)
  obtain ⟨rfl, rfl⟩ := hq
  refine g_putRs dX1_init_17 fl_X1_16 rfl (fun q hq => by cases hq; first | exact Or.inl rfl | exact Or.inr ⟨rfl, rfl, rfl⟩) (by show am_K (am_nw (am_sI h 103 a 0) s 1 0) a = 1 + 1; rw [am_K_nw, if_neg (fun z => hsa z.symm)]; exact hk) rfl rfl ?_
  have hk1 : am_K (hD1 h a s) a = 1 + 1 := (by show am_K (am_nw (am_sI h 103 a 0) s 1 0) a = 1 + 1; rw [am_K_nw, if_neg (fun z => hsa z.symm)]; exact hk)
  refine g_aload_n dX1_init_20 rfl ?_
  refine g_new dX1_init_21 cl_X0 kl_X1_13 (by rw [hR]; exact Nat.le_of_ble_eq_true rfl) (by rw [hR]; exact Nat.le_of_ble_eq_true rfl) (fun b hb9 => ?_)
  have hb1 : am_K (hD1 h a s) b = 0 := am_new0 hb9
  have hba : b ≠ a := fun z => by rw [z, hk1] at hb1; cases hb1
  have hbs : s ≠ b := fun z => by rw [← z] at hb1; rw [show am_K (hD1 h a s) s = 1 from by show am_K (am_nw (am_sI h 103 a 0) s 1 0) s = 1; rw [am_K_nw, if_pos rfl]] at hb1; cases hb1
  have hb0 : am_K h b = 0 := by
    have z : am_K (am_nw (am_sI h 103 a 0) s 1 0) b = 0 := hb1
    rw [am_K_nw, if_neg (fun q => hbs q.symm)] at z
    exact z
  refine g_dup dX1_init_24 rfl ?_
  refine g_callIN [] dX1_init_25 (fun U hU => hU.2.2.1) cw_X0 cl_X0.2.2.2.2.2 (by decide) rfl mi_X0_init rfl (c_X0_init hlt (by rw [am_K_nw, if_pos rfl])) rfl (Nat.le_of_ble_eq_true rfl) (am_rm hR (by decide)) (fun _ _ z => z) (fun v1 hx1 hq hE => ?_)
  obtain ⟨rfl, rfl⟩ := hq
  refine g_putRs dX1_init_28 fl_X1_20 rfl (fun q hq => by cases hq; first | exact Or.inl rfl | exact Or.inr ⟨rfl, rfl, rfl⟩) (by show am_K (am_nw (hD1 h a s) b 1 0) a = 1 + 1; rw [am_K_nw, if_neg (fun z => hba z.symm)]; exact hk1) rfl rfl ?_
  have hk2 : am_K (hD2 h a s b) a = 1 + 1 := (by show am_K (am_nw (hD1 h a s) b 1 0) a = 1 + 1; rw [am_K_nw, if_neg (fun z => hba z.symm)]; exact hk1)
  refine g_aload_n dX1_init_31 rfl ?_
  refine g_iconst (v := 0) dX1_init_32 (by decide) ?_
  refine g_putI dX1_init_33 fl_X1_23 rfl (fun q hq => by cases hq; first | exact Or.inl rfl | exact Or.inr ⟨rfl, rfl, rfl⟩) hk2 rfl rfl ?_
  refine g_aload_n dX1_init_36 rfl ?_
  refine g_iconst (v := 0) dX1_init_37 (by decide) ?_
  refine g_putI dX1_init_38 fl_X1_27 rfl (fun q hq => by cases hq; first | exact Or.inl rfl | exact Or.inr ⟨rfl, rfl, rfl⟩) hk2 rfl rfl ?_
  refine g_aload_n dX1_init_41 rfl ?_
  refine g_iconst (v := 0) dX1_init_42 (by decide) ?_
  refine g_putI dX1_init_43 fl_X1_30 rfl (fun q hq => by cases hq; first | exact Or.inl rfl | exact Or.inr ⟨rfl, rfl, rfl⟩) hk2 rfl rfl ?_
  refine g_aload_n dX1_init_46 rfl ?_
  refine g_iconst (v := 0) dX1_init_47 (by decide) ?_
  refine g_putI dX1_init_48 fl_X1_33 rfl (fun q hq => by cases hq; first | exact Or.inl rfl | exact Or.inr ⟨rfl, rfl, rfl⟩) hk2 rfl rfl ?_
  refine g_aload_n dX1_init_51 rfl ?_
  refine g_iconst (v := 0) dX1_init_52 (by decide) ?_
  refine g_putI dX1_init_53 fl_X1_36 rfl (fun q hq => by cases hq; first | exact Or.inl rfl | exact Or.inr ⟨rfl, rfl, rfl⟩) hk2 rfl rfl ?_
  refine g_aload_n dX1_init_56 rfl ?_
  refine g_iconst (v := 0) dX1_init_57 (by decide) ?_
  refine g_putI dX1_init_58 fl_X1_39 rfl (fun q hq => by cases hq; first | exact Or.inl rfl | exact Or.inr ⟨rfl, rfl, rfl⟩) hk2 rfl rfl ?_
  refine g_aload_n dX1_init_61 rfl ?_
  refine g_iconst (v := 0) dX1_init_62 (by decide) ?_
  refine g_putI dX1_init_63 fl_X1_42 rfl (fun q hq => by cases hq; first | exact Or.inl rfl | exact Or.inr ⟨rfl, rfl, rfl⟩) hk2 rfl rfl ?_
  refine g_aload_n dX1_init_66 rfl ?_
  refine g_iconst (v := 0) dX1_init_67 (by decide) ?_
  refine g_putI dX1_init_68 fl_X1_45 rfl (fun q hq => by cases hq; first | exact Or.inl rfl | exact Or.inr ⟨rfl, rfl, rfl⟩) hk2 rfl rfl ?_
  refine g_aload_n dX1_init_71 rfl ?_
  refine g_iload_n dX1_init_72 rfl ?_
  refine g_iconst (v := 1) dX1_init_73 (by decide) ?_
  refine g_iadd dX1_init_74 ?_
  refine g_putI dX1_init_75 fl_X1_48 rfl (fun q hq => by cases hq; first | exact Or.inl rfl | exact Or.inr ⟨rfl, rfl, rfl⟩) hk2 rfl rfl ?_
  refine g_aload_n dX1_init_78 rfl ?_
  refine g_iload_n dX1_init_79 rfl ?_
  refine g_putI dX1_init_80 fl_X1_51 rfl (fun q hq => by cases hq; first | exact Or.inl rfl | exact Or.inr ⟨rfl, rfl, rfl⟩) hk2 rfl rfl ?_
  refine g_aload_n dX1_init_83 rfl ?_
  refine g_iload_n dX1_init_84 rfl ?_
  refine g_putI dX1_init_85 fl_X1_54 rfl (fun q hq => by cases hq; first | exact Or.inl rfl | exact Or.inr ⟨rfl, rfl, rfl⟩) hk2 rfl rfl ?_
  rw [hQ]
  refine g_vret dX1_init_88 rfl (by decide) (by decide) ?_
  exact ⟨rfl, s, b, hs0, hb0, hsa, hba, hbs, rfl⟩
