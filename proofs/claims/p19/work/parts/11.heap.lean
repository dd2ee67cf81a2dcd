/-- the instruction at 'index' of class own speaks of field kf of class ci, whose number is f -/
def am_fl (own : String) (index ci kf f : Nat) : Prop := f = 100 * ci + kf ∧ ∃ (q : vw_C) (ref : String), am_C[ci]? = some q ∧ kf < q.2.2 ∧ (∀ w ∈ u_ws q.1 q.2.1 q.2.2, w ∈ am_WS) ∧ (∀ k, k < q.2.2 → parseFieldDescriptor (q.2.1 k).2.2.1 = some (am_ty ci k)) ∧ (∀ a, a < q.2.2 → ∀ b, b < q.2.2 → a ≠ b → (q.2.1 a).2.1 ≠ (q.2.1 b).2.1) ∧
  Cond.fieldLink own index ref (q.2.1 kf).2.1 (q.2.1 kf).2.2.1 ∈ am_WS ∧ (ref = (q.2.1 kf).1 ∨ Cond.sameField ref (q.2.1 kf).1 (q.2.1 kf).2.1 (q.2.1 kf).2.2.1 ∈ am_WS)
theorem am_lt7 {ci : Nat} {q : vw_C} (h : am_C[ci]? = some q) : ci < 7 := (List.getElem?_eq_some_iff.mp h).1
theorem am_Rep.upd {D : va_G} {ac : Nat → ClassId} {zc : Cell × Cell} {h h' : am_H} {H H' : Heap} (hR : am_Rep D ac zc h H) (a : Nat) (hs : ∀ b, b ≠ a → am_same h h' b) (e3 : ∀ q : Nat, q ≠ a → H'[q]? = H[q]?) (z : H'.size = H.size) (ha : am_at D ac zc h' H' a) : am_Rep D ac zc h' H' := by
  intro b
  by_cases e : b = a
  · rw [e]; exact ha
  · exact (hR b).kept (hs b e) (e3 b e) (by rw [z]; exact Nat.le_refl _)
theorem am_same.rf {h : am_H} {b : Nat} : am_same h h b := ⟨rfl, rfl, fun _ => rfl, fun _ => rfl, rfl, rfl, rfl⟩
theorem am_same_sI {h : am_H} {f a : Nat} {v : Int32} {b : Nat} (e : b ≠ a) : am_same h (am_sI h f a v) b := ⟨rfl, rfl, fun g => by rw [am_I_sI, if_neg (fun z => e z.2)], fun _ => rfl, rfl, rfl, rfl⟩
theorem am_same_sR {h : am_H} {f a : Nat} {v : Option Nat} {b : Nat} (e : b ≠ a) : am_same h (am_sR h f a v) b := ⟨rfl, rfl, fun _ => rfl, fun g => by rw [am_R_sR, if_neg (fun z => e z.2)], rfl, rfl, rfl⟩
theorem am_same_sA {h : am_H} {a i : Nat} {v : Int32} {b : Nat} (e : b ≠ a) : am_same h (am_sA h a i v) b := ⟨rfl, rfl, fun _ => rfl, fun _ => rfl, funext fun g => by rw [am_A_sA, if_neg (fun z => e z.1)], rfl, rfl⟩
theorem am_same_sB {h : am_H} {a i : Nat} {v : Option Nat} {b : Nat} (e : b ≠ a) : am_same h (am_sB h a i v) b := ⟨rfl, rfl, fun _ => rfl, fun _ => rfl, rfl, funext fun g => by rw [am_B_sB, if_neg (fun z => e z.1)], rfl⟩
theorem am_same_sL {h : am_H} {a i : Nat} {v : Int64} {b : Nat} (e : b ≠ a) : am_same h (am_sL h a i v) b := ⟨rfl, rfl, fun _ => rfl, fun _ => rfl, rfl, rfl, funext fun g => by rw [am_L_sL, if_neg (fun z => e z.1)]⟩
theorem am_same_nw {h : am_H} {a k n : Nat} {b : Nat} (e : b ≠ a) : am_same h (am_nw h a k n) b := ⟨by rw [am_K_nw, if_neg e], by rw [am_N_nw, if_neg e], fun g => by rw [am_I_nw, if_neg e], fun g => by rw [am_R_nw, if_neg e], funext fun g => by rw [am_A_nw, if_neg e], funext fun g => by rw [am_B_nw, if_neg e], funext fun g => by rw [am_L_nw, if_neg e]⟩
/-- the picture of an object at a, from its own fields -/
theorem am_at_obj {D : va_G} {ac : Nat → ClassId} {zc : Cell × Cell} {h : am_H} {H : Heap} {a ci : Nat} {q : vw_C} (hq : am_C[ci]? = some q) (hk : am_K h a = ci + 1) (hlt : a < H.size) (ho : t_OB a (D.1 ci) q.2.2 (D.2 ci) H (am_V h ci a)) : am_at D ac zc h H a := by
  have h7 := am_lt7 hq
  refine ⟨fun _ => hlt, fun ci' q' e1 e2 => ?_, fun e => ?_, fun e => ?_, fun e => ?_, fun e => ?_, fun e => ?_, fun e => ?_, fun e => ?_⟩
  · have : ci' = ci := by omega
    subst this
    cases hq.symm.trans e2
    exact ho
  all_goals (exfalso; omega)
theorem am_Ext.k {h0 h h' : am_H} {sz : Nat} (p : am_Ext h0 h sz) (e1 : am_K h' = am_K h) (e2 : am_N h' = am_N h) : am_Ext h0 h' sz := by
  intro a
  rw [e1, e2]
  exact p a
section AMH
variable {k : am_X} {own nm : String} {cc : ByteArray} {nL : Nat} {ret : Option FieldType} {cells slots : Nat} {Q : State → Prop} {pc : Nat} {ls : List (Nat × Value)} {st : List Value} {h : am_H}
theorem g_get {index ci kf f a : Nat} (hd : decode cc pc = .ok (.getfield index, 3)) (hf : am_fl own index ci kf f) (ha : am_K h a = ci + 1) (kk : am_G k own nm cc nL ret cells slots Q (pc + 3) ls (am_V h ci a kf :: st) h) : am_G k own nm cc nL ret cells slots Q pc ls (.ref a :: st) h := by
  obtain ⟨p, l, e, R, s, m, args, below, meth, c, h0, D, ac, zc⟩ := k
  intro hC H locs la hR hE hS hl
  obtain ⟨-, q, ref, hq, hk, hw, -, -, hlk, hrf⟩ := hf
  obtain ⟨hx, hb, hml, hr, hlo, hown, hts, hK, -⟩ := id hC
  obtain ⟨cell, q1, q2, q3, q4⟩ := (hR a).2.1 ci q ha hq
  obtain ⟨hSl, hfc, kC, hkC, hkind⟩ := hK.1 ci q hq
  obtain ⟨cf, kf', fi, fd, hi, hsl⟩ := hSl kf hk
  have hsame : s.fieldFound? ref (q.2.1 kf).2.1 (q.2.1 kf).2.2.1 = some (cf, kf', fi, fd) := by
    rcases hrf with rfl | z
    · exact hi
    · exact u_same (hts _ z) _ hi
  refine W.getf hx hb hown (hts _ hlk) hsame (u_facts hfc hkC (u_lays hts hw hk) hi).1 q1 (by rw [q3]; exact fun h => by cases h) (v := am_V h ci a kf) ?_ rfl rfl hd (kk hC H locs la hR hE hS hl)
  rw [hsl, q4 kf hk]
theorem g_getI {index ci kf f a : Nat} (hd : decode cc pc = .ok (.getfield index, 3)) (hf : am_fl own index ci kf f) (ht : am_isR (am_ty ci kf) = false) (ha : am_K h a = ci + 1) (kk : am_G k own nm cc nL ret cells slots Q (pc + 3) ls (.int (am_I h f a) :: st) h) : am_G k own nm cc nL ret cells slots Q pc ls (.ref a :: st) h := by
  refine g_get hd hf ha ?_
  have : am_V h ci a kf = .int (am_I h f a) := by unfold am_V; rw [ht, hf.1]
  rw [this]
  exact kk
theorem g_getR {index ci kf f a r : Nat} (hd : decode cc pc = .ok (.getfield index, 3)) (hf : am_fl own index ci kf f) (ht : am_isR (am_ty ci kf) = true) (ha : am_K h a = ci + 1) (hr : am_R h f a = some r) (kk : am_G k own nm cc nL ret cells slots Q (pc + 3) ls (.ref r :: st) h) : am_G k own nm cc nL ret cells slots Q pc ls (.ref a :: st) h := by
  refine g_get hd hf ha ?_
  have : am_V h ci a kf = .ref r := by
    unfold am_V
    rw [ht, ← hf.1, hr]
    rfl
  rw [this]
  exact kk
/-- a store into a field: final ones in a constructor of the class itself -/
theorem am_put {p : Program} {l : Launch} {e : Env} {R : Room} {s : State} {m : MethodId} {args : Array Value} {below : List Frame} {meth : Method} {c : Code} {h0 : am_H} {D : va_G} {ac : Nat → ClassId} {zc : Cell × Cell} {H : Heap} {locs : List Loc} {la : Array Slot} {index ci kf f a : Nat} {v : Value}
    (hC : am_Cx p l s m args meth c own nm cc nL ret h0 D ac zc) (hR : am_Rep D ac zc h H) (hE : am_Ext h0 h s.heap.size) (hS : va_S (am_W h0 s.heap.size) s.heap H locs)
    (hd : decode cc pc = .ok (.putfield index, 3)) (hf : am_fl own index ci kf f) (hfin : ∀ q, am_C[ci]? = some q → (q.2.1 kf).2.2.2 = false ∨ ((q.2.1 kf).2.2.2 = true ∧ nm = "<init>" ∧ (q.2.1 kf).1 = own)) (ha : am_K h a = ci + 1) (hn : narrow (am_ty ci kf) v = v) (hfit : fits (am_ty ci kf) v = true)
    (kk : ∀ (H' : Heap) (locs' : List Loc), H'.size = H.size → (∀ q : Nat, q ≠ a → H'[q]? = H[q]?) → (∀ q, am_C[ci]? = some q → t_OB a (D.1 ci) q.2.2 (D.2 ci) H' (updV (am_V h ci a) kf v)) → va_S (am_W h0 s.heap.size) s.heap H' locs' → W p l e R s m args below meth c H' locs' cells slots Q (F0 m (pc + 3) la st)) :
    W p l e R s m args below meth c H locs cells slots Q (F0 m pc la (v :: .ref a :: st)) := by
  obtain ⟨-, q, ref, hq, hk, hw, hty, hnm, hlk, hrf⟩ := hf
  obtain ⟨hx, hb, hml, hr, hlo, hown, hts, hK, -, -, hname, -⟩ := id hC
  have hap := va_apart (own := own) hts hw (am_ty ci) hty hnm hK hq
  obtain ⟨cell, q1, q2, q3, q4⟩ := (hR a).2.1 ci q ha hq
  obtain ⟨hSl, hfc, kC, hkC, hkind⟩ := hK.1 ci q hq
  obtain ⟨cf, kf', fi, fd, hi, hsl⟩ := hSl kf hk
  have hsame : s.fieldFound? ref (q.2.1 kf).2.1 (q.2.1 kf).2.2.1 = some (cf, kf', fi, fd) := by
    rcases hrf with rfl | z
    · exact hi
    · exact u_same (hts _ z) _ hi
  have hst := (u_facts hfc hkC (u_lays hts hw hk) hi).1
  have hlay := hts _ (hw _ (u_in_lay hk))
  unfold u_lay at hlay
  have fin : ∀ H' : Heap, H'[a]? = some (cell.setSlot fd.slot v) → H'.size = H.size → (∀ q : Nat, q ≠ a → H'[q]? = H[q]?) → W p l e R s m args below meth c H' (locs ++ [⟨a, fd.slot⟩]) cells slots Q (F0 m (pc + 3) la st) := by
    intro H' e1 e2 e3
    refine kk H' _ e2 e3 (fun q' hq' => ?_) (hS.put e2 e3 (hE.in (by rw [ha]; exact ⟨Nat.succ_ne_zero _, by have := am_lt7 hq; omega⟩)))
    cases hq.symm.trans hq'
    rw [hsl] at e1
    exact ⟨_, e1, q2, q3, t_set q4 hap hk v⟩
  rcases hfin q hq with hfin | ⟨hfin, hin2, hdecl⟩
  · rw [if_neg (by rw [hfin]; decide)] at hlay
    have h6 := u_store hfc hkC hkind hlay hi (hty kf hk) hn hfit
    exact W.putK hx hb (f := fd) ⟨hown, hts _ hlk, ⟨_, _, _, hsame⟩, hst⟩ (by rw [q2]; exact h6) q1 q3 (by rw [hsl]; exact k2_hasslot (q4 kf hk)) rfl rfl hd fin
  · rw [if_pos hfin] at hlay
    have hcf : m.cls = cf := by
      obtain ⟨_, _, c', _, _, _, -, -, hf', -, -, -, hown2, -⟩ := Cond.laysFinal_spec hlay
      have e1 : c' = cf := by have := hi.symm.trans hf'; simp at this; exact this.1.symm
      rw [hdecl] at hown2
      rw [← e1]; exact Option.some.inj (hown.symm.trans hown2)
    have h6 := u_fits hfc hkC hkind (Or.inr hlay) hi (hty kf hk) hn hfit
    exact W.putFinK hx hb hown (hts _ hlk) hsame hst hcf (by rw [hname]; exact hin2) (by rw [q2]; exact h6) q1 q3 (by rw [hsl]; exact k2_hasslot (q4 kf hk)) rfl rfl hd fin
theorem g_putI {index ci kf f a : Nat} {v : Int32} (hd : decode cc pc = .ok (.putfield index, 3)) (hf : am_fl own index ci kf f) (ht : am_isR (am_ty ci kf) = false) (hfin : ∀ q, am_C[ci]? = some q → (q.2.1 kf).2.2.2 = false ∨ ((q.2.1 kf).2.2.2 = true ∧ nm = "<init>" ∧ (q.2.1 kf).1 = own)) (ha : am_K h a = ci + 1) (hn : narrow (am_ty ci kf) (.int v) = .int v) (hfit : fits (am_ty ci kf) (.int v) = true)
    (kk : am_G k own nm cc nL ret cells slots Q (pc + 3) ls st (am_sI h f a v)) : am_G k own nm cc nL ret cells slots Q pc ls (.int v :: .ref a :: st) h := by
  obtain ⟨p, l, e, R, s, m, args, below, meth, c, h0, D, ac, zc⟩ := k
  intro hC H locs la hR hE hS hl
  have hff := hf.1
  refine am_put hC hR hE hS hd hf hfin ha hn hfit fun H' locs' z e3 ho hS' => kk hC H' locs' la (hR.upd a (fun b hb => am_same_sI hb) e3 z ?_) (hE.k rfl rfl) hS' hl
  obtain ⟨-, q, ref, hq, -⟩ := hf
  refine am_at_obj hq (by rw [am_K_sI]; exact ha) (by rw [z]; exact (hR a).1 (by rw [ha]; exact Nat.succ_ne_zero _)) ((ho q hq).to fun j _ => ?_)
  unfold updV am_V
  by_cases e : j = kf
  · subst e
    rw [if_pos rfl, ht]
    show _ = Value.int (am_I (am_sI h f a v) (100 * ci + j) a)
    rw [am_I_sI, if_pos ⟨hff.symm, rfl⟩]
  · rw [if_neg e]
    cases hj : am_isR (am_ty ci j) with
    | true => rfl
    | false =>
      simp only [am_I_sI]
      rw [if_neg (fun z => e (by have := z.1; omega))]
theorem g_putR {index ci kf f a : Nat} {v : Option Nat} (hd : decode cc pc = .ok (.putfield index, 3)) (hf : am_fl own index ci kf f) (ht : am_isR (am_ty ci kf) = true) (hfin : ∀ q, am_C[ci]? = some q → (q.2.1 kf).2.2.2 = false ∨ ((q.2.1 kf).2.2.2 = true ∧ nm = "<init>" ∧ (q.2.1 kf).1 = own)) (ha : am_K h a = ci + 1) (hn : narrow (am_ty ci kf) (va_rf v) = va_rf v) (hfit : fits (am_ty ci kf) (va_rf v) = true)
    (kk : am_G k own nm cc nL ret cells slots Q (pc + 3) ls st (am_sR h f a v)) : am_G k own nm cc nL ret cells slots Q pc ls (va_rf v :: .ref a :: st) h := by
  obtain ⟨p, l, e, R, s, m, args, below, meth, c, h0, D, ac, zc⟩ := k
  intro hC H locs la hR hE hS hl
  have hff := hf.1
  refine am_put hC hR hE hS hd hf hfin ha hn hfit fun H' locs' z e3 ho hS' => kk hC H' locs' la (hR.upd a (fun b hb => am_same_sR hb) e3 z ?_) (hE.k rfl rfl) hS' hl
  obtain ⟨-, q, ref, hq, -⟩ := hf
  refine am_at_obj hq (by rw [am_K_sR]; exact ha) (by rw [z]; exact (hR a).1 (by rw [ha]; exact Nat.succ_ne_zero _)) ((ho q hq).to fun j _ => ?_)
  unfold updV am_V
  by_cases e : j = kf
  · subst e
    rw [if_pos rfl, ht]
    show _ = va_rf (am_R (am_sR h f a v) (100 * ci + j) a)
    rw [am_R_sR, if_pos ⟨hff.symm, rfl⟩]
  · rw [if_neg e]
    cases hj : am_isR (am_ty ci j) with
    | false => rfl
    | true =>
      simp only [am_R_sR]
      rw [if_neg (fun z => e (by have := z.1; omega))]
theorem g_putRs {index ci kf f a b : Nat} (hd : decode cc pc = .ok (.putfield index, 3)) (hf : am_fl own index ci kf f) (ht : am_isR (am_ty ci kf) = true) (hfin : ∀ q, am_C[ci]? = some q → (q.2.1 kf).2.2.2 = false ∨ ((q.2.1 kf).2.2.2 = true ∧ nm = "<init>" ∧ (q.2.1 kf).1 = own)) (ha : am_K h a = ci + 1) (hn : narrow (am_ty ci kf) (.ref b) = .ref b) (hfit : fits (am_ty ci kf) (.ref b) = true)
    (kk : am_G k own nm cc nL ret cells slots Q (pc + 3) ls st (am_sR h f a (some b))) : am_G k own nm cc nL ret cells slots Q pc ls (.ref b :: .ref a :: st) h := g_putR (v := some b) hd hf ht hfin ha hn hfit kk
/-! rows of ints and of booleans -/
theorem g_iald {a : Nat} {i : Int32} (hd : decode cc pc = .ok (.iaload, 1)) (ha : am_K h a = 11) (hin : vp_in i (am_N h a)) (kk : am_G k own nm cc nL ret cells slots Q (pc + 1) ls (.int (am_A h a i.toNatClampNeg) :: st) h) : am_G k own nm cc nL ret cells slots Q pc ls (.int i :: .ref a :: st) h := by
  obtain ⟨p, l, e, R, s, m, args, below, meth, c, h0, D, ac, zc⟩ := k
  intro hC H locs la hR hE hS hl
  refine va_iald (D := D) (cl := am_C) (ws := [(a, .inl (ac 0, am_N h a, .inl (am_A h a)))]) (tys := am_tys ac) hC.1 hC.2.1 hC.2.2.2.2.2.2.2.1 ?_ 0 0 rfl rfl hin hd (kk hC H locs la hR hE hS hl)
  intro j q hq
  match j, hq with
  | 0, hq =>
    cases hq
    exact (hR a).2.2.1 ha
theorem g_oald {a : Nat} {i : Int32} (hd : decode cc pc = .ok (.aaload, 1)) (ha : am_K h a = 13) (hin : vp_in i (am_N h a)) (kk : am_G k own nm cc nL ret cells slots Q (pc + 1) ls (va_rf (am_B h a i.toNatClampNeg) :: st) h) : am_G k own nm cc nL ret cells slots Q pc ls (.int i :: .ref a :: st) h := by
  obtain ⟨p, l, e, R, s, m, args, below, meth, c, h0, D, ac, zc⟩ := k
  intro hC H locs la hR hE hS hl
  refine va_aldq (D := D) (cl := am_C) (ws := [(a, .inl (ac 2, am_N h a, .inr (.inr (.inr (.inr (am_B h a))))))]) (tys := am_tys ac) hC.1 hC.2.1 hC.2.2.2.2.2.2.2.1 ?_ 0 2 rfl rfl hin hd (kk hC H locs la hR hE hS hl)
  intro j q hq
  match j, hq with
  | 0, hq =>
    cases hq
    exact (hR a).2.2.2.2.1 ha
theorem g_rald {a : Nat} {i : Int32} (hd : decode cc pc = .ok (.aaload, 1)) (ha : am_K h a = 14) (hin : vp_in i (am_N h a)) (kk : am_G k own nm cc nL ret cells slots Q (pc + 1) ls (va_rf (am_B h a i.toNatClampNeg) :: st) h) : am_G k own nm cc nL ret cells slots Q pc ls (.int i :: .ref a :: st) h := by
  obtain ⟨p, l, e, R, s, m, args, below, meth, c, h0, D, ac, zc⟩ := k
  intro hC H locs la hR hE hS hl
  have hlt : i.toNatClampNeg < am_N h a := Nat.not_le.mp fun q => hin (Or.inr q)
  exact W.aald (v := va_rf (am_B h a i.toNatClampNeg)) (ty := .array .int) hC.1 hC.2.1 ((hR a).2.2.2.2.2.1 ha) ((hC.2.2.2.2.2.2.2.1.2 3 _ rfl).1 _ (fun j => va_rf (am_B h a j))) rfl (fun q => by cases q) (by show ¬ (i < 0 ∨ (arrV _ _ _).slots.size ≤ _); rw [arrV_size]; exact hin) (by show (arrV _ _ _).slots[_]? = _; rw [arrV_read _ _ hlt]) rfl rfl hd (kk hC H locs la hR hE hS hl)
theorem am_at_11 {D : va_G} {ac : Nat → ClassId} {zc : Cell × Cell} {h : am_H} {H : Heap} {a : Nat} (hk : am_K h a = 11) (hlt : a < H.size) (e : H[a]? = some (vp_cell (ac 0) (am_N h a, .inl (am_A h a)))) : am_at D ac zc h H a := by
  refine ⟨fun _ => hlt, fun ci' q' e1 e2 => ?_, fun _ => e, fun z => ?_, fun z => ?_, fun z => ?_, fun z => ?_, fun z => ?_, fun z => ?_⟩
  · have h7 := am_lt7 e2
    exfalso; omega
  all_goals (exfalso; omega)
theorem am_at_12 {D : va_G} {ac : Nat → ClassId} {zc : Cell × Cell} {h : am_H} {H : Heap} {a : Nat} (hk : am_K h a = 12) (hlt : a < H.size) (e : H[a]? = some (vp_cell (ac 1) (am_N h a, .inl (am_A h a)))) : am_at D ac zc h H a := by
  refine ⟨fun _ => hlt, fun ci' q' e1 e2 => ?_, fun z => ?_, fun _ => e, fun z => ?_, fun z => ?_, fun z => ?_, fun z => ?_, fun z => ?_⟩
  · have h7 := am_lt7 e2
    exfalso; omega
  all_goals (exfalso; omega)
theorem am_at_13 {D : va_G} {ac : Nat → ClassId} {zc : Cell × Cell} {h : am_H} {H : Heap} {a : Nat} (hk : am_K h a = 13) (hlt : a < H.size) (e : H[a]? = some (vp_cell (ac 2) (am_N h a, .inr (.inr (.inr (.inr (am_B h a))))))) : am_at D ac zc h H a := by
  refine ⟨fun _ => hlt, fun ci' q' e1 e2 => ?_, fun z => ?_, fun z => ?_, fun _ => e, fun z => ?_, fun z => ?_, fun z => ?_, fun z => ?_⟩
  · have h7 := am_lt7 e2
    exfalso; omega
  all_goals (exfalso; omega)
theorem am_at_14 {D : va_G} {ac : Nat → ClassId} {zc : Cell × Cell} {h : am_H} {H : Heap} {a : Nat} (hk : am_K h a = 14) (hlt : a < H.size) (e : H[a]? = some (vp_cell (ac 3) (am_N h a, .inr (.inr (.inr (.inr (am_B h a))))))) : am_at D ac zc h H a := by
  refine ⟨fun _ => hlt, fun ci' q' e1 e2 => ?_, fun z => ?_, fun z => ?_, fun z => ?_, fun _ => e, fun z => ?_, fun z => ?_, fun z => ?_⟩
  · have h7 := am_lt7 e2
    exfalso; omega
  all_goals (exfalso; omega)
theorem am_at_15 {D : va_G} {ac : Nat → ClassId} {zc : Cell × Cell} {h : am_H} {H : Heap} {a : Nat} (hk : am_K h a = 15) (hlt : a < H.size) (e : H[a]? = some (vp_cell (ac 4) (am_N h a, .inr (.inl (am_L h a))))) : am_at D ac zc h H a := by
  refine ⟨fun _ => hlt, fun ci' q' e1 e2 => ?_, fun z => ?_, fun z => ?_, fun z => ?_, fun z => ?_, fun _ => e, fun z => ?_, fun z => ?_⟩
  · have h7 := am_lt7 e2
    exfalso; omega
  all_goals (exfalso; omega)
theorem am_lt {D : va_G} {ac : Nat → ClassId} {zc : Cell × Cell} {h : am_H} {H H' : Heap} {a n : Nat} (hR : am_Rep D ac zc h H) (z : H'.size = H.size) (ha : am_K h a = n + 1) : a < H'.size := by rw [z]; exact (hR a).1 (by rw [ha]; exact Nat.succ_ne_zero _)
theorem g_iast {a : Nat} {i x : Int32} (hd : decode cc pc = .ok (.iastore, 1)) (ha : am_K h a = 11) (hin : vp_in i (am_N h a)) (kk : am_G k own nm cc nL ret cells slots Q (pc + 1) ls st (am_sA h a i.toNatClampNeg x)) : am_G k own nm cc nL ret cells slots Q pc ls (.int x :: .int i :: .ref a :: st) h := by
  obtain ⟨p, l, e, R, s, m, args, below, meth, c, h0, D, ac, zc⟩ := k
  intro hC H locs la hR hE hS hl
  refine W.iast hC.1 hC.2.1 ((hR a).2.2.1 ha) ((hC.2.2.2.2.2.2.2.1.2 0 _ rfl).1 _ (fun j => .int (am_A h a j))) (fun q => by cases q) (by show ¬ (i < 0 ∨ (arrV _ _ _).slots.size ≤ _); rw [arrV_size]; exact hin) rfl rfl hd fun H1 e1 z oq => ?_
  refine kk hC H1 _ la (hR.upd a (fun b hb => am_same_sA hb) oq z (am_at_11 (by rw [am_K_sA]; exact ha) (am_lt hR z ha) ?_)) (hE.k rfl rfl) (hS.put z oq (hE.in (by rw [ha]; exact ⟨by decide, by decide⟩))) hl
  rw [e1, am_N_sA, vp_cell_i, vp_cell_i, arrV_store]
  congr 2
  funext q
  unfold updV
  rw [am_A_sA]
  by_cases hq : q = i.toNatClampNeg
  · rw [if_pos hq, if_pos ⟨rfl, hq⟩]
  · rw [if_neg hq, if_neg (fun z => hq z.2)]
theorem g_alen {a : Nat} {v : Int32} (hd : decode cc pc = .ok (.arraylength, 1)) (ha : am_K h a = 11 ∨ am_K h a = 13) (hv : nI (am_N h a) = v) (kk : am_G k own nm cc nL ret cells slots Q (pc + 1) ls (.int v :: st) h) : am_G k own nm cc nL ret cells slots Q pc ls (.ref a :: st) h := by
  obtain ⟨p, l, e, R, s, m, args, below, meth, c, h0, D, ac, zc⟩ := k
  intro hC H locs la hR hE hS hl
  subst hv
  rcases ha with ha | ha
  · exact W.alen (n := nI (am_N h a)) hC.1 hC.2.1 ((hR a).2.2.1 ha) ((hC.2.2.2.2.2.2.2.1.2 0 _ rfl).1 _ (fun j => .int (am_A h a j))) (by rw [vp_cell_i, arrV_size] <;> rfl) rfl rfl hd (kk hC H locs la hR hE hS hl)
  · exact W.alen (n := nI (am_N h a)) hC.1 hC.2.1 ((hR a).2.2.2.2.1 ha) ((hC.2.2.2.2.2.2.2.1.2 2 _ rfl).1 _ (fun j => va_rf (am_B h a j))) (by rw [vp_cell_q, arrV_size] <;> rfl) rfl rfl hd (kk hC H locs la hR hE hS hl)
end AMH
