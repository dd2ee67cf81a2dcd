/-! ===== a room of rows, made at once ===== -/
def am_mna (h : am_H) (a N K : Nat) : am_H := (fun b => if b = a then 14 else if a < b ∧ b ≤ a + N then 11 else am_K h b, fun b => if b = a then N else if a < b ∧ b ≤ a + N then K else am_N h b, fun f b => if a ≤ b then 0 else am_I h f b, fun f b => if a ≤ b then none else am_R h f b, fun b i => if a ≤ b then 0 else am_A h b i, fun b i => if b = a then (if i < N then some (a + 1 + i) else none) else if a ≤ b then none else am_B h b i, fun b i => if a ≤ b then 0 else am_L h b i)
theorem am_mna_old {h : am_H} {a N K b : Nat} (hb : b < a) : am_same h (am_mna h a N K) b := by
  refine ⟨?_, ?_, fun f => ?_, fun f => ?_, ?_, ?_, ?_⟩
  · show (if b = a then 14 else if a < b ∧ b ≤ a + N then 11 else am_K h b) = _
    rw [if_neg (by omega), if_neg (by omega)]
  · show (if b = a then N else if a < b ∧ b ≤ a + N then K else am_N h b) = _
    rw [if_neg (by omega), if_neg (by omega)]
  · exact if_neg (by omega)
  · exact if_neg (by omega)
  · funext i; exact if_neg (by omega)
  · funext i
    show (if b = a then _ else if a ≤ b then none else am_B h b i) = _
    rw [if_neg (by omega), if_neg (by omega)]
  · funext i; exact if_neg (by omega)
theorem am_mna_K {h : am_H} {a N K b : Nat} : am_K (am_mna h a N K) b = if b = a then 14 else if a < b ∧ b ≤ a + N then 11 else am_K h b := rfl
theorem am_mna_N {h : am_H} {a N K b : Nat} : am_N (am_mna h a N K) b = if b = a then N else if a < b ∧ b ≤ a + N then K else am_N h b := rfl
section NEWII
variable {k : am_X} {own nm : String} {cc : ByteArray} {nL : Nat} {ret : Option FieldType} {cells slots : Nat} {Q : State → Prop} {pc : Nat} {ls : List (Nat × Value)} {st : List Value} {h : am_H}
theorem am_Rep.mna {D : va_G} {ac : Nat → ClassId} {zc : Cell × Cell} {H H' : Heap} {N K : Nat} (hR : am_Rep D ac zc h H) (o1 : ∀ q : Nat, q < H.size → H'[q]? = H[q]?) (z : H'.size = H.size + 1 + N) (h14 : H'[H.size]? = some (vp_cell (ac 3) (N, .inr (.inr (.inr (.inr (fun i => if i < N then some (H.size + 1 + i) else none))))))) (h11 : ∀ j, j < N → H'[H.size + 1 + j]? = some (vp_cell (ac 0) (K, .inl (fun _ => 0)))) : am_Rep D ac zc (am_mna h H.size N K) H' := by
  intro b
  by_cases hb : b < H.size
  · exact (hR b).kept (am_mna_old hb) (o1 b hb) (by omega)
  · by_cases e : b = H.size
    · subst e
      have hk : am_K (am_mna h H.size N K) H.size = 14 := if_pos rfl
      unfold am_at
      rw [hk]
      refine ⟨fun _ => by omega, fun ci q e1 e2 => ?_, fun q => absurd q (by decide), fun q => absurd q (by decide), fun q => absurd q (by decide), fun _ => ?_, fun q => absurd q (by decide), fun q => absurd q (by decide), fun q => absurd q (by decide)⟩
      · have : ci < 7 := (List.getElem?_eq_some_iff.mp e2).1
        omega
      · rw [h14]
        congr 2
        show (N, _) = (am_N (am_mna h H.size N K) H.size, _)
        rw [am_mna_N, if_pos rfl]
        congr 5
        funext i
        exact (if_pos rfl).symm
    · by_cases e2 : b ≤ H.size + N
      · have hk : am_K (am_mna h H.size N K) b = 11 := (if_neg e).trans (if_pos ⟨by omega, e2⟩)
        unfold am_at
        rw [hk]
        refine ⟨fun _ => by omega, fun ci q e1 e3 => ?_, fun _ => ?_, fun q => absurd q (by decide), fun q => absurd q (by decide), fun q => absurd q (by decide), fun q => absurd q (by decide), fun q => absurd q (by decide), fun q => absurd q (by decide)⟩
        · have : ci < 7 := (List.getElem?_eq_some_iff.mp e3).1
          omega
        · have := h11 (b - H.size - 1) (by omega)
          rw [show H.size + 1 + (b - H.size - 1) = b by omega] at this
          rw [this]
          congr 2
          show (K, _) = (am_N (am_mna h H.size N K) b, _)
          rw [am_mna_N, if_neg e, if_pos ⟨by omega, e2⟩]
          congr 2
          funext i
          exact (if_pos (show H.size ≤ b by omega)).symm
      · have hk : am_K (am_mna h H.size N K) b = 0 := by
          rw [am_mna_K, if_neg e, if_neg (by omega)]
          exact am_fresh hR (by omega)
        refine ⟨fun q => absurd hk q, fun ci q e1 _ => ?_, fun q => ?_, fun q => ?_, fun q => ?_, fun q => ?_, fun q => ?_, fun q => ?_, fun q => ?_⟩
        all_goals (exfalso; omega)
theorem am_Ext.mna {D : va_G} {ac : Nat → ClassId} {zc : Cell × Cell} {h0 : am_H} {H : Heap} {sz N K : Nat} (hR : am_Rep D ac zc h H) (hE : am_Ext h0 h sz) (hz : sz ≤ H.size) : am_Ext h0 (am_mna h H.size N K) sz := by
  intro a
  by_cases e : a < H.size
  · obtain ⟨e1, e2, -⟩ := am_mna_old (h := h) (N := N) (K := K) e
    rw [e1, e2]
    exact hE a
  · have h1 : am_K h a = 0 := am_fresh hR (by omega)
    have h2 : am_K h0 a = 0 := by
      by_cases z : am_K h0 a = 0
      · exact z
      · exact absurd (((hE a).1 z).1.symm.trans h1) z
    refine ⟨fun z => absurd h2 z, fun _ _ => ⟨by omega, ?_⟩⟩
    rw [am_mna_K]
    split
    · decide
    · split
      · decide
      · rw [h1]; decide
theorem g_newII {index : Nat} {n k' : Int32} {N K : Nat} (hd : decode cc pc = .ok (.multianewarray index 2, 4)) (hl : Cond.classLink own index "[[I" ∈ am_WS) (hw : Cond.arrayClass .int ∈ am_WS) (hn : ¬ n < 0) (hk : ¬ k' < 0) (hN : n.toNatClampNeg = N) (hM : k'.toNatClampNeg = K) (hb1 : N * 4 ≤ 536870912) (hb2 : K * 4 ≤ 536870912) (hb3 : K ≤ 536870912) (h1 : cells + (1 + N) ≤ (am_kR k).cells) (h2 : slots + (N + N * K) ≤ (am_kR k).slots)
    (kk : ∀ a, (∀ q, am_K h q ≠ 0 → q < a) → am_G k own nm cc nL ret (cells + 1 + N) (slots + N + N * K) Q (pc + 4) ls (.ref a :: st) (am_mna h a N K)) : am_G k own nm cc nL ret cells slots Q pc ls (.int k' :: .int n :: st) h := by
  obtain ⟨p, l, e, R, s, m, args, below, meth, c, h0, D, ac, zc⟩ := k
  intro hC H locs la hR hE hS hlv
  obtain ⟨hx, hb, -, -, -, hown, hts, hK, -, -, -, hT, -⟩ := id hC
  subst hN
  subst hM
  intro T hTT Xs
  obtain ⟨vm₁, cA, comp, -, fA, fC, hO, -, X', step⟩ := Xs.multianewarray2F (ty := .int) hx hown (hts _ hl) (va_AOA.use hT.2.2.2.2.2.1) (hts _ hw) (g := F0 m pc la (.int k' :: .int n :: st)) rfl (by rw [hb]; exact hd) rfl hn hk hb1 hb2 hb3 rfl rfl h1 h2
  have ec : comp = ac 0 := Option.some.inj (fC.symm.trans (hK.2 0 _ rfl).2)
  have eA : cA = ac 3 := Option.some.inj (fA.symm.trans (hK.2 3 _ rfl).2)
  subst ec
  subst eA
  generalize hF : Jvm.Free.Multi.fill (T.setVm vm₁) (ac 3) (ac 0) n.toNatClampNeg k'.toNatClampNeg (defaultValue .int) n.toNatClampNeg = F at X' step
  have hTh : (T.setVm vm₁).heap = H := hTT
  obtain ⟨f1, f2, -, -⟩ := Jvm.Free.Multi.fill_facts (T.setVm vm₁) (ac 3) (ac 0) n.toNatClampNeg k'.toNatClampNeg (defaultValue .int) n.toNatClampNeg
  rw [hF, hTh] at f1 f2
  have hold : ∀ x : Nat, x < H.size → F.heap[x]? = H[x]? := fun x hx => by
    have := Jvm.Free.Multi.fill_old (T.setVm vm₁) (ac 3) (ac 0) n.toNatClampNeg k'.toNatClampNeg (defaultValue .int) (a := x) (by rw [hTh]; exact hx) n.toNatClampNeg
    rw [hF, hTh] at this
    exact this
  have hrow : ∀ j : Nat, j < n.toNatClampNeg → F.heap[H.size + 1 + j]? = some (vp_cell (ac 0) (k'.toNatClampNeg, .inl (fun _ => 0))) := fun j hj => by
    have := Jvm.Free.Multi.fill_inner (T.setVm vm₁) (ac 3) (ac 0) n.toNatClampNeg k'.toNatClampNeg (defaultValue .int) n.toNatClampNeg j hj
    rw [hF, hTh] at this
    rw [this, vp_cell_i]
    exact congrArg some (arrV_new (ac 0) k'.toNatClampNeg (.int 0))
  have hout : Jvm.Free.Multi.outerC (ac 3) n.toNatClampNeg H.size n.toNatClampNeg = vp_cell (ac 3) (n.toNatClampNeg, .inr (.inr (.inr (.inr (fun i => if i < n.toNatClampNeg then some (H.size + 1 + i) else none))))) := by
    rw [vp_cell_q]
    exact vr_outer (ac 3) n.toNatClampNeg H.size n.toNatClampNeg
  rw [hout] at f2
  obtain ⟨t, a1, b1⟩ := kk H.size (fun q hq => (hR q).1 hq) hC F.heap locs la (hR.mna hold (by rw [f1]) f2 hrow) (hE.mna hR hS.1) ⟨by rw [f1]; have := hS.1; omega, fun x h1 h2 => (hold x (Nat.lt_of_lt_of_le h1 hS.1)).trans (hS.2.1 x h1 h2), hS.2.2⟩ hlv F rfl X'
  refine ⟨t, step t ?_, b1⟩
  have e : T.heap.size = H.size := by rw [hTT]
  rw [e]
  exact a1
end NEWII
