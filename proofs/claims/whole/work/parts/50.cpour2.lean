def frP (Γ G : Nat → Nat → Nat → Int32) : Prop := ∀ c i j, ¬ c = 9 → ¬ c = 10 → ¬ (c = 3 ∧ j = 2) → G c i j = Γ c i j
theorem bR.leU {units : Int} {R : Nat → Nat → Int} {G : Nat → Nat → Nat → Int32} {r : Nat → Nat} {m : Nat} (h : bR units R G r m) : ∀ i, i < m → (G 10 0 (r i)).toInt ≤ units := by
  intro i
  induction i using Nat.strongRecOn with
  | ind i ih =>
    intro hi
    rcases Nat.eq_zero_or_pos i with c | c
    · rw [c, h.2.1, h.2.2.1]
      exact Int.le_refl _
    · obtain ⟨i', q1, -, -, q4, -⟩ := h.2.2.2.2.2.1 i c hi
      have := ih i' q1 (by omega)
      omega
set_option maxRecDepth 100000 in
set_option maxHeartbeats 4000000 in
theorem c_X2_pour {l : Launch} (hlt : l.stackTraces = false) {N n p : Nat} {ord : List Nat} {L : Nat → Nat → Nat} {Γ : Nat → Nat → Nat → Int32} {o : Int64} {h : am_H} (w : WI N n p ord L Γ o h) {C N0 : Nat → Nat → Int} {g : Nat → Int} (hRJ0 : RJ C N0 g Γ) (hC : ∀ a b, a < 9 → b < 9 → 0 ≤ C a b ∧ C a b ≤ 100000) {t : Nat} (ht0 : 0 < t) (ht : t < 9) {u : Int32} (hu0 : 0 ≤ u.toInt) (hu : u.toInt ≤ 9999) (hg0 : 0 ≤ (Γ 3 0 2).toInt) (hg : (Γ 3 0 2).toInt ≤ 9999) : am_Con l yX2_pour (.code yX2_pour cX2_pour 7 (some .int)) 3 0 0 [.ref (L 3 0), .int (nI t), .int u] h (fun v h' => ∃ (x : Int32) (G : Nat → Nat → Nat → Int32) (N1 : Nat → Nat → Int), v = some (.int x) ∧ WI N n p ord L G o h' ∧ frP Γ G ∧ (G 3 0 2).toInt = (Γ 3 0 2).toInt - x.toInt ∧ RJ C N1 (addg g t x.toInt) G ∧ Amt C g t (min u.toInt (Γ 3 0 2).toInt) x.toInt) (fun _ _ => False) := by
  refine am_body hlt (by decide +kernel) (Nat.le_of_ble_eq_true rfl) (fun k hl hR h0 hno => ?_)
  subst hl
  obtain ⟨Qf, hQ⟩ : ∃ Qf, Qf = am_Q k 0 0 (fun v h' => ∃ (x : Int32) (G : Nat → Nat → Nat → Int32) (N1 : Nat → Nat → Int), v = some (.int x) ∧ WI N n p ord L G o h' ∧ frP Γ G ∧ (G 3 0 2).toInt = (Γ 3 0 2).toInt - x.toInt ∧ RJ C N1 (addg g t x.toInt) G ∧ Amt C g t (min u.toInt (Γ 3 0 2).toInt) x.toInt) (fun _ _ => False) := ⟨_, rfl⟩
  rw [← hQ]
  have hm0 : wdm n p 3 0 = true := rfl
  refine g_iload_n dX2_pour_0 rfl ?_
  refine g_aload_n dX2_pour_1 rfl ?_
  refine w_getI w dX2_pour_2 fl_X2_22 rfl rfl (by first | rfl | assumption) ?_
  refine g_min dX2_pour_5 ml_X2_67 ms_min ini_Math mcode_min (by rw [hR]; decide) (by rw [hR]; exact Nat.le_of_ble_eq_true rfl) (by rw [hR]; decide) (by rw [hR]; first | decide | (show _ ≤ 100; omega)) ?_
  obtain ⟨W, eW⟩ : ∃ W, W = (if Γ 3 0 2 < u then Γ 3 0 2 else u) := ⟨_, rfl⟩
  rw [← eW]
  have hW : W.toInt = min u.toInt (Γ 3 0 2).toInt := by rw [eW, min_I]
  refine g_istore_n dX2_pour_8 (by decide) rfl ?_
  refine g_iconst (v := 0) dX2_pour_9 (by decide) ?_
  refine g_istore dX2_pour_10 (by decide) rfl ?_
  refine g_iconst (v := 0) dX2_pour_12 (by decide) ?_
  refine g_istore dX2_pour_13 (by decide) rfl ?_
  have lp_15 : ∀ (f : Nat) (wy : Nat) (y : Int32) (G : Nat → Nat → Nat → Int32) (N1 : Nat → Nat → Int) (h' : am_H), (wy : Int) ≤ y.toInt → (W.toInt - y.toInt).toNat < f → 0 ≤ y.toInt → y.toInt ≤ W.toInt → WI N n p ord L G o h' → (∀ c i j, ¬ c = 9 → ¬ c = 10 → G c i j = Γ c i j) → RJ C N1 (addg g t y.toInt) G → am_G k RX2 yX2_pour.name cX2_pour 7 (some .int) 0 0 Qf 15 [(5, .int (nI wy)), (4, .int y), (3, .int W), (1, .int (nI t)), (0, .ref (L 3 0))] [] h' := by
    intro f
    induction f with
    | zero => intro wy y G N1 h' hwy hf hy0 hyW w' hfr hRJ; omega
    | succ f ih =>
      intro wy y G N1 h' hwy hf hy0 hyW w' hfr hRJ
      refine g_iload dX2_pour_15 rfl ?_
      refine g_iload_n dX2_pour_17 rfl ?_
      refine g_icmp_ge 66 dX2_pour_18 (by decide) (fun c_18 => ?_) (fun c_18 => ?_)
      · skip
        refine g_aload_n dX2_pour_66 rfl ?_
        refine g_dup dX2_pour_67 rfl ?_
        refine w_getI w' dX2_pour_68 fl_X2_22 rfl rfl (by first | rfl | assumption) ?_
        refine g_iload dX2_pour_71 rfl ?_
        refine g_isub dX2_pour_73 ?_
        refine w_putI w' dX2_pour_74 fl_X2_22 rfl rfl (by decide) (fun q hq => by cases hq; rfl) (by first | rfl | assumption) rfl rfl (fun h21 w21 => ?_)
        refine g_iload dX2_pour_77 rfl ?_
        rw [hQ]
        refine g_iret dX2_pour_79 rfl rfl (by decide) (by decide) ?_
        have h18 := Int32.le_iff_toInt_le.mp c_18
        rw [nI_toInt (by omega)] at h18
        refine ⟨y, _, N1, rfl, w21, fun c i j z1 z2 z3 => (u3_n (fun q => z3 ⟨q.1, q.2.2⟩)).trans (hfr c i j z1 z2), ?_, hRJ.congr (fun a b => u3_n (by omega)), hy0, by omega, ⟨N1, hRJ.feas⟩, Or.inl (by omega)⟩
        rw [u3_s, tI_sub (by rw [hfr 3 0 2 (by decide) (by decide)]; omega) (by rw [hfr 3 0 2 (by decide) (by decide)]; omega), hfr 3 0 2 (by decide) (by decide)]
      · skip
        refine g_iload dX2_pour_21 rfl ?_
        refine g_iload_n dX2_pour_23 rfl ?_
        refine g_icmp_ge 66 dX2_pour_24 (by decide) (fun c_24 => ?_) (fun c_24 => ?_)
        · skip
          refine g_aload_n dX2_pour_66 rfl ?_
          refine g_dup dX2_pour_67 rfl ?_
          refine w_getI w' dX2_pour_68 fl_X2_22 rfl rfl (by first | rfl | assumption) ?_
          refine g_iload dX2_pour_71 rfl ?_
          refine g_isub dX2_pour_73 ?_
          refine w_putI w' dX2_pour_74 fl_X2_22 rfl rfl (by decide) (fun q hq => by cases hq; rfl) (by first | rfl | assumption) rfl rfl (fun h22 w22 => ?_)
          refine g_iload dX2_pour_77 rfl ?_
          rw [hQ]
          refine g_iret dX2_pour_79 rfl rfl (by decide) (by decide) ?_
          have h24 := Int32.le_iff_toInt_le.mp c_24
          refine ⟨y, _, N1, rfl, w22, fun c i j z1 z2 z3 => (u3_n (fun q => z3 ⟨q.1, q.2.2⟩)).trans (hfr c i j z1 z2), ?_, hRJ.congr (fun a b => u3_n (by omega)), hy0, by omega, ⟨N1, hRJ.feas⟩, Or.inl (by omega)⟩
          rw [u3_s, tI_sub (by rw [hfr 3 0 2 (by decide) (by decide)]; omega) (by rw [hfr 3 0 2 (by decide) (by decide)]; omega), hfr 3 0 2 (by decide) (by decide)]
        · skip
          have h24 : ¬ W.toInt ≤ y.toInt := fun z => c_24 (Int32.le_iff_toInt_le.mpr z)
          have hWy : (W - y).toInt = W.toInt - y.toInt := tI_sub (by omega) (by omega)
          refine g_aload_n dX2_pour_27 rfl ?_
          refine g_iload_n dX2_pour_28 rfl ?_
          refine g_iload_n dX2_pour_29 rfl ?_
          refine g_iload dX2_pour_30 rfl ?_
          refine g_isub dX2_pour_32 ?_
          refine g_callV [_, _] dX2_pour_33 mc_X2_73 mi_X2_findWay se_X2_findWay (c_X2_findWay hlt w' hRJ.2.1 ht (u := W - y) (by omega)) (w'.k (by first | rfl | assumption)) rfl rfl (Nat.le_of_ble_eq_true rfl) (am_rm hR (by decide)) (fun _ _ z => z) (fun v hx hq hE => ?_)
          obtain ⟨G1, r, m, rfl, w23, fr, hbj, hclr⟩ := hq
          have hm9 := (hbj.le (by omega)).2
          have hRJ1 : RJ C N1 (addg g t y.toInt) G1 := hRJ.congr (fun a b => fr 9 a b (by decide))
          refine g_istore dX2_pour_36 (by decide) rfl ?_
          refine g_iload dX2_pour_38 rfl ?_
          refine g_if_ne 46 dX2_pour_40 (by decide) (fun c_40 => ?_) (fun c_40 => ?_)
          · skip
            obtain ⟨i0, hi0, ei0⟩ := hbj.2.2.2.2.1 t ht c_40
            have h0i : 0 < i0 := by
              rcases Nat.eq_zero_or_pos i0 with z | z
              · rw [z, hbj.2.1] at ei0
                omega
              · exact z
            obtain ⟨pf, hch⟩ := hbj.ch
            have hup := hbj.pos (by omega) hi0
            have hul := hbj.leU i0 hi0
            have hedge : ∀ s, (∀ y, y ≤ s → 0 < cc pf i0 y) → (G1 10 0 (r i0)).toInt ≤ C (r (pf (cc pf i0 s))) (r (cc pf i0 s)) - N1 (r (pf (cc pf i0 s))) (r (cc pf i0 s)) := fun s hs => by
              have hmon : ∀ s, (∀ y, y < s → 0 < cc pf i0 y) → (G1 10 0 (r i0)).toInt ≤ (G1 10 0 (r (cc pf i0 s))).toInt := fun s => by
                induction s with
                | zero => intro _; exact Int.le_refl _
                | succ s ih =>
                  intro hy
                  have h1 := ih (fun y q => hy y (by omega))
                  have h2 := (hch _ (hy s (by omega)) (cc_lt (m := m) (fun i a b => (hch i a b).1) hi0 s (fun y q => hy y (by omega))).1).2.2.1
                  exact Int.le_trans h1 h2
              have h1 := hmon s (fun y q => hs y (by omega))
              have h2 := (hch _ (hs s (Nat.le_refl _)) (cc_lt (m := m) (fun i a b => (hch i a b).1) hi0 s (fun y q => hs y (by omega))).1).2.2.2
              exact Int.le_trans h1 h2
            rw [← ei0]
            refine g_aload_n dX2_pour_46 rfl ?_
            refine g_iload_n dX2_pour_47 rfl ?_
            refine g_iload dX2_pour_48 rfl ?_
            refine g_callV [_, _] dX2_pour_50 mc_X2_76 mi_X2_flowOnWay se_X2_flowOnWay (c_X2_flowOnWay hlt w23 hRJ1 hC hm9 (fun i hi => (hbj.2.2.2.1 i hi).2) hbj.2.2.2.2.2.2 hbj.2.1 (fun i a b => ⟨(hch i a b).1, (hch i a b).2.1⟩) hi0 h0i (u := G1 10 0 (r i0)) (by omega) (by omega) hedge) (w23.k (by first | rfl | assumption)) rfl rfl (Nat.le_of_ble_eq_true rfl) (am_rm hR (by decide)) (fun _ _ z => z) (fun v hx hq hE => ?_)
            obtain ⟨G2, N2, rfl, w24, fr2, hRJ2⟩ := hq
            refine g_iload dX2_pour_53 rfl ?_
            refine g_iload dX2_pour_55 rfl ?_
            refine g_iadd dX2_pour_57 ?_
            refine g_istore dX2_pour_58 (by decide) rfl ?_
            refine g_iinc dX2_pour_60 rfl (nI_i1 _) (by decide) rfl ?_
            refine g_goto 15 dX2_pour_63 (by decide) ?_
            obtain ⟨d, ed⟩ : ∃ d, d = G1 10 0 (r i0) := ⟨_, rfl⟩
            rw [← ed] at hup hul hRJ2
            rw [← ed, ei0]
            have eyd : (y + d).toInt = y.toInt + d.toInt := tI_add (by omega) (by omega)
            refine g_ls [(5, .int (nI (wy + 1))), (4, .int (y + d)), (3, .int W), (1, .int (nI t)), (0, .ref (L 3 0))] ⟨rfl, rfl, rfl, rfl, rfl, trivial⟩ ?_
            refine ih (wy + 1) _ _ N2 _ (by omega) (by omega) (by omega) (by omega) w24 (fun c i j z1 z2 => (fr2 c i j z1).trans ((fr c i j z2).trans (hfr c i j z1 z2))) ⟨hRJ2.1, hRJ2.2.1, hRJ2.2.2.1, fun v y1 y2 => ?_⟩
            rw [hRJ2.2.2.2 v y1 y2, eyd, ei0]
            unfold addg
            split <;> omega
          · skip
            refine g_goto 66 dX2_pour_43 (by decide) ?_
            refine g_aload_n dX2_pour_66 rfl ?_
            refine g_dup dX2_pour_67 rfl ?_
            refine w_getI w23 dX2_pour_68 fl_X2_22 rfl rfl (by first | rfl | assumption) ?_
            refine g_iload dX2_pour_71 rfl ?_
            refine g_isub dX2_pour_73 ?_
            refine w_putI w23 dX2_pour_74 fl_X2_22 rfl rfl (by decide) (fun q hq => by cases hq; rfl) (by first | rfl | assumption) rfl rfl (fun h25 w25 => ?_)
            refine g_iload dX2_pour_77 rfl ?_
            rw [hQ]
            refine g_iret dX2_pour_79 rfl rfl (by decide) (by decide) ?_
            have hz : G1 10 0 t = 0 := c_40
            have hle := hRJ.2.2.1
            obtain ⟨S, hS0, hSt, hScut⟩ := cutR hle hbj (by omega) ht hz hclr
            have e32 : G1 3 0 2 = Γ 3 0 2 := (fr 3 0 2 (by decide)).trans (hfr 3 0 2 (by decide) (by decide))
            refine ⟨y, _, N1, rfl, w25, fun c i j z1 z2 z3 => (u3_n (fun q => z3 ⟨q.1, q.2.2⟩)).trans ((fr c i j z2).trans (hfr c i j z1 z2)), ?_, hRJ1.congr (fun a b => u3_n (by omega)), Amt.ofCut hy0 (by omega) hRJ.feas hS0 ht hSt hScut⟩
            rw [u3_s, tI_sub (by rw [e32]; omega) (by rw [e32]; omega), e32]
  refine g_ls [(5, .int (nI 0)), (4, .int 0), (3, .int W), (1, .int (nI t)), (0, .ref (L 3 0))] ⟨rfl, rfl, rfl, rfl, rfl, trivial⟩ ?_
  exact lp_15 ((W.toInt - 0).toNat + 1) 0 0 Γ N0 _ (by decide) (by rw [tI_0]; omega) (by decide) (by rw [tI_0]; omega) w (fun _ _ _ _ _ => rfl) ⟨hRJ0.1, hRJ0.2.1, hRJ0.2.2.1, fun v y1 y2 => by rw [hRJ0.2.2.2 v y1 y2, tI_0]; unfold addg; split <;> omega⟩
