set_option maxRecDepth 100000 in
set_option maxHeartbeats 4000000 in
theorem c_X5_before {l : Launch} (hlt : l.stackTraces = false) {N n p : Nat} {ord : List Nat} {L : Nat → Nat → Nat} {Γ : Nat → Nat → Nat → Int32} {o : Int64} {h : am_H} (w : WI N n p ord L Γ o h) {q : Nat} (hq : q ≤ 24) {A B : Nat → Nat} (hp : pJ q A B Γ) {v wv u : Nat} (hv : v < 9) (hw : wv < 48) (e : Γ 12 31 v = nI wv) (hwq : wv % 24 < q) (hu : (wv < 24 ∧ A (wv % 24) = u) ∨ (24 ≤ wv ∧ B (wv % 24) = u)) : am_Con l yX5_before (.code yX5_before cX5_before 2 (some .int)) 1 0 0 [.ref (L 11 0), .int (nI v)] h (fun v h' => v = some (.int (nI u)) ∧ h' = h) (fun _ _ => False) := by
  refine am_body hlt (by decide +kernel) (Nat.le_of_ble_eq_true rfl) (fun k hl hR h0 hno => ?_)
  subst hl
  obtain ⟨Qf, hQ⟩ : ∃ Qf, Qf = am_Q k 0 0 (fun v h' => v = some (.int (nI u)) ∧ h' = h) (fun _ _ => False) := ⟨_, rfl⟩
  rw [← hQ]
  have hm : wdm n p 11 0 = true := rfl
  refine g_aload_n dX5_before_0 rfl ?_
  refine w_getR w dX5_before_1 fl_X5_80 rfl rfl (by first | rfl | assumption) rfl ?_
  refine g_iload_n dX5_before_4 rfl ?_
  refine w_ald w dX5_before_5 (by decide) (by first | rfl | assumption) (by first | assumption | omega | (show _ < 8; omega) | (show _ < 24; omega) | (show _ < 9; omega)) ?_
  rw [e]
  refine g_bipush (v := nI 24) dX5_before_6 (by decide) ?_
  refine gN_ge 25 dX5_before_8 (by decide) (by omega) (by omega) (fun c_8 => ?_) (fun c_8 => ?_)
  · skip
    refine g_aload_n dX5_before_25 rfl ?_
    refine w_getR w dX5_before_26 fl_X5_68 rfl rfl (by first | rfl | assumption) rfl ?_
    refine g_aload_n dX5_before_29 rfl ?_
    refine w_getR w dX5_before_30 fl_X5_80 rfl rfl (by first | rfl | assumption) rfl ?_
    refine g_iload_n dX5_before_33 rfl ?_
    refine w_ald w dX5_before_34 (by decide) (by first | rfl | assumption) (by first | assumption | omega | (show _ < 8; omega) | (show _ < 24; omega) | (show _ < 9; omega)) ?_
    rw [e]
    refine g_bipush (v := nI 24) dX5_before_35 (by decide) ?_
    refine g_isub dX5_before_37 ?_
    rw [show nI wv - nI 24 = nI (wv % 24) from by rw [show wv = wv % 24 + 24 by omega, nI_sub24, Nat.add_mod_right, Nat.mod_mod]]
    have eb : Γ 12 26 (wv % 24) = nI u := by rw [(hp _ hwq).2.2.1]; rcases hu with z | z; omega; rw [z.2]
    have ef := eb
    refine w_ald w dX5_before_38 (by decide) (by first | rfl | assumption) (by first | assumption | omega | (show _ < 8; omega) | (show _ < 24; omega) | (show _ < 9; omega)) ?_
    rw [hQ]
    refine g_iret dX5_before_39 rfl rfl (by decide) (by decide) ?_
    exact ⟨by rw [ef], rfl⟩
  · skip
    refine g_aload_n dX5_before_11 rfl ?_
    refine w_getR w dX5_before_12 fl_X5_65 rfl rfl (by first | rfl | assumption) rfl ?_
    refine g_aload_n dX5_before_15 rfl ?_
    refine w_getR w dX5_before_16 fl_X5_80 rfl rfl (by first | rfl | assumption) rfl ?_
    refine g_iload_n dX5_before_19 rfl ?_
    refine w_ald w dX5_before_20 (by decide) (by first | rfl | assumption) (by first | assumption | omega | (show _ < 8; omega) | (show _ < 24; omega) | (show _ < 9; omega)) ?_
    rw [e]
    have ef : Γ 12 25 wv = nI u := by have z1 := (hp _ hwq).1; rw [show wv % 24 = wv by omega] at z1 hu; rw [z1]; rcases hu with z | z; rw [z.2]; omega
    refine w_ald w dX5_before_21 (by decide) (by first | rfl | assumption) (by first | assumption | omega | (show _ < 8; omega) | (show _ < 24; omega) | (show _ < 9; omega)) ?_
    refine g_goto 39 dX5_before_22 (by decide) ?_
    rw [hQ]
    refine g_iret dX5_before_39 rfl rfl (by decide) (by decide) ?_
    exact ⟨by rw [ef], rfl⟩
theorem lesser_I (a b : Int32) : (if b ≤ a then b else a).toInt = min a.toInt b.toInt := by
  by_cases c : b ≤ a
  · rw [if_pos c]
    have := Int32.le_iff_toInt_le.mp c
    omega
  · rw [if_neg c]
    have : ¬ b.toInt ≤ a.toInt := fun z => c (Int32.le_iff_toInt_le.mpr z)
    omega
def frF (Γ G : Nat → Nat → Nat → Int32) : Prop := ∀ c i j, ¬ (c = 12 ∧ (i = 29 ∨ i = 31 ∨ i = 32)) → ¬ (c = 11 ∧ j = 30) → G c i j = Γ c i j
theorem frF.kg {Γ G : Nat → Nat → Nat → Int32} (h : frF Γ G) : KG G = KG Γ := by
  funext j
  unfold KG
  rw [h 13 28 j (by omega) (by omega), h 12 27 j (by omega) (by omega)]
theorem fr31.fg {Γ G : Nat → Nat → Nat → Int32} (h : fr31 Γ G) : FG G = FG Γ := by
  funext j
  unfold FG
  rw [h 12 29 j (by omega)]
theorem fr31.kg {Γ G : Nat → Nat → Nat → Int32} (h : fr31 Γ G) : KG G = KG Γ := by
  funext j
  unfold KG
  rw [h 13 28 j (by omega), h 12 27 j (by omega)]
theorem pJ.fr {q : Nat} {A B : Nat → Nat} {Γ G : Nat → Nat → Nat → Int32} (h : pJ q A B Γ) (e1 : ∀ j, G 12 25 j = Γ 12 25 j) (e2 : ∀ j, G 12 26 j = Γ 12 26 j) : pJ q A B G := fun j hj => by
  rw [e1, e2]
  exact h j hj
theorem feasG {q : Nat} {A B : Nat → Nat} {Γ G : Nat → Nat → Nat → Int32} {g : Nat → Int} (hc : capJ q G) (hk : KG G = KG Γ) (hin : ∀ v, 0 < v → v < 9 → inflow (NM q (nuf A) (nuf B) (FG G)) v = g v) : Feas (CM q (nuf A) (nuf B) (KG Γ)) (NM q (nuf A) (nuf B) (FG G)) g := by
  rw [← hk]
  exact ⟨NM_anti, fun a b _ _ => NM_le (fun j hj => ⟨(hc j hj).1, (hc j hj).2.1⟩) a b, hin⟩
theorem aug_cap {q : Nat} {G : Nat → Nat → Nat → Int32} {j : Nat} {D : Int32} {d : Int} (h : capJ q G) (hj : j < q) (hD : D.toInt = d) (h1 : 0 ≤ FG G j + d) (h2 : FG G j + d ≤ KG G j) :
    capJ q (u3 G 12 29 j (G 12 29 j + D)) ∧ FG (u3 G 12 29 j (G 12 29 j + D)) j = FG G j + d ∧ ∀ i, i ≠ j → FG (u3 G 12 29 j (G 12 29 j + D)) i = FG G i := by
  have hk := (h j hj).2.2
  have eK : KG (u3 G 12 29 j (G 12 29 j + D)) = KG G := by
    funext i
    unfold KG
    rw [u3_n (by omega), u3_n (by omega)]
  have e1 : FG (u3 G 12 29 j (G 12 29 j + D)) j = FG G j + d := by
    unfold FG at *
    rw [u3_s, tI_add (by omega) (by omega), hD]
  have e2 : ∀ i, i ≠ j → FG (u3 G 12 29 j (G 12 29 j + D)) i = FG G i := fun i hi => by
    unfold FG
    rw [u3_n (by omega)]
  refine ⟨fun i hi => ?_, e1, e2⟩
  rw [eK]
  by_cases c : i = j
  · subst c
    rw [e1]
    exact ⟨h1, h2, hk⟩
  · rw [e2 i c]
    exact h i hi
set_option maxRecDepth 100000 in
set_option maxHeartbeats 4000000 in
theorem c_X5_flows {l : Launch} (hlt : l.stackTraces = false) {N n p : Nat} {ord : List Nat} {L : Nat → Nat → Nat} {Γ : Nat → Nat → Nat → Int32} {o : Int64} {h : am_H} (w : WI N n p ord L Γ o h) {q : Nat} (hq : q ≤ 24) (ep : Γ 11 0 24 = nI q) {A B : Nat → Nat} (hp : pJ q A B Γ) (hcap : capJ q Γ) {g : Nat → Int} (hin : ∀ v, 0 < v → v < 9 → inflow (NM q (nuf A) (nuf B) (FG Γ)) v = g v) {t : Nat} (ht : t < 8) {u : Int32} (hu0 : 0 ≤ u.toInt) (hu : u.toInt ≤ 9999) (hg0 : 0 ≤ (Γ 11 0 30).toInt) (hg1 : (Γ 11 0 30).toInt ≤ (Γ 11 0 2).toInt) (hg2 : (Γ 11 0 2).toInt ≤ 9999) : am_Con l yX5_flows (.code yX5_flows cX5_flows 6 (some .int)) 3 0 0 [.ref (L 11 0), .int (nI t), .int u] h (fun v h' => ∃ (x : Int32) (G : Nat → Nat → Nat → Int32), v = some (.int x) ∧ WI N n p ord L G o h' ∧ frF Γ G ∧ capJ q G ∧ (G 11 0 30).toInt = (Γ 11 0 30).toInt + x.toInt ∧ (∀ v, 0 < v → v < 9 → inflow (NM q (nuf A) (nuf B) (FG G)) v = addg g (t + 1) x.toInt v) ∧ Amt (CM q (nuf A) (nuf B) (KG Γ)) g (t + 1) (min u.toInt ((Γ 11 0 2).toInt - (Γ 11 0 30).toInt)) x.toInt) (fun _ _ => False) := by
  refine am_body hlt (by decide +kernel) (Nat.le_of_ble_eq_true rfl) (fun k hl hR h0 hno => ?_)
  subst hl
  obtain ⟨Qf, hQ⟩ : ∃ Qf, Qf = am_Q k 0 0 (fun v h' => ∃ (x : Int32) (G : Nat → Nat → Nat → Int32), v = some (.int x) ∧ WI N n p ord L G o h' ∧ frF Γ G ∧ capJ q G ∧ (G 11 0 30).toInt = (Γ 11 0 30).toInt + x.toInt ∧ (∀ v, 0 < v → v < 9 → inflow (NM q (nuf A) (nuf B) (FG G)) v = addg g (t + 1) x.toInt v) ∧ Amt (CM q (nuf A) (nuf B) (KG Γ)) g (t + 1) (min u.toInt ((Γ 11 0 2).toInt - (Γ 11 0 30).toInt)) x.toInt) (fun _ _ => False) := ⟨_, rfl⟩
  rw [← hQ]
  have hm : wdm n p 11 0 = true := rfl
  refine g_iconst (v := 0) dX5_flows_0 (by decide) ?_
  refine g_istore_n dX5_flows_1 (by decide) rfl ?_
  have lp_2 : ∀ (f0 : Nat) (x : Int32) (G : Nat → Nat → Nat → Int32) (h' : am_H), 0 ≤ x.toInt ∧ x.toInt ≤ u.toInt → (u.toInt - x.toInt).toNat < f0 → WI N n p ord L G o h' → frF Γ G → capJ q G → (G 11 0 30).toInt = (Γ 11 0 30).toInt + x.toInt → (Γ 11 0 30).toInt + x.toInt ≤ (Γ 11 0 2).toInt → (∀ v, 0 < v → v < 9 → inflow (NM q (nuf A) (nuf B) (FG G)) v = addg g (t + 1) x.toInt v) → am_G k RX5 yX5_flows.name cX5_flows 6 (some .int) 0 0 Qf 2 [(3, .int x), (2, .int u), (1, .int (nI t)), (0, .ref (L 11 0))] [] h' := by
    intro f0
    induction f0 with
    | zero => intro x G h' hxx hf w' hfr hcp hgi hgle hin2; omega
    | succ f0 ih0 =>
      intro x G h' hxx hf w' hfr hcp hgi hgle hin2
      refine g_iload_n dX5_flows_2 rfl ?_
      refine g_iload_n dX5_flows_3 rfl ?_
      refine g_icmp_ge 180 dX5_flows_4 (by decide) (fun c_4 => ?_) (fun c_4 => ?_)
      · skip
        refine g_iload_n dX5_flows_180 rfl ?_
        rw [hQ]
        refine g_iret dX5_flows_181 rfl rfl (by decide) (by decide) ?_
        have hkF := hfr.kg
        exact ⟨x, G, rfl, w', hfr, hcp, hgi, hin2, hxx.1, (by have := Int32.le_iff_toInt_le.mp c_4; omega), ⟨_, feasG hcp hkF hin2⟩, Or.inl (by have := Int32.le_iff_toInt_le.mp c_4; omega)⟩
      · skip
        refine g_aload_n dX5_flows_7 rfl ?_
        refine w_getI w' dX5_flows_8 fl_X5_116 rfl rfl (by first | rfl | assumption) ?_
        refine g_aload_n dX5_flows_11 rfl ?_
        refine w_getI w' dX5_flows_12 fl_X5_113 rfl rfl (by first | rfl | assumption) ?_
        refine g_icmp_ge 180 dX5_flows_15 (by decide) (fun c_15 => ?_) (fun c_15 => ?_)
        · skip
          refine g_iload_n dX5_flows_180 rfl ?_
          rw [hQ]
          refine g_iret dX5_flows_181 rfl rfl (by decide) (by decide) ?_
          have hkF := hfr.kg
          rw [hfr 11 0 2 (by omega) (by omega)] at c_15
          exact ⟨x, G, rfl, w', hfr, hcp, hgi, hin2, hxx.1, (by have := Int32.le_iff_toInt_le.mp c_15; omega), ⟨_, feasG hcp hkF hin2⟩, Or.inl (by have := Int32.le_iff_toInt_le.mp c_15; omega)⟩
        · skip
          have hp0 : pJ q A B G := hp.fr (fun j => hfr 12 25 j (by omega) (by omega)) (fun j => hfr 12 26 j (by omega) (by omega))
          refine g_aload_n dX5_flows_18 rfl ?_
          refine g_iload_n dX5_flows_19 rfl ?_
          refine g_callV [_] dX5_flows_20 mc_X5_123 mi_X5_finds se_X5_finds (c_X5_finds hlt w' hq ((hfr 11 0 24 (by omega) (by omega)).trans ep) hp0 ht) (w'.k (by first | rfl | assumption)) rfl rfl (Nat.le_of_ble_eq_true rfl) (am_rm hR (by decide)) (fun _ _ z => z) (fun v hx hq hE => ?_)
          obtain ⟨fb, G1, r, m, rfl, w21, fr, hbj, hcase⟩ := hq
          have eF := fr.fg
          have eK := fr.kg
          have hfr1 : frF Γ G1 := fun c i j z1 z2 => (fr c i j (fun z => z1 ⟨z.1, by omega⟩)).trans (hfr c i j z1 z2)
          have hcp1 : capJ q G1 := by unfold capJ; rw [eF, eK]; exact hcp
          have hgi1 : (G1 11 0 30).toInt = (Γ 11 0 30).toInt + x.toInt := by rw [fr 11 0 30 (by omega)]; exact hgi
          have hin1 : ∀ v, 0 < v → v < 9 → inflow (NM q (nuf A) (nuf B) (FG G1)) v = addg g (t + 1) x.toInt v := by rw [eF]; exact hin2
          have hp1 : pJ q A B G1 := hp.fr (fun j => hfr1 12 25 j (by omega) (by omega)) (fun j => hfr1 12 26 j (by omega) (by omega))
          refine g_if_eq 180 dX5_flows_23 (by decide) (fun c_23 => ?_) (fun c_23 => ?_)
          · skip
            refine g_iload_n dX5_flows_180 rfl ?_
            rw [hQ]
            refine g_iret dX5_flows_181 rfl rfl (by decide) (by decide) ?_
            have hkF := hfr.kg
            obtain ⟨-, hwt, hclo⟩ : fb = 0 ∧ G1 12 31 t = -1 ∧ ∀ i j, i < m → j < q → clo A B (sp_pw G 1) (sp_pw G 0) r m i j := by
              rcases hcase with z | z
              · exact absurd (z.1.symm.trans c_23) (by decide)
              · exact z
            obtain ⟨S, hS0, hSt, hScut⟩ := cut_of hcp (fun j hj => ⟨(hp j hj).2.1, by have := (hp j hj).2.2.2.1; omega⟩) hbj ht hwt hclo
            have h4n : ¬ u.toInt ≤ x.toInt := fun z => c_4 (Int32.le_iff_toInt_le.mpr z)
            have h15n : ¬ (G 11 0 2).toInt ≤ (G 11 0 30).toInt := fun z => c_15 (Int32.le_iff_toInt_le.mpr z)
            rw [hfr 11 0 2 (by omega) (by omega)] at h15n
            exact ⟨x, G1, rfl, w21, hfr1, hcp1, hgi1, hin1, Amt.ofCut hxx.1 (by omega) (feasG hcp hkF hin2) hS0 (by omega) hSt (fun a b _ _ z1 z2 => (hScut a b z1 z2).trans (by rw [hkF]))⟩
          · skip
            have hwt : ¬ G1 12 31 t = -1 := by rcases hcase with z | z; exact z.2; exact absurd z.1 c_23
            obtain ⟨i0, hi0, him0, hri0⟩ := hbj.2.2.2.2.2.1 t ht hwt
            obtain ⟨wf, pf, hch⟩ := hbj.ch fr
            have hpf : ∀ i, 0 < i → i < m → pf i < i := fun i a b => (hch i a b).1
            have h4n : ¬ u.toInt ≤ x.toInt := fun z => c_4 (Int32.le_iff_toInt_le.mpr z)
            have h15n : ¬ (G 11 0 2).toInt ≤ (G 11 0 30).toInt := fun z => c_15 (Int32.le_iff_toInt_le.mpr z)
            rw [hfr 11 0 2 (by omega) (by omega)] at h15n
            have e2' : (G1 11 0 2).toInt = (Γ 11 0 2).toInt := by rw [hfr1 11 0 2 (by omega) (by omega)]
            refine g_iload_n dX5_flows_26 rfl ?_
            refine g_iload_n dX5_flows_27 rfl ?_
            refine g_isub dX5_flows_28 ?_
            refine g_aload_n dX5_flows_29 rfl ?_
            refine w_getI w21 dX5_flows_30 fl_X5_113 rfl rfl (by first | rfl | assumption) ?_
            refine g_aload_n dX5_flows_33 rfl ?_
            refine w_getI w21 dX5_flows_34 fl_X5_116 rfl rfl (by first | rfl | assumption) ?_
            refine g_isub dX5_flows_37 ?_
            refine g_callS [_, _] dX5_flows_38 mc_X5_126 ms_X5_lesser (c_X5_lesser hlt _ _) rfl (Nat.le_of_ble_eq_true rfl) (am_rm hR (by decide)) (fun _ _ z => z) (fun v hx hq hE => ?_)
            obtain ⟨rfl, rfl⟩ := hq
            obtain ⟨b0, eb0⟩ : ∃ b0, b0 = (if G1 11 0 2 - G1 11 0 30 ≤ u - x then G1 11 0 2 - G1 11 0 30 else u - x) := ⟨_, rfl⟩
            rw [← eb0]
            have hb0 : 1 ≤ b0.toInt ∧ b0.toInt ≤ u.toInt - x.toInt ∧ b0.toInt ≤ (Γ 11 0 2).toInt - (Γ 11 0 30).toInt - x.toInt := by
              rw [eb0, lesser_I, tI_sub (by omega) (by omega), tI_sub (by omega) (by omega)]
              omega
            refine g_istore dX5_flows_41 (by decide) rfl ?_
            refine g_iload_n dX5_flows_43 rfl ?_
            refine g_istore dX5_flows_44 (by decide) rfl ?_
            have lp_46 : ∀ (f1 : Nat) (s a : Nat) (b : Int32), cc pf i0 s < m → cc pf i0 s < f1 → a = r (cc pf i0 s) → 1 ≤ b.toInt ∧ b.toInt ≤ b0.toInt → (∀ s', s' < s → 0 < cc pf i0 s' ∧ b.toInt ≤ (sp_rm G1 (wf (cc pf i0 s') % 24) (wd (wf (cc pf i0 s')))).toInt) → am_G k RX5 yX5_flows.name cX5_flows 6 (some .int) 0 0 Qf 46 [(5, .int (nI a)), (4, .int b), (3, .int x), (2, .int u), (1, .int (nI t)), (0, .ref (L 11 0))] [] hx := by
              intro f1
              induction f1 with
              | zero => intro s a b hs hf ha hb hV; omega
              | succ f1 ih1 =>
                intro s a b hs hf ha hb hV
                have ha8 : a ≤ 8 := by rw [ha]; exact (hbj.2.2.2.1 _ hs).2
                refine g_iload dX5_flows_46 rfl ?_
                refine g_bipush (v := nI 8) dX5_flows_48 (by decide) ?_
                refine gN_eq 102 dX5_flows_50 (by decide) (by omega) (by omega) (fun c_50 => ?_) (fun c_50 => ?_)
                · skip
                  have hcs0 : cc pf i0 s = 0 := by
                    rcases Nat.eq_zero_or_pos (cc pf i0 s) with z | z
                    · exact z
                    · have := hbj.2.2.2.2.1 _ z hs
                      omega
                  refine g_iload_n dX5_flows_102 rfl ?_
                  refine g_istore dX5_flows_103 (by decide) rfl ?_
                  have lp_105 : ∀ (f2 : Nat) (s2 a2 : Nat) (G2 : Nat → Nat → Nat → Int32) (h2 : am_H), s2 ≤ s → s - s2 < f2 → a2 = r (cc pf i0 s2) → WI N n p ord L G2 o h2 → (∀ c i j, ¬ (c = 12 ∧ i = 29) → G2 c i j = G1 c i j) → capJ q G2 → (∀ s', s2 ≤ s' → s' < s → FG G2 (wf (cc pf i0 s') % 24) = FG G1 (wf (cc pf i0 s') % 24)) → (∀ v, 0 < v → v < 9 → inflow (NM q (nuf A) (nuf B) (FG G2)) v = inflow (NM q (nuf A) (nuf B) (FG G1)) v + (if v = nu t then b.toInt else 0) - (if v = nu a2 then b.toInt else 0)) → am_G k RX5 yX5_flows.name cX5_flows 6 (some .int) 0 0 Qf 105 [(5, .int (nI a2)), (4, .int b), (3, .int x), (2, .int u), (1, .int (nI t)), (0, .ref (L 11 0))] [] h2 := by
                    intro f2
                    induction f2 with
                    | zero => intro s2 a2 G2 h2 hs2 hf2 ha2 w2' hfr2 hcp2 hF2 hI2; omega
                    | succ f2 ih2 =>
                      intro s2 a2 G2 h2 hs2 hf2 ha2 w2' hfr2 hcp2 hF2 hI2
                      have ha28 : a2 ≤ 8 := by rw [ha2]; exact (hbj.2.2.2.1 _ (cc_lt hpf him0 s2 (fun y hy => (hV y (by omega)).1)).1).2
                      refine g_iload dX5_flows_105 rfl ?_
                      refine g_bipush (v := nI 8) dX5_flows_107 (by decide) ?_
                      refine gN_eq 161 dX5_flows_109 (by decide) (by omega) (by omega) (fun c_109 => ?_) (fun c_109 => ?_)
                      · skip
                        have hnt : nu t = t + 1 := by unfold nu; rw [if_neg (by omega)]
                        have hfb := hb.1
                        refine g_aload_n dX5_flows_161 rfl ?_
                        refine g_dup dX5_flows_162 rfl ?_
                        refine w_getI w2' dX5_flows_163 fl_X5_116 rfl rfl (by first | rfl | assumption) ?_
                        refine g_iload dX5_flows_166 rfl ?_
                        refine g_iadd dX5_flows_168 ?_
                        refine w_putI w2' dX5_flows_169 fl_X5_116 rfl rfl (by decide) (fun q hq => by cases hq; rfl) (by first | rfl | assumption) rfl rfl (fun h62 w62 => ?_)
                        refine g_iload_n dX5_flows_172 rfl ?_
                        refine g_iload dX5_flows_173 rfl ?_
                        refine g_iadd dX5_flows_175 ?_
                        refine g_istore_n dX5_flows_176 (by decide) rfl ?_
                        refine g_goto 2 dX5_flows_177 (by decide) ?_
                        have exb : (x + b).toInt = x.toInt + b.toInt := tI_add (by omega) (by omega)
                        refine g_ls [(3, .int (x + b)), (2, .int u), (1, .int (nI t)), (0, .ref (L 11 0))] ⟨rfl, rfl, rfl, rfl, trivial⟩ ?_
                        refine ih0 (x + b) _ _ ⟨by omega, by omega⟩ (by omega) w62 (fun c i j z1 z2 => ?_) ?_ ?_ (by omega) (fun v y1 y2 => ?_)
                        · rw [u3_n (fun z => z2 ⟨z.1, z.2.2⟩), hfr2 c i j (fun z => z1 ⟨z.1, Or.inl z.2⟩)]
                          exact hfr1 c i j z1 z2
                        · exact hcp2
                        · rw [u3_s, tI_add (by rw [hfr2 11 0 30 (by omega)]; omega) (by rw [hfr2 11 0 30 (by omega)]; omega), hfr2 11 0 30 (by omega), hgi1]
                          omega
                        · have z := hI2 v y1 y2
                          rw [hin1 v y1 y2, hnt, c_109] at z
                          rw [if_neg (show ¬ v = nu 8 from fun y => absurd y1 (by rw [y]; decide))] at z
                          show inflow (NM q (nuf A) (nuf B) (FG G2)) v = _
                          rw [z]
                          unfold addg
                          split <;> omega
                      · skip
                        have hs2 : s2 < s := by
                          rcases Nat.lt_or_ge s2 s with z | z
                          · exact z
                          · have z2 : s2 = s := by omega
                            rw [z2, hcs0, hbj.2.1] at ha2
                            omega
                        obtain ⟨hc0, hbr⟩ := hV s2 hs2
                        have hs2m : cc pf i0 s2 < m := (cc_lt hpf him0 s2 (fun y hy => (hV y (by omega)).1)).1
                        obtain ⟨k1, k2, k3, k4, k5, k6⟩ := hch _ hc0 hs2m
                        have hne2 : ∀ s', s2 < s' → s' < s → wf (cc pf i0 s') % 24 ≠ wf (cc pf i0 s2) % 24 := fun s' y1 y2 z => by
                          refine ch_once hch hbj.2.2.2.2.2.2.2 hc0 hs2m (hV s' y2).1 ?_ z.symm
                          have y3 := (cc_lt hpf him0 s' (fun y hy => (hV y (by omega)).1)).2
                          rcases Nat.lt_or_ge (s2 + 1) s' with y4 | y4
                          · have := y3 (s2 + 1) y4
                            exact Nat.le_of_lt this
                          · have y5 : s' = s2 + 1 := by omega
                            rw [y5]
                            exact Nat.le_refl _
                        have hsame := hF2 s2 (Nat.le_refl _) hs2
                        rw [← ha2] at k3 k6
                        obtain ⟨wv, ew⟩ : ∃ wv, wv = wf (cc pf i0 s2) := ⟨_, rfl⟩
                        rw [← ew] at k2 k3 k4 k5 k6 hbr hne2 hsame
                        obtain ⟨rk1, rk0⟩ := rm_I hcp1 k4
                        have eK2 : KG G2 = KG G1 := by
                          funext j
                          unfold KG
                          rw [hfr2 13 28 j (by omega), hfr2 12 27 j (by omega)]
                        have hcj := hcp1 _ k4
                        obtain ⟨pA8, pB8, pAB⟩ : A (wv % 24) ≤ 8 ∧ B (wv % 24) ≤ 8 ∧ A (wv % 24) ≠ B (wv % 24) := by
                          have := hp _ k4
                          exact ⟨this.2.1, by omega, this.2.2.2.2⟩
                        refine g_aload_n dX5_flows_112 rfl ?_
                        refine w_getR w2' dX5_flows_113 fl_X5_77 rfl rfl (by first | rfl | assumption) rfl ?_
                        refine g_aload_n dX5_flows_116 rfl ?_
                        refine w_getR w2' dX5_flows_117 fl_X5_80 rfl rfl (by first | rfl | assumption) rfl ?_
                        refine g_iload dX5_flows_120 rfl ?_
                        refine w_ald w2' dX5_flows_122 (by decide) (by first | rfl | assumption) (by first | assumption | omega | (show _ < 8; omega) | (show _ < 24; omega) | (show _ < 9; omega)) ?_
                        rw [(hfr2 12 31 a2 (by omega)).trans k3]
                        refine g_bipush (v := 24) dX5_flows_123 (by decide) ?_
                        refine g_irem dX5_flows_125 (by decide) ?_
                        rw [nI_rem24 wv k2]
                        refine g_dup2 dX5_flows_126 rfl rfl ?_
                        refine w_ald w2' dX5_flows_127 (by decide) (by first | rfl | assumption) (by first | assumption | omega | (show _ < 8; omega) | (show _ < 24; omega) | (show _ < 9; omega)) ?_
                        refine g_aload_n dX5_flows_128 rfl ?_
                        refine w_getR w2' dX5_flows_129 fl_X5_80 rfl rfl (by first | rfl | assumption) rfl ?_
                        refine g_iload dX5_flows_132 rfl ?_
                        refine w_ald w2' dX5_flows_134 (by decide) (by first | rfl | assumption) (by first | assumption | omega | (show _ < 8; omega) | (show _ < 24; omega) | (show _ < 9; omega)) ?_
                        rw [(hfr2 12 31 a2 (by omega)).trans k3]
                        refine g_bipush (v := nI 24) dX5_flows_135 (by decide) ?_
                        refine gN_ge 145 dX5_flows_137 (by decide) (by omega) (by omega) (fun c_137 => ?_) (fun c_137 => ?_)
                        · skip
                          refine g_iload dX5_flows_145 rfl ?_
                          refine g_ineg dX5_flows_147 ?_
                          refine g_iadd dX5_flows_148 ?_
                          refine w_ast w2' dX5_flows_149 (by decide) (by first | rfl | assumption) (by first | assumption | omega | (show _ < 8; omega) | (show _ < 24; omega) | (show _ < 9; omega)) (fun h63 w63 => ?_)
                          have ewd : wd wv = 0 := if_neg (by omega)
                          rw [ewd] at hbr
                          obtain ⟨hcp3, hF3, hF3n⟩ := aug_cap (D := (-b)) (d := (-b.toInt)) hcp2 k4 (tI_neg (by omega)) (by rw [hsame]; omega) (by rw [hsame, eK2]; omega)
                          obtain ⟨G3, eG3⟩ : ∃ G3, G3 = u3 G2 12 29 (wv % 24) (G2 12 29 (wv % 24) + (-b)) := ⟨_, rfl⟩
                          rw [← eG3] at w63 hcp3 hF3 hF3n
                          have hfr3 : ∀ c i j, ¬ (c = 12 ∧ i = 29) → G3 c i j = G1 c i j := fun c i j z => by rw [eG3, u3_n (fun y => z ⟨y.1, y.2.1⟩)]; exact hfr2 c i j z
                          have hin3 := aug_in (F := FG G2) (F' := FG G3) (u := r (pf (cc pf i0 s2))) (v := a2) (by' := b.toInt) k4 pA8 pB8 pAB (fun i _ hi => hF3n i hi) hF3 (by rcases k6 with z | z; omega; exact Or.inr ⟨rfl, z.2⟩)
                          have hp3 : pJ q A B G3 := hp1.fr (fun j => hfr3 12 25 j (by omega)) (fun j => hfr3 12 26 j (by omega))
                          refine g_aload_n dX5_flows_150 rfl ?_
                          refine g_iload dX5_flows_151 rfl ?_
                          refine g_callV [_] dX5_flows_153 mc_X5_130 mi_X5_before se_X5_before (c_X5_before hlt w63 hq hp3 (u := r (pf (cc pf i0 s2))) (by omega) k2 ((hfr3 12 31 a2 (by omega)).trans k3) k4 (by rcases k6 with z | z; exact Or.inl ⟨z.1, z.2.2⟩; exact Or.inr ⟨z.1, z.2.2⟩)) (w63.k (by first | rfl | assumption)) rfl rfl (Nat.le_of_ble_eq_true rfl) (am_rm hR (by decide)) (fun _ _ z => z) (fun v hx hq hE => ?_)
                          obtain ⟨rfl, rfl⟩ := hq
                          refine g_istore dX5_flows_156 (by decide) rfl ?_
                          refine g_goto 105 dX5_flows_158 (by decide) ?_
                          refine g_ls [(5, .int (nI (r (pf (cc pf i0 s2))))), (4, .int b), (3, .int x), (2, .int u), (1, .int (nI t)), (0, .ref (L 11 0))] ⟨rfl, rfl, rfl, rfl, rfl, rfl, trivial⟩ ?_
                          refine ih2 (s2 + 1) _ G3 _ (by omega) (by omega) rfl w63 hfr3 hcp3 (fun s' y1 y2 => ?_) (fun v y1 y2 => ?_)
                          · rw [hF3n _ (hne2 s' (by omega) y2)]
                            exact hF2 s' (by omega) y2
                          · rw [hin3 v, hI2 v y1 y2]
                            omega
                        · skip
                          refine g_iload dX5_flows_140 rfl ?_
                          refine g_goto 148 dX5_flows_142 (by decide) ?_
                          refine g_iadd dX5_flows_148 ?_
                          refine w_ast w2' dX5_flows_149 (by decide) (by first | rfl | assumption) (by first | assumption | omega | (show _ < 8; omega) | (show _ < 24; omega) | (show _ < 9; omega)) (fun h64 w64 => ?_)
                          have ewd : wd wv = 1 := if_pos (by omega)
                          rw [ewd] at hbr
                          obtain ⟨hcp3, hF3, hF3n⟩ := aug_cap (D := b) (d := b.toInt) hcp2 k4 rfl (by rw [hsame]; omega) (by rw [hsame, eK2]; omega)
                          obtain ⟨G3, eG3⟩ : ∃ G3, G3 = u3 G2 12 29 (wv % 24) (G2 12 29 (wv % 24) + b) := ⟨_, rfl⟩
                          rw [← eG3] at w64 hcp3 hF3 hF3n
                          have hfr3 : ∀ c i j, ¬ (c = 12 ∧ i = 29) → G3 c i j = G1 c i j := fun c i j z => by rw [eG3, u3_n (fun y => z ⟨y.1, y.2.1⟩)]; exact hfr2 c i j z
                          have hin3 := aug_in (F := FG G2) (F' := FG G3) (u := r (pf (cc pf i0 s2))) (v := a2) (by' := b.toInt) k4 pA8 pB8 pAB (fun i _ hi => hF3n i hi) hF3 (by rcases k6 with z | z; exact Or.inl ⟨rfl, z.2⟩; omega)
                          have hp3 : pJ q A B G3 := hp1.fr (fun j => hfr3 12 25 j (by omega)) (fun j => hfr3 12 26 j (by omega))
                          refine g_aload_n dX5_flows_150 rfl ?_
                          refine g_iload dX5_flows_151 rfl ?_
                          refine g_callV [_] dX5_flows_153 mc_X5_130 mi_X5_before se_X5_before (c_X5_before hlt w64 hq hp3 (u := r (pf (cc pf i0 s2))) (by omega) k2 ((hfr3 12 31 a2 (by omega)).trans k3) k4 (by rcases k6 with z | z; exact Or.inl ⟨z.1, z.2.2⟩; exact Or.inr ⟨z.1, z.2.2⟩)) (w64.k (by first | rfl | assumption)) rfl rfl (Nat.le_of_ble_eq_true rfl) (am_rm hR (by decide)) (fun _ _ z => z) (fun v hx hq hE => ?_)
                          obtain ⟨rfl, rfl⟩ := hq
                          refine g_istore dX5_flows_156 (by decide) rfl ?_
                          refine g_goto 105 dX5_flows_158 (by decide) ?_
                          refine g_ls [(5, .int (nI (r (pf (cc pf i0 s2))))), (4, .int b), (3, .int x), (2, .int u), (1, .int (nI t)), (0, .ref (L 11 0))] ⟨rfl, rfl, rfl, rfl, rfl, rfl, trivial⟩ ?_
                          refine ih2 (s2 + 1) _ G3 _ (by omega) (by omega) rfl w64 hfr3 hcp3 (fun s' y1 y2 => ?_) (fun v y1 y2 => ?_)
                          · rw [hF3n _ (hne2 s' (by omega) y2)]
                            exact hF2 s' (by omega) y2
                          · rw [hin3 v, hI2 v y1 y2]
                            omega
                  refine g_ls [(5, .int (nI t)), (4, .int b), (3, .int x), (2, .int u), (1, .int (nI t)), (0, .ref (L 11 0))] ⟨rfl, rfl, rfl, rfl, rfl, rfl, trivial⟩ ?_
                  exact lp_105 (s + 1) 0 t G1 _ (by omega) (by omega) hri0.symm w21 (fun _ _ _ _ => rfl) hcp1 (fun _ _ _ => rfl) (fun v y1 y2 => by omega)
                · skip
                  have hc0 : 0 < cc pf i0 s := by
                    rcases Nat.eq_zero_or_pos (cc pf i0 s) with z | z
                    · rw [z, hbj.2.1] at ha
                      omega
                    · exact z
                  obtain ⟨k1, k2, k3, k4, k5, k6⟩ := hch _ hc0 hs
                  rw [← ha] at k3 k6
                  obtain ⟨wv, ew⟩ : ∃ wv, wv = wf (cc pf i0 s) := ⟨_, rfl⟩
                  rw [← ew] at k2 k3 k4 k5 k6
                  refine g_iload dX5_flows_53 rfl ?_
                  refine g_aload_n dX5_flows_55 rfl ?_
                  refine g_aload_n dX5_flows_56 rfl ?_
                  refine w_getR w21 dX5_flows_57 fl_X5_80 rfl rfl (by first | rfl | assumption) rfl ?_
                  refine g_iload dX5_flows_60 rfl ?_
                  refine w_ald w21 dX5_flows_62 (by decide) (by first | rfl | assumption) (by first | assumption | omega | (show _ < 8; omega) | (show _ < 24; omega) | (show _ < 9; omega)) ?_
                  rw [k3]
                  refine g_bipush (v := 24) dX5_flows_63 (by decide) ?_
                  refine g_irem dX5_flows_65 (by decide) ?_
                  rw [nI_rem24 wv k2]
                  refine g_aload_n dX5_flows_66 rfl ?_
                  refine w_getR w21 dX5_flows_67 fl_X5_80 rfl rfl (by first | rfl | assumption) rfl ?_
                  refine g_iload dX5_flows_70 rfl ?_
                  refine w_ald w21 dX5_flows_72 (by decide) (by first | rfl | assumption) (by first | assumption | omega | (show _ < 8; omega) | (show _ < 24; omega) | (show _ < 9; omega)) ?_
                  rw [k3]
                  refine g_bipush (v := nI 24) dX5_flows_73 (by decide) ?_
                  refine gN_ge 82 dX5_flows_75 (by decide) (by omega) (by omega) (fun c_75 => ?_) (fun c_75 => ?_)
                  · skip
                    refine g_iconst (v := 0) dX5_flows_82 (by decide) ?_
                    have ewd : wd wv = 0 := if_neg (by omega)
                    refine g_callV [_, _] dX5_flows_83 mc_X5_119 mi_X5_room se_X5_room (c_X5_rm hlt w21 (j := wv % 24) (by omega) _) (w21.k (by first | rfl | assumption)) rfl rfl (Nat.le_of_ble_eq_true rfl) (am_rm hR (by decide)) (fun _ _ z => z) (fun v hx hq hE => ?_)
                    obtain ⟨rfl, rfl⟩ := hq
                    refine g_callS [_, _] dX5_flows_86 mc_X5_126 ms_X5_lesser (c_X5_lesser hlt _ _) rfl (Nat.le_of_ble_eq_true rfl) (am_rm hR (by decide)) (fun _ _ z => z) (fun v hx hq hE => ?_)
                    obtain ⟨rfl, rfl⟩ := hq
                    refine g_istore dX5_flows_89 (by decide) rfl ?_
                    refine g_aload_n dX5_flows_91 rfl ?_
                    refine g_iload dX5_flows_92 rfl ?_
                    refine g_callV [_] dX5_flows_94 mc_X5_130 mi_X5_before se_X5_before (c_X5_before hlt w21 hq hp1 (u := r (pf (cc pf i0 s))) (by omega) k2 k3 k4 (by rcases k6 with z | z; exact Or.inl ⟨z.1, z.2.2⟩; exact Or.inr ⟨z.1, z.2.2⟩)) (w21.k (by first | rfl | assumption)) rfl rfl (Nat.le_of_ble_eq_true rfl) (am_rm hR (by decide)) (fun _ _ z => z) (fun v hx hq hE => ?_)
                    obtain ⟨rfl, rfl⟩ := hq
                    refine g_istore dX5_flows_97 (by decide) rfl ?_
                    refine g_goto 46 dX5_flows_99 (by decide) ?_
                    rw [← ewd]
                    have hr1 : 0 < (sp_rm G1 (wv % 24) (wd wv)).toInt := by
                      rcases Int.lt_or_le 0 (sp_rm G1 (wv % 24) (wd wv)).toInt with z | z
                      · exact z
                      · exact absurd (Int32.le_iff_toInt_le.mpr (by rw [tI_0]; exact z)) k5
                    refine g_ls [(5, .int (nI (r (pf (cc pf i0 s))))), (4, .int _), (3, .int x), (2, .int u), (1, .int (nI t)), (0, .ref (L 11 0))] ⟨rfl, rfl, rfl, rfl, rfl, rfl, trivial⟩ ?_
                    refine ih1 (s + 1) _ _ (by show pf _ < m; omega) (by show pf _ < f1; omega) rfl ?_ (fun s' y => ?_)
                    · rw [lesser_I]
                      omega
                    · rw [lesser_I]
                      by_cases z : s' = s
                      · subst z
                        rw [← ew]
                        exact ⟨hc0, by omega⟩
                      · have := hV s' (by omega)
                        exact ⟨this.1, by omega⟩
                  · skip
                    refine g_iconst (v := 1) dX5_flows_78 (by decide) ?_
                    refine g_goto 83 dX5_flows_79 (by decide) ?_
                    have ewd : wd wv = 1 := if_pos (by omega)
                    refine g_callV [_, _] dX5_flows_83 mc_X5_119 mi_X5_room se_X5_room (c_X5_rm hlt w21 (j := wv % 24) (by omega) _) (w21.k (by first | rfl | assumption)) rfl rfl (Nat.le_of_ble_eq_true rfl) (am_rm hR (by decide)) (fun _ _ z => z) (fun v hx hq hE => ?_)
                    obtain ⟨rfl, rfl⟩ := hq
                    refine g_callS [_, _] dX5_flows_86 mc_X5_126 ms_X5_lesser (c_X5_lesser hlt _ _) rfl (Nat.le_of_ble_eq_true rfl) (am_rm hR (by decide)) (fun _ _ z => z) (fun v hx hq hE => ?_)
                    obtain ⟨rfl, rfl⟩ := hq
                    refine g_istore dX5_flows_89 (by decide) rfl ?_
                    refine g_aload_n dX5_flows_91 rfl ?_
                    refine g_iload dX5_flows_92 rfl ?_
                    refine g_callV [_] dX5_flows_94 mc_X5_130 mi_X5_before se_X5_before (c_X5_before hlt w21 hq hp1 (u := r (pf (cc pf i0 s))) (by omega) k2 k3 k4 (by rcases k6 with z | z; exact Or.inl ⟨z.1, z.2.2⟩; exact Or.inr ⟨z.1, z.2.2⟩)) (w21.k (by first | rfl | assumption)) rfl rfl (Nat.le_of_ble_eq_true rfl) (am_rm hR (by decide)) (fun _ _ z => z) (fun v hx hq hE => ?_)
                    obtain ⟨rfl, rfl⟩ := hq
                    refine g_istore dX5_flows_97 (by decide) rfl ?_
                    refine g_goto 46 dX5_flows_99 (by decide) ?_
                    rw [← ewd]
                    have hr1 : 0 < (sp_rm G1 (wv % 24) (wd wv)).toInt := by
                      rcases Int.lt_or_le 0 (sp_rm G1 (wv % 24) (wd wv)).toInt with z | z
                      · exact z
                      · exact absurd (Int32.le_iff_toInt_le.mpr (by rw [tI_0]; exact z)) k5
                    refine g_ls [(5, .int (nI (r (pf (cc pf i0 s))))), (4, .int _), (3, .int x), (2, .int u), (1, .int (nI t)), (0, .ref (L 11 0))] ⟨rfl, rfl, rfl, rfl, rfl, rfl, trivial⟩ ?_
                    refine ih1 (s + 1) _ _ (by show pf _ < m; omega) (by show pf _ < f1; omega) rfl ?_ (fun s' y => ?_)
                    · rw [lesser_I]
                      omega
                    · rw [lesser_I]
                      by_cases z : s' = s
                      · subst z
                        rw [← ew]
                        exact ⟨hc0, by omega⟩
                      · have := hV s' (by omega)
                        exact ⟨this.1, by omega⟩
            refine g_ls [(5, .int (nI t)), (4, .int b0), (3, .int x), (2, .int u), (1, .int (nI t)), (0, .ref (L 11 0))] ⟨rfl, rfl, rfl, rfl, rfl, rfl, trivial⟩ ?_
            exact lp_46 (cc pf i0 0 + 1) 0 t b0 him0 (by omega) hri0.symm ⟨hb0.1, Int.le_refl _⟩ (fun s' y => absurd y (Nat.not_lt_zero _))
  refine g_ls [(3, .int 0), (2, .int u), (1, .int (nI t)), (0, .ref (L 11 0))] ⟨rfl, rfl, rfl, rfl, trivial⟩ ?_
  have e0 := tI_0
  refine lp_2 ((u.toInt - 0).toNat + 1) 0 Γ h ⟨by omega, by omega⟩ (by rw [e0]; omega) w (fun _ _ _ _ _ => rfl) hcap (by omega) (by omega) (fun v y1 y2 => ?_)
  rw [hin v y1 y2, tI_0]
  unfold addg
  split <;> omega
