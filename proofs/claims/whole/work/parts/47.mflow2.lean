def sp_bit (a : Int32) (k : Nat) : Int := if (a >>> (nI k &&& 31)) &&& 1 = 1 then 9999 else 0
theorem Amt.zero {C N : Nat → Nat → Int} {g : Nat → Int} {t : Nat} {cap : Int} (h : Feas C N g) (hc : cap = 0) : Amt C g t cap 0 :=
  ⟨Int.le_refl _, Int.le_of_eq hc.symm, ⟨N, h.1, h.2.1, fun v a b => by rw [h.2.2 v a b]; unfold addg; split <;> omega⟩, Or.inl hc.symm⟩
set_option maxRecDepth 100000 in
set_option maxHeartbeats 4000000 in
theorem c_X5_most_1 {l : Launch} (hlt : l.stackTraces = false) {N n p : Nat} {ord : List Nat} {L : Nat → Nat → Nat} {Γ : Nat → Nat → Nat → Int32} {o : Int64} {h : am_H} (w : WI N n p ord L Γ o h) {b : Nat} (hb : b ≤ 8) (en : Γ 11 0 3 = nI b) {a : Int32} (ha : a < 0 ∨ (1 : Int32) <<< (nI b &&& 31) ≤ a) : am_Con l yX5_most (.code yX5_most cX5_most 4 (some .int)) 20 0 0 [.ref (L 11 0), .int a] h (fun v h' => v = some (.int 0) ∧ WI N n p ord L (u3 Γ 11 0 34 1) o h') (fun _ _ => False) := by
  refine am_body hlt (by decide +kernel) (Nat.le_of_ble_eq_true rfl) (fun k hl hR h0 hno => ?_)
  subst hl
  obtain ⟨Qf, hQ⟩ : ∃ Qf, Qf = am_Q k 0 0 (fun v h' => v = some (.int 0) ∧ WI N n p ord L (u3 Γ 11 0 34 1) o h') (fun _ _ => False) := ⟨_, rfl⟩
  rw [← hQ]
  have hm : wdm n p 11 0 = true := rfl
  refine g_aload_n dX5_most_0 rfl ?_
  refine g_iload_n dX5_most_1 rfl ?_
  refine g_if_lt 15 dX5_most_2 (by decide) (fun c_2 => ?_) (fun c_2 => ?_)
  · skip
    refine g_iconst (v := 1) dX5_most_15 (by decide) ?_
    refine g_goto 20 dX5_most_16 (by decide) ?_
    refine g_callV [_] dX5_most_20 mc_X5_103 mi_X5_can se_X5_can (c_X5_can_1 hlt w (a := 1) (by decide)) (w.k (by first | rfl | assumption)) rfl rfl (Nat.le_of_ble_eq_true rfl) (am_rm hR (by decide)) (fun _ _ z => z) (fun v hx hq hE => ?_)
    obtain ⟨rfl, w1⟩ := hq
    obtain ⟨Γ1, hG⟩ : ∃ G, G = u3 Γ 11 0 34 1 := ⟨_, rfl⟩
    rw [← hG] at w1
    have en1 : Γ1 11 0 3 = Γ 11 0 3 := by rw [hG]; rfl
    have ep1 : Γ1 11 0 24 = Γ 11 0 24 := by rw [hG]; rfl
    refine g_if_ne 28 dX5_most_23 (by decide) (fun z => absurd z (by decide)) (fun _ => ?_)
    refine g_iconst (v := 0) dX5_most_26 (by decide) ?_
    rw [hQ]
    refine g_iret dX5_most_27 rfl rfl (by decide) (by decide) ?_
    subst hG
    exact ⟨rfl, w1⟩
  · skip
    refine g_iload_n dX5_most_5 rfl ?_
    refine g_iconst (v := 1) dX5_most_6 (by decide) ?_
    refine g_aload_n dX5_most_7 rfl ?_
    refine w_getI w dX5_most_8 fl_X5_93 rfl rfl (by first | rfl | assumption) ?_
    rw [en]
    refine g_ishl dX5_most_11 ?_
    refine g_icmp_lt 19 dX5_most_12 (by decide) (fun c_12 => ?_) (fun c_12 => ?_)
    · skip
      exact absurd ha (by intro z; rcases z with z | z; exact c_2 z; exact absurd c_12 (Int32.not_lt.mpr z))
    · skip
      refine g_iconst (v := 1) dX5_most_15 (by decide) ?_
      refine g_goto 20 dX5_most_16 (by decide) ?_
      refine g_callV [_] dX5_most_20 mc_X5_103 mi_X5_can se_X5_can (c_X5_can_1 hlt w (a := 1) (by decide)) (w.k (by first | rfl | assumption)) rfl rfl (Nat.le_of_ble_eq_true rfl) (am_rm hR (by decide)) (fun _ _ z => z) (fun v hx hq hE => ?_)
      obtain ⟨rfl, w2⟩ := hq
      obtain ⟨Γ1, hG⟩ : ∃ G, G = u3 Γ 11 0 34 1 := ⟨_, rfl⟩
      rw [← hG] at w2
      have en1 : Γ1 11 0 3 = Γ 11 0 3 := by rw [hG]; rfl
      have ep1 : Γ1 11 0 24 = Γ 11 0 24 := by rw [hG]; rfl
      refine g_if_ne 28 dX5_most_23 (by decide) (fun z => absurd z (by decide)) (fun _ => ?_)
      refine g_iconst (v := 0) dX5_most_26 (by decide) ?_
      rw [hQ]
      refine g_iret dX5_most_27 rfl rfl (by decide) (by decide) ?_
      subst hG
      exact ⟨rfl, w2⟩
set_option maxRecDepth 100000 in
set_option maxHeartbeats 4000000 in
theorem c_X5_most_0 {l : Launch} (hlt : l.stackTraces = false) {N n p : Nat} {ord : List Nat} {L : Nat → Nat → Nat} {Γ : Nat → Nat → Nat → Int32} {o : Int64} {h : am_H} (w : WI N n p ord L Γ o h) {b : Nat} (hb : b ≤ 8) (en : Γ 11 0 3 = nI b) {q : Nat} (hq : q ≤ 24) (ep : Γ 11 0 24 = nI q) {A B : Nat → Nat} (hp : pJ q A B Γ) (hk : ∀ j, j < q → 0 ≤ KG Γ j ∧ KG Γ j ≤ 999) (hv0 : 0 ≤ (Γ 11 0 2).toInt) (hv : (Γ 11 0 2).toInt ≤ 9999) {a : Int32} (ha1 : ¬ a < 0) (ha2 : a < (1 : Int32) <<< (nI b &&& 31)) : am_Con l yX5_most (.code yX5_most cX5_most 4 (some .int)) 20 0 0 [.ref (L 11 0), .int a] h (fun v h' => ∃ (x : Nat → Int) (G : Nat → Nat → Nat → Int32) (y : Int32), v = some (.int y) ∧ y.toInt = zs x b ∧ WI N n p ord L G o h' ∧ frF (u3 Γ 11 0 34 0) G ∧ SEQ (CM q (nuf A) (nuf B) (KG Γ)) (Γ 11 0 2).toInt (fun i => i) (sp_bit a) x b) (fun _ _ => False) := by
  refine am_body hlt (by decide +kernel) (Nat.le_of_ble_eq_true rfl) (fun k hl hR h0 hno => ?_)
  subst hl
  obtain ⟨Qf, hQ⟩ : ∃ Qf, Qf = am_Q k 0 0 (fun v h' => ∃ (x : Nat → Int) (G : Nat → Nat → Nat → Int32) (y : Int32), v = some (.int y) ∧ y.toInt = zs x b ∧ WI N n p ord L G o h' ∧ frF (u3 Γ 11 0 34 0) G ∧ SEQ (CM q (nuf A) (nuf B) (KG Γ)) (Γ 11 0 2).toInt (fun i => i) (sp_bit a) x b) (fun _ _ => False) := ⟨_, rfl⟩
  rw [← hQ]
  have hm : wdm n p 11 0 = true := rfl
  refine g_aload_n dX5_most_0 rfl ?_
  refine g_iload_n dX5_most_1 rfl ?_
  refine g_if_lt 15 dX5_most_2 (by decide) (fun z => absurd z ha1) (fun c_2 => ?_)
  refine g_iload_n dX5_most_5 rfl ?_
  refine g_iconst (v := 1) dX5_most_6 (by decide) ?_
  refine g_aload_n dX5_most_7 rfl ?_
  refine w_getI w dX5_most_8 fl_X5_93 rfl rfl (by first | rfl | assumption) ?_
  rw [en]
  refine g_ishl dX5_most_11 ?_
  refine g_icmp_lt 19 dX5_most_12 (by decide) (fun c_12 => ?_) (fun z => absurd ha2 z)
  refine g_iconst (v := 0) dX5_most_19 (by decide) ?_
  refine g_callV [_] dX5_most_20 mc_X5_103 mi_X5_can se_X5_can (c_X5_can_0 hlt w) (w.k (by first | rfl | assumption)) rfl rfl (Nat.le_of_ble_eq_true rfl) (am_rm hR (by decide)) (fun _ _ z => z) (fun v hx hq hE => ?_)
  obtain ⟨rfl, w1⟩ := hq
  obtain ⟨Γ1, hG⟩ : ∃ G, G = u3 Γ 11 0 34 0 := ⟨_, rfl⟩
  rw [← hG] at w1
  have en1 : Γ1 11 0 3 = Γ 11 0 3 := by rw [hG]; rfl
  have ep1 : Γ1 11 0 24 = Γ 11 0 24 := by rw [hG]; rfl
  refine g_if_ne 28 dX5_most_23 (by decide) (fun _ => ?_) (fun z => absurd z (by decide))
  subst hG
  refine g_aload_n dX5_most_28 rfl ?_
  refine g_callV [] dX5_most_29 mc_X5_141 mi_X5_dries se_X5_dries (c_X5_dries hlt w1 hq ep) (w1.k (by first | rfl | assumption)) rfl rfl (Nat.le_of_ble_eq_true rfl) (am_rm hR (by decide)) (fun _ _ z => z) (fun v hx hq hE => ?_)
  obtain ⟨rfl, w2⟩ := hq
  obtain ⟨D, hD⟩ : ∃ D, D = sp_dry q (u3 Γ 11 0 34 0) := ⟨_, rfl⟩
  rw [← hD] at w2
  have dF : frF (u3 Γ 11 0 34 0) D := fun c i j h1 h2 => by rw [hD]; exact sp_dry_fr q _ (fun z => h1 ⟨z.1, Or.inl z.2⟩) h2
  refine g_iconst (v := 0) dX5_most_32 (by decide) ?_
  refine g_istore_n dX5_most_33 (by decide) rfl ?_
  refine g_iconst (v := 0) dX5_most_34 (by decide) ?_
  refine g_istore_n dX5_most_35 (by decide) rfl ?_
  have lp_36 : ∀ (f : Nat) (k1 : Nat) (y : Int32) (xs : Nat → Int) (G : Nat → Nat → Nat → Int32) (h' : am_H), k1 ≤ b → b - k1 < f → WI N n p ord L G o h' → frF (u3 Γ 11 0 34 0) G → (G 11 0 30).toInt = zs xs k1 → capJ q G → (∀ v, 0 < v → v < 9 → inflow (NM q (nuf A) (nuf B) (FG G)) v = gS (fun i => i) xs k1 v) → y.toInt = zs xs k1 → SEQ (CM q (nuf A) (nuf B) (KG Γ)) (Γ 11 0 2).toInt (fun i => i) (sp_bit a) xs k1 → am_G k RX5 yX5_most.name cX5_most 4 (some .int) 0 0 Qf 36 [(3, .int (nI k1)), (2, .int y), (1, .int a), (0, .ref (L 11 0))] [] h' := by
    intro f
    induction f with
    | zero => intro k1 y xs G h' ha hf w' hfr hgi hcp hin hyx hsq; omega
    | succ f ih =>
      intro k1 y xs G h' ha hf w' hfr hgi hcp hin hyx hsq
      have hsp := SEQ.pos hv0 k1 hsq
      refine g_iload_n dX5_most_36 rfl ?_
      refine g_aload_n dX5_most_37 rfl ?_
      refine w_getI w' dX5_most_38 fl_X5_93 rfl rfl (by first | rfl | assumption) ?_
      rw [(hfr 11 0 3 (by omega) (by omega)).trans en]
      refine gN_ge 74 dX5_most_41 (by decide) (by omega) (by omega) (fun c_41 => ?_) (fun c_41 => ?_)
      · skip
        refine g_iload_n dX5_most_74 rfl ?_
        rw [hQ]
        refine g_iret dX5_most_75 rfl rfl (by decide) (by decide) ?_
        have ea : k1 = b := by omega
        rw [ea] at hsq hyx
        exact ⟨xs, G, y, rfl, hyx, w', hfr, hsq⟩
      · skip
        refine g_iload_n dX5_most_44 rfl ?_
        refine g_iload_n dX5_most_45 rfl ?_
        refine g_iload_n dX5_most_46 rfl ?_
        refine g_ishr dX5_most_47 ?_
        refine g_iconst (v := 1) dX5_most_48 (by decide) ?_
        refine g_iand dX5_most_49 ?_
        refine g_iconst (v := 1) dX5_most_50 (by decide) ?_
        refine g_icmp_ne 65 dX5_most_51 (by decide) (fun c_51 => ?_) (fun c_51 => ?_)
        · skip
          refine g_iconst (v := 0) dX5_most_65 (by decide) ?_
          refine g_iadd dX5_most_66 ?_
          refine g_istore_n dX5_most_67 (by decide) rfl ?_
          refine g_iinc dX5_most_68 rfl (nI_i1 _) (by decide) rfl ?_
          refine g_goto 36 dX5_most_71 (by decide) ?_
          have hbit : sp_bit a k1 = 0 := if_neg c_51
          have hfea := feasG hcp hfr.kg hin
          have hamt2 : Amt (CM q (nuf A) (nuf B) (KG Γ)) (gS (fun i => i) xs k1) (k1 + 1) (min (sp_bit a k1) ((Γ 11 0 2).toInt - zs xs k1)) 0 := Amt.zero hfea (by omega)
          refine g_ls [(3, .int (nI (k1 + 1))), (2, .int (y + 0)), (1, .int a), (0, .ref (L 11 0))] ⟨rfl, rfl, rfl, rfl, trivial⟩ ?_
          refine ih (k1 + 1) (y + 0) (fun i => if i = k1 then 0 else xs i) _ _ (by omega) (by omega) w' hfr ?_ hcp (fun v y1 y2 => ?_) ?_ (SEQ.snoc hsq hamt2)
          · rw [SEQ.zs_snoc, hgi]
            omega
          · rw [SEQ.gS_snoc, hin v y1 y2]
            unfold addg
            split <;> omega
          · rw [SEQ.zs_snoc, Int32.add_zero, hyx]
            omega
        · skip
          refine g_aload_n dX5_most_54 rfl ?_
          refine g_iload_n dX5_most_55 rfl ?_
          refine g_sipush (v := 9999) dX5_most_56 (by decide) ?_
          refine g_callV [_, _] dX5_most_59 mc_X5_151 mi_X5_flows se_X5_flows (c_X5_flows hlt w' hq ((hfr 11 0 24 (by omega) (by omega)).trans ep) (hp.fr (fun j => hfr 12 25 j (by omega) (by omega)) (fun j => hfr 12 26 j (by omega) (by omega))) hcp hin (show k1 < 8 by omega) (u := 9999) (by decide) (by decide) (by omega) (by rw [hfr 11 0 2 (by omega) (by omega)]; show _ ≤ (Γ 11 0 2).toInt; omega) (by rw [hfr 11 0 2 (by omega) (by omega)]; exact hv)) (w'.k (by first | rfl | assumption)) rfl rfl (Nat.le_of_ble_eq_true rfl) (am_rm hR (by decide)) (fun _ _ z => z) (fun v hx hq hE => ?_)
          obtain ⟨xa, G1, rfl, w23, hfr1, hcp1, hgi1, hin1, hamt⟩ := hq
          refine g_goto 66 dX5_most_62 (by decide) ?_
          refine g_iadd dX5_most_66 ?_
          refine g_istore_n dX5_most_67 (by decide) rfl ?_
          refine g_iinc dX5_most_68 rfl (nI_i1 _) (by decide) rfl ?_
          refine g_goto 36 dX5_most_71 (by decide) ?_
          have hbit : sp_bit a k1 = 9999 := if_pos c_51
          have hamt2 : Amt (CM q (nuf A) (nuf B) (KG Γ)) (gS (fun i => i) xs k1) (k1 + 1) (min (sp_bit a k1) ((Γ 11 0 2).toInt - zs xs k1)) xa.toInt := by
            rw [hbit]
            rw [hfr.kg, hfr 11 0 2 (by omega) (by omega), hgi] at hamt
            exact hamt
          have h9 : (9999 : Int32).toInt = 9999 := by decide
          have hxa := hamt.1
          have hxb := hamt.2.1
          refine g_ls [(3, .int (nI (k1 + 1))), (2, .int (y + xa)), (1, .int a), (0, .ref (L 11 0))] ⟨rfl, rfl, rfl, rfl, trivial⟩ ?_
          refine ih (k1 + 1) (y + xa) (fun i => if i = k1 then xa.toInt else xs i) _ _ (by omega) (by omega) w23 (fun c i j z1 z2 => (hfr1 c i j z1 z2).trans (hfr c i j z1 z2)) ?_ hcp1 (fun v y1 y2 => ?_) ?_ (SEQ.snoc hsq hamt2)
          · rw [SEQ.zs_snoc, hgi1, hgi]
          · rw [SEQ.gS_snoc]
            exact hin1 v y1 y2
          · rw [SEQ.zs_snoc, tI_add (by omega) (by omega), hyx]
  refine g_ls [(3, .int (nI 0)), (2, .int 0), (1, .int a), (0, .ref (L 11 0))] ⟨rfl, rfl, rfl, rfl, trivial⟩ ?_
  exact lp_36 (b + 1) 0 0 (fun _ => 0) _ _ (by omega) (by omega) w2 dF (by rw [hD, sp_dry_given]; exact tI_0) (by rw [hD]; exact sp_dry_cap hk) (fun v _ _ => by rw [hD]; exact sp_dry_in v) tI_0 (fun i hi => absurd hi (Nat.not_lt_zero _))
def sp_less (a b : Int32) : Int32 := if b ≤ a then b else a
/-- a district's row over the end of an hour -/
def sp_e1 (k : Nat) (Γ : Nat → Nat → Nat → Int32) := u3 Γ 12 6 k (Γ 12 6 k + sp_less (Γ 12 17 k) (Γ 12 4 k - Γ 12 6 k))
def sp_e2 (k : Nat) (Γ : Nat → Nat → Nat → Int32) := u3 (sp_e1 k Γ) 12 22 k (sp_e1 k Γ 12 22 k + (sp_e1 k Γ 12 17 k - sp_less (Γ 12 17 k) (Γ 12 4 k - Γ 12 6 k)))
def sp_eo (k : Nat) (Γ : Nat → Nat → Nat → Int32) := sp_less (sp_e2 k Γ 12 5 k) (sp_e2 k Γ 12 6 k)
def sp_e3 (k : Nat) (Γ : Nat → Nat → Nat → Int32) := u3 (sp_e2 k Γ) 12 6 k (sp_e2 k Γ 12 6 k - sp_eo k Γ)
def sp_e4 (k : Nat) (Γ : Nat → Nat → Nat → Int32) := u3 (sp_e3 k Γ) 12 20 k (sp_e3 k Γ 12 20 k + sp_eo k Γ)
def sp_e5 (k : Nat) (Γ : Nat → Nat → Nat → Int32) := u3 (sp_e4 k Γ) 12 21 k (sp_e4 k Γ 12 21 k + (sp_e4 k Γ 12 5 k - sp_eo k Γ))
def sp_e6 (k : Nat) (Γ : Nat → Nat → Nat → Int32) := u3 (sp_e5 k Γ) 11 0 23 (sp_e5 k Γ 11 0 23 + sp_e5 k Γ 12 17 k)
def sp_mend (k : Nat) (Γ : Nat → Nat → Nat → Int32) := u3 (u3 (u3 (u3 (sp_e6 k Γ) 12 17 k 0) 13 10 k 0) 13 15 k 0) 12 7 k 0
def sp_mlk (k : Nat) (Γ : Nat → Nat → Nat → Int32) : Int32 := if sp_e5 k Γ 12 5 k ≤ sp_eo k Γ then 0 else 1
def sp_mends (b : Nat) (Γ : Nat → Nat → Nat → Int32) := sp_it sp_mend b (u3 Γ 11 0 34 0)
theorem sp_mend_fr {k : Nat} {Γ : Nat → Nat → Nat → Int32} {c i j : Nat} (h : ¬ ((c = 12 ∨ c = 13) ∧ j = k)) (h2 : ¬ (c = 11 ∧ j = 23)) : sp_mend k Γ c i j = Γ c i j := by
  unfold sp_mend sp_e6 sp_e5 sp_e4 sp_e3 sp_e2 sp_e1
  rw [u3_n (by omega), u3_n (by omega), u3_n (by omega), u3_n (by omega), u3_n (by omega), u3_n (by omega), u3_n (by omega), u3_n (by omega), u3_n (by omega), u3_n (by omega)]
theorem sp_mends_g {b : Nat} {Γ : Nat → Nat → Nat → Int32} {c i j : Nat} (h : ¬ (c = 12 ∨ c = 13)) (h2 : ¬ (c = 11 ∧ (j = 34 ∨ j = 23))) : sp_mends b Γ c i j = Γ c i j := (sp_it_pres (fun k Γ => sp_mend_fr (fun z => h z.1) (by omega)) _ b).trans (u3_n (by omega))
set_option maxRecDepth 100000 in
set_option maxHeartbeats 4000000 in
theorem c_X5_end_1 {l : Launch} (hlt : l.stackTraces = false) {N n p : Nat} {ord : List Nat} {L : Nat → Nat → Nat} {Γ : Nat → Nat → Nat → Int32} {o : Int64} {h : am_H} (w : WI N n p ord L Γ o h) (hr : Γ 11 0 1 = -1 → Γ 11 0 0 = 1000) : am_Con l yX5_end (.code yX5_end cX5_end 5 (some .int)) 20 0 0 [.ref (L 11 0)] h (fun v h' => v = some (.int 0) ∧ WI N n p ord L (u3 Γ 11 0 34 1) o h') (fun _ _ => False) := by
  refine am_body hlt (by decide +kernel) (Nat.le_of_ble_eq_true rfl) (fun k hl hR h0 hno => ?_)
  subst hl
  obtain ⟨Qf, hQ⟩ : ∃ Qf, Qf = am_Q k 0 0 (fun v h' => v = some (.int 0) ∧ WI N n p ord L (u3 Γ 11 0 34 1) o h') (fun _ _ => False) := ⟨_, rfl⟩
  rw [← hQ]
  have hm : wdm n p 11 0 = true := rfl
  refine g_aload_n dX5_end_0 rfl ?_
  refine g_aload_n dX5_end_1 rfl ?_
  refine w_getI w dX5_end_2 fl_X5_110 rfl rfl (by first | rfl | assumption) ?_
  refine g_iconst (v := (-1)) dX5_end_5 (by decide) ?_
  refine g_icmp_ne 19 dX5_end_6 (by decide) (fun c_6 => ?_) (fun c_6 => ?_)
  · skip
    refine g_iconst (v := 1) dX5_end_19 (by decide) ?_
    refine g_goto 24 dX5_end_20 (by decide) ?_
    refine g_callV [_] dX5_end_24 mc_X5_103 mi_X5_can se_X5_can (c_X5_can_1 hlt w (a := 1) (by decide)) (w.k (by first | rfl | assumption)) rfl rfl (Nat.le_of_ble_eq_true rfl) (am_rm hR (by decide)) (fun _ _ z => z) (fun v hx hq hE => ?_)
    obtain ⟨rfl, w1⟩ := hq
    obtain ⟨Γ1, hG⟩ : ∃ G, G = u3 Γ 11 0 34 1 := ⟨_, rfl⟩
    rw [← hG] at w1
    have en1 : Γ1 11 0 3 = Γ 11 0 3 := by rw [hG]; rfl
    have ep1 : Γ1 11 0 24 = Γ 11 0 24 := by rw [hG]; rfl
    refine g_if_ne 32 dX5_end_27 (by decide) (fun z => absurd z (by decide)) (fun _ => ?_)
    refine g_iconst (v := 0) dX5_end_30 (by decide) ?_
    rw [hQ]
    refine g_iret dX5_end_31 rfl rfl (by decide) (by decide) ?_
    subst hG
    exact ⟨rfl, w1⟩
  · skip
    refine g_aload_n dX5_end_9 rfl ?_
    refine w_getI w dX5_end_10 fl_X5_169 rfl rfl (by first | rfl | assumption) ?_
    refine g_sipush (v := 1000) dX5_end_13 (by decide) ?_
    refine g_icmp_ne 23 dX5_end_16 (by decide) (fun z => absurd (hr c_6) z) (fun c_16 => ?_)
    refine g_iconst (v := 1) dX5_end_19 (by decide) ?_
    refine g_goto 24 dX5_end_20 (by decide) ?_
    refine g_callV [_] dX5_end_24 mc_X5_103 mi_X5_can se_X5_can (c_X5_can_1 hlt w (a := 1) (by decide)) (w.k (by first | rfl | assumption)) rfl rfl (Nat.le_of_ble_eq_true rfl) (am_rm hR (by decide)) (fun _ _ z => z) (fun v hx hq hE => ?_)
    obtain ⟨rfl, w2⟩ := hq
    obtain ⟨Γ1, hG⟩ : ∃ G, G = u3 Γ 11 0 34 1 := ⟨_, rfl⟩
    rw [← hG] at w2
    have en1 : Γ1 11 0 3 = Γ 11 0 3 := by rw [hG]; rfl
    have ep1 : Γ1 11 0 24 = Γ 11 0 24 := by rw [hG]; rfl
    refine g_if_ne 32 dX5_end_27 (by decide) (fun z => absurd z (by decide)) (fun _ => ?_)
    refine g_iconst (v := 0) dX5_end_30 (by decide) ?_
    rw [hQ]
    refine g_iret dX5_end_31 rfl rfl (by decide) (by decide) ?_
    subst hG
    exact ⟨rfl, w2⟩
set_option maxRecDepth 100000 in
set_option maxHeartbeats 4000000 in
theorem c_X5_end_0 {l : Launch} (hlt : l.stackTraces = false) {N n p : Nat} {ord : List Nat} {L : Nat → Nat → Nat} {Γ : Nat → Nat → Nat → Int32} {o : Int64} {h : am_H} (w : WI N n p ord L Γ o h) {b : Nat} (hb : b ≤ 8) (en : Γ 11 0 3 = nI b) (hr : Γ 11 0 1 = -1) (hh : ¬ Γ 11 0 0 = 1000) : am_Con l yX5_end (.code yX5_end cX5_end 5 (some .int)) 20 0 0 [.ref (L 11 0)] h (fun v h' => v = some (.int (sp_sum (fun k => sp_mlk k (sp_mends k Γ)) b)) ∧ WI N n p ord L (u3 (u3 (sp_mends b Γ) 11 0 0 (sp_mends b Γ 11 0 0 + 1)) 11 0 1 0) o h') (fun _ _ => False) := by
  refine am_body hlt (by decide +kernel) (Nat.le_of_ble_eq_true rfl) (fun k hl hR h0 hno => ?_)
  subst hl
  obtain ⟨Qf, hQ⟩ : ∃ Qf, Qf = am_Q k 0 0 (fun v h' => v = some (.int (sp_sum (fun k => sp_mlk k (sp_mends k Γ)) b)) ∧ WI N n p ord L (u3 (u3 (sp_mends b Γ) 11 0 0 (sp_mends b Γ 11 0 0 + 1)) 11 0 1 0) o h') (fun _ _ => False) := ⟨_, rfl⟩
  rw [← hQ]
  have hm : wdm n p 11 0 = true := rfl
  refine g_aload_n dX5_end_0 rfl ?_
  refine g_aload_n dX5_end_1 rfl ?_
  refine w_getI w dX5_end_2 fl_X5_110 rfl rfl (by first | rfl | assumption) ?_
  refine g_iconst (v := (-1)) dX5_end_5 (by decide) ?_
  refine g_icmp_ne 19 dX5_end_6 (by decide) (fun z => absurd hr z) (fun c_6 => ?_)
  refine g_aload_n dX5_end_9 rfl ?_
  refine w_getI w dX5_end_10 fl_X5_169 rfl rfl (by first | rfl | assumption) ?_
  refine g_sipush (v := 1000) dX5_end_13 (by decide) ?_
  refine g_icmp_ne 23 dX5_end_16 (by decide) (fun c_16 => ?_) (fun z => absurd z hh)
  refine g_iconst (v := 0) dX5_end_23 (by decide) ?_
  refine g_callV [_] dX5_end_24 mc_X5_103 mi_X5_can se_X5_can (c_X5_can_0 hlt w) (w.k (by first | rfl | assumption)) rfl rfl (Nat.le_of_ble_eq_true rfl) (am_rm hR (by decide)) (fun _ _ z => z) (fun v hx hq hE => ?_)
  obtain ⟨rfl, w1⟩ := hq
  obtain ⟨Γ1, hG⟩ : ∃ G, G = u3 Γ 11 0 34 0 := ⟨_, rfl⟩
  rw [← hG] at w1
  have en1 : Γ1 11 0 3 = Γ 11 0 3 := by rw [hG]; rfl
  have ep1 : Γ1 11 0 24 = Γ 11 0 24 := by rw [hG]; rfl
  refine g_if_ne 32 dX5_end_27 (by decide) (fun _ => ?_) (fun z => absurd z (by decide))
  subst hG
  refine g_iconst (v := 0) dX5_end_32 (by decide) ?_
  refine g_istore_n dX5_end_33 (by decide) rfl ?_
  refine g_iconst (v := 0) dX5_end_34 (by decide) ?_
  refine g_istore_n dX5_end_35 (by decide) rfl ?_
  have lp_36 : ∀ (f : Nat) (j : Nat) (x : Int32) (h' : am_H), j ≤ b → b - j < f → x = sp_sum (fun k => sp_mlk k (sp_mends k Γ)) j → WI N n p ord L (sp_mends j Γ) o h' → am_G k RX5 yX5_end.name cX5_end 5 (some .int) 0 0 Qf 36 [(2, .int (nI j)), (1, .int x), (0, .ref (L 11 0))] [] h' := by
    intro f
    induction f with
    | zero => intro j x h' hj hf ex w'; omega
    | succ f ih =>
      intro j x h' hj hf ex w'
      refine g_iload_n dX5_end_36 rfl ?_
      refine g_aload_n dX5_end_37 rfl ?_
      refine w_getI w' dX5_end_38 fl_X5_93 rfl rfl (by first | rfl | assumption) ?_
      rw [(sp_mends_g (b := j) (Γ := Γ) (c := 11) (i := 0) (j := 3) (by omega) (by omega)).trans en]
      refine gN_ge 219 dX5_end_41 (by decide) (by omega) (by omega) (fun c_41 => ?_) (fun c_41 => ?_)
      · skip
        have ej : j = b := by omega
        rw [ej] at w' ex
        refine g_aload_n dX5_end_219 rfl ?_
        refine g_dup dX5_end_220 rfl ?_
        refine w_getI w' dX5_end_221 fl_X5_169 rfl rfl (by first | rfl | assumption) ?_
        refine g_iconst (v := 1) dX5_end_224 (by decide) ?_
        refine g_iadd dX5_end_225 ?_
        refine w_putI w' dX5_end_226 fl_X5_169 rfl rfl (by decide) (fun q hq => by cases hq; rfl) (by first | rfl | assumption) rfl rfl (fun h22 w22 => ?_)
        refine g_aload_n dX5_end_229 rfl ?_
        refine g_iconst (v := 0) dX5_end_230 (by decide) ?_
        refine w_putI w22 dX5_end_231 fl_X5_110 rfl rfl (by decide) (fun q hq => by cases hq; rfl) (by first | rfl | assumption) rfl rfl (fun h23 w23 => ?_)
        refine g_iload_n dX5_end_234 rfl ?_
        rw [hQ]
        refine g_iret dX5_end_235 rfl rfl (by decide) (by decide) ?_
        exact ⟨by rw [ex], w23⟩
      · skip
        refine g_aload_n dX5_end_44 rfl ?_
        refine w_getR w' dX5_end_45 fl_X5_47 rfl rfl (by first | rfl | assumption) rfl ?_
        refine g_iload_n dX5_end_48 rfl ?_
        refine w_ald w' dX5_end_49 (by decide) (by first | rfl | assumption) (by first | assumption | omega | (show _ < 8; omega) | (show _ < 24; omega) | (show _ < 9; omega)) ?_
        refine g_aload_n dX5_end_50 rfl ?_
        refine w_getR w' dX5_end_51 fl_X5_7 rfl rfl (by first | rfl | assumption) rfl ?_
        refine g_iload_n dX5_end_54 rfl ?_
        refine w_ald w' dX5_end_55 (by decide) (by first | rfl | assumption) (by first | assumption | omega | (show _ < 8; omega) | (show _ < 24; omega) | (show _ < 9; omega)) ?_
        refine g_aload_n dX5_end_56 rfl ?_
        refine w_getR w' dX5_end_57 fl_X5_16 rfl rfl (by first | rfl | assumption) rfl ?_
        refine g_iload_n dX5_end_60 rfl ?_
        refine w_ald w' dX5_end_61 (by decide) (by first | rfl | assumption) (by first | assumption | omega | (show _ < 8; omega) | (show _ < 24; omega) | (show _ < 9; omega)) ?_
        refine g_isub dX5_end_62 ?_
        refine g_callS [_, _] dX5_end_63 mc_X5_126 ms_X5_lesser (c_X5_lesser hlt _ _) rfl (Nat.le_of_ble_eq_true rfl) (am_rm hR (by decide)) (fun _ _ z => z) (fun v hx hq hE => ?_)
        obtain ⟨rfl, rfl⟩ := hq
        refine g_istore_n dX5_end_66 (by decide) rfl ?_
        refine g_aload_n dX5_end_67 rfl ?_
        refine w_getR w' dX5_end_68 fl_X5_16 rfl rfl (by first | rfl | assumption) rfl ?_
        refine g_iload_n dX5_end_71 rfl ?_
        refine g_dup2 dX5_end_72 rfl rfl ?_
        refine w_ald w' dX5_end_73 (by decide) (by first | rfl | assumption) (by first | assumption | omega | (show _ < 8; omega) | (show _ < 24; omega) | (show _ < 9; omega)) ?_
        refine g_iload_n dX5_end_74 rfl ?_
        refine g_iadd dX5_end_75 ?_
        refine w_ast w' dX5_end_76 (by decide) (by first | rfl | assumption) (by first | assumption | omega | (show _ < 8; omega) | (show _ < 24; omega) | (show _ < 9; omega)) (fun h24 w24 => ?_)
        refine g_aload_n dX5_end_77 rfl ?_
        refine w_getR w24 dX5_end_78 fl_X5_62 rfl rfl (by first | rfl | assumption) rfl ?_
        refine g_iload_n dX5_end_81 rfl ?_
        refine g_dup2 dX5_end_82 rfl rfl ?_
        refine w_ald w24 dX5_end_83 (by decide) (by first | rfl | assumption) (by first | assumption | omega | (show _ < 8; omega) | (show _ < 24; omega) | (show _ < 9; omega)) ?_
        refine g_aload_n dX5_end_84 rfl ?_
        refine w_getR w24 dX5_end_85 fl_X5_47 rfl rfl (by first | rfl | assumption) rfl ?_
        refine g_iload_n dX5_end_88 rfl ?_
        refine w_ald w24 dX5_end_89 (by decide) (by first | rfl | assumption) (by first | assumption | omega | (show _ < 8; omega) | (show _ < 24; omega) | (show _ < 9; omega)) ?_
        refine g_iload_n dX5_end_90 rfl ?_
        refine g_isub dX5_end_91 ?_
        refine g_iadd dX5_end_92 ?_
        refine w_ast w24 dX5_end_93 (by decide) (by first | rfl | assumption) (by first | assumption | omega | (show _ < 8; omega) | (show _ < 24; omega) | (show _ < 9; omega)) (fun h25 w25 => ?_)
        refine g_aload_n dX5_end_94 rfl ?_
        refine w_getR w25 dX5_end_95 fl_X5_13 rfl rfl (by first | rfl | assumption) rfl ?_
        refine g_iload_n dX5_end_98 rfl ?_
        refine w_ald w25 dX5_end_99 (by decide) (by first | rfl | assumption) (by first | assumption | omega | (show _ < 8; omega) | (show _ < 24; omega) | (show _ < 9; omega)) ?_
        refine g_aload_n dX5_end_100 rfl ?_
        refine w_getR w25 dX5_end_101 fl_X5_16 rfl rfl (by first | rfl | assumption) rfl ?_
        refine g_iload_n dX5_end_104 rfl ?_
        refine w_ald w25 dX5_end_105 (by decide) (by first | rfl | assumption) (by first | assumption | omega | (show _ < 8; omega) | (show _ < 24; omega) | (show _ < 9; omega)) ?_
        refine g_callS [_, _] dX5_end_106 mc_X5_126 ms_X5_lesser (c_X5_lesser hlt _ _) rfl (Nat.le_of_ble_eq_true rfl) (am_rm hR (by decide)) (fun _ _ z => z) (fun v hx hq hE => ?_)
        obtain ⟨rfl, rfl⟩ := hq
        refine g_istore dX5_end_109 (by decide) rfl ?_
        refine g_aload_n dX5_end_111 rfl ?_
        refine w_getR w25 dX5_end_112 fl_X5_16 rfl rfl (by first | rfl | assumption) rfl ?_
        refine g_iload_n dX5_end_115 rfl ?_
        refine g_dup2 dX5_end_116 rfl rfl ?_
        refine w_ald w25 dX5_end_117 (by decide) (by first | rfl | assumption) (by first | assumption | omega | (show _ < 8; omega) | (show _ < 24; omega) | (show _ < 9; omega)) ?_
        refine g_iload dX5_end_118 rfl ?_
        refine g_isub dX5_end_120 ?_
        refine w_ast w25 dX5_end_121 (by decide) (by first | rfl | assumption) (by first | assumption | omega | (show _ < 8; omega) | (show _ < 24; omega) | (show _ < 9; omega)) (fun h26 w26 => ?_)
        refine g_aload_n dX5_end_122 rfl ?_
        refine w_getR w26 dX5_end_123 fl_X5_56 rfl rfl (by first | rfl | assumption) rfl ?_
        refine g_iload_n dX5_end_126 rfl ?_
        refine g_dup2 dX5_end_127 rfl rfl ?_
        refine w_ald w26 dX5_end_128 (by decide) (by first | rfl | assumption) (by first | assumption | omega | (show _ < 8; omega) | (show _ < 24; omega) | (show _ < 9; omega)) ?_
        refine g_iload dX5_end_129 rfl ?_
        refine g_iadd dX5_end_131 ?_
        refine w_ast w26 dX5_end_132 (by decide) (by first | rfl | assumption) (by first | assumption | omega | (show _ < 8; omega) | (show _ < 24; omega) | (show _ < 9; omega)) (fun h27 w27 => ?_)
        refine g_aload_n dX5_end_133 rfl ?_
        refine w_getR w27 dX5_end_134 fl_X5_59 rfl rfl (by first | rfl | assumption) rfl ?_
        refine g_iload_n dX5_end_137 rfl ?_
        refine g_dup2 dX5_end_138 rfl rfl ?_
        refine w_ald w27 dX5_end_139 (by decide) (by first | rfl | assumption) (by first | assumption | omega | (show _ < 8; omega) | (show _ < 24; omega) | (show _ < 9; omega)) ?_
        refine g_aload_n dX5_end_140 rfl ?_
        refine w_getR w27 dX5_end_141 fl_X5_13 rfl rfl (by first | rfl | assumption) rfl ?_
        refine g_iload_n dX5_end_144 rfl ?_
        refine w_ald w27 dX5_end_145 (by decide) (by first | rfl | assumption) (by first | assumption | omega | (show _ < 8; omega) | (show _ < 24; omega) | (show _ < 9; omega)) ?_
        refine g_iload dX5_end_146 rfl ?_
        refine g_isub dX5_end_148 ?_
        refine g_iadd dX5_end_149 ?_
        refine w_ast w27 dX5_end_150 (by decide) (by first | rfl | assumption) (by first | assumption | omega | (show _ < 8; omega) | (show _ < 24; omega) | (show _ < 9; omega)) (fun h28 w28 => ?_)
        refine g_iload_n dX5_end_151 rfl ?_
        refine g_iload dX5_end_152 rfl ?_
        refine g_aload_n dX5_end_154 rfl ?_
        refine w_getR w28 dX5_end_155 fl_X5_13 rfl rfl (by first | rfl | assumption) rfl ?_
        refine g_iload_n dX5_end_158 rfl ?_
        refine w_ald w28 dX5_end_159 (by decide) (by first | rfl | assumption) (by first | assumption | omega | (show _ < 8; omega) | (show _ < 24; omega) | (show _ < 9; omega)) ?_
        refine g_icmp_ge 167 dX5_end_160 (by decide) (fun c_160 => ?_) (fun c_160 => ?_)
        · skip
          refine g_iconst (v := 0) dX5_end_167 (by decide) ?_
          refine g_iadd dX5_end_168 ?_
          refine g_istore_n dX5_end_169 (by decide) rfl ?_
          refine g_aload_n dX5_end_170 rfl ?_
          refine g_dup dX5_end_171 rfl ?_
          refine w_getI w28 dX5_end_172 fl_X5_172 rfl rfl (by first | rfl | assumption) ?_
          refine g_aload_n dX5_end_175 rfl ?_
          refine w_getR w28 dX5_end_176 fl_X5_47 rfl rfl (by first | rfl | assumption) rfl ?_
          refine g_iload_n dX5_end_179 rfl ?_
          refine w_ald w28 dX5_end_180 (by decide) (by first | rfl | assumption) (by first | assumption | omega | (show _ < 8; omega) | (show _ < 24; omega) | (show _ < 9; omega)) ?_
          refine g_iadd dX5_end_181 ?_
          refine w_putI w28 dX5_end_182 fl_X5_172 rfl rfl (by decide) (fun q hq => by cases hq; rfl) (by first | rfl | assumption) rfl rfl (fun h29 w29 => ?_)
          refine g_aload_n dX5_end_185 rfl ?_
          refine w_getR w29 dX5_end_186 fl_X5_47 rfl rfl (by first | rfl | assumption) rfl ?_
          refine g_iload_n dX5_end_189 rfl ?_
          refine g_iconst (v := 0) dX5_end_190 (by decide) ?_
          refine w_ast w29 dX5_end_191 (by decide) (by first | rfl | assumption) (by first | assumption | omega | (show _ < 8; omega) | (show _ < 24; omega) | (show _ < 9; omega)) (fun h30 w30 => ?_)
          refine g_aload_n dX5_end_192 rfl ?_
          refine w_getR w30 dX5_end_193 fl_X5_28 rfl rfl (by first | rfl | assumption) rfl ?_
          refine g_iload_n dX5_end_196 rfl ?_
          refine g_iconst (v := 0) dX5_end_197 (by decide) ?_
          refine w_zast w30 dX5_end_198 (by first | rfl | assumption) (by first | assumption | omega | (show _ < 8; omega) | (show _ < 24; omega) | (show _ < 9; omega)) rfl (fun h31 w31 => ?_)
          refine g_aload_n dX5_end_199 rfl ?_
          refine w_getR w31 dX5_end_200 fl_X5_44 rfl rfl (by first | rfl | assumption) rfl ?_
          refine g_iload_n dX5_end_203 rfl ?_
          refine g_iconst (v := 0) dX5_end_204 (by decide) ?_
          refine w_zast w31 dX5_end_205 (by first | rfl | assumption) (by first | assumption | omega | (show _ < 8; omega) | (show _ < 24; omega) | (show _ < 9; omega)) rfl (fun h32 w32 => ?_)
          refine g_aload_n dX5_end_206 rfl ?_
          refine w_getR w32 dX5_end_207 fl_X5_19 rfl rfl (by first | rfl | assumption) rfl ?_
          refine g_iload_n dX5_end_210 rfl ?_
          refine g_iconst (v := 0) dX5_end_211 (by decide) ?_
          refine w_ast w32 dX5_end_212 (by decide) (by first | rfl | assumption) (by first | assumption | omega | (show _ < 8; omega) | (show _ < 24; omega) | (show _ < 9; omega)) (fun h33 w33 => ?_)
          refine g_iinc dX5_end_213 rfl (nI_i1 _) (by decide) rfl ?_
          refine g_goto 36 dX5_end_216 (by decide) ?_
          refine g_ls [(2, .int (nI (j + 1))), (1, .int _), (0, .ref (L 11 0))] ⟨rfl, rfl, rfl, trivial⟩ ?_
          refine ih (j + 1) _ _ (by omega) (by omega) (by rw [ex]; show _ = sp_sum (fun k => sp_mlk k (sp_mends k Γ)) j + sp_mlk j (sp_mends j Γ); rw [show sp_mlk j (sp_mends j Γ) = 0 from if_pos c_160]) w33
        · skip
          refine g_iconst (v := 1) dX5_end_163 (by decide) ?_
          refine g_goto 168 dX5_end_164 (by decide) ?_
          refine g_iadd dX5_end_168 ?_
          refine g_istore_n dX5_end_169 (by decide) rfl ?_
          refine g_aload_n dX5_end_170 rfl ?_
          refine g_dup dX5_end_171 rfl ?_
          refine w_getI w28 dX5_end_172 fl_X5_172 rfl rfl (by first | rfl | assumption) ?_
          refine g_aload_n dX5_end_175 rfl ?_
          refine w_getR w28 dX5_end_176 fl_X5_47 rfl rfl (by first | rfl | assumption) rfl ?_
          refine g_iload_n dX5_end_179 rfl ?_
          refine w_ald w28 dX5_end_180 (by decide) (by first | rfl | assumption) (by first | assumption | omega | (show _ < 8; omega) | (show _ < 24; omega) | (show _ < 9; omega)) ?_
          refine g_iadd dX5_end_181 ?_
          refine w_putI w28 dX5_end_182 fl_X5_172 rfl rfl (by decide) (fun q hq => by cases hq; rfl) (by first | rfl | assumption) rfl rfl (fun h34 w34 => ?_)
          refine g_aload_n dX5_end_185 rfl ?_
          refine w_getR w34 dX5_end_186 fl_X5_47 rfl rfl (by first | rfl | assumption) rfl ?_
          refine g_iload_n dX5_end_189 rfl ?_
          refine g_iconst (v := 0) dX5_end_190 (by decide) ?_
          refine w_ast w34 dX5_end_191 (by decide) (by first | rfl | assumption) (by first | assumption | omega | (show _ < 8; omega) | (show _ < 24; omega) | (show _ < 9; omega)) (fun h35 w35 => ?_)
          refine g_aload_n dX5_end_192 rfl ?_
          refine w_getR w35 dX5_end_193 fl_X5_28 rfl rfl (by first | rfl | assumption) rfl ?_
          refine g_iload_n dX5_end_196 rfl ?_
          refine g_iconst (v := 0) dX5_end_197 (by decide) ?_
          refine w_zast w35 dX5_end_198 (by first | rfl | assumption) (by first | assumption | omega | (show _ < 8; omega) | (show _ < 24; omega) | (show _ < 9; omega)) rfl (fun h36 w36 => ?_)
          refine g_aload_n dX5_end_199 rfl ?_
          refine w_getR w36 dX5_end_200 fl_X5_44 rfl rfl (by first | rfl | assumption) rfl ?_
          refine g_iload_n dX5_end_203 rfl ?_
          refine g_iconst (v := 0) dX5_end_204 (by decide) ?_
          refine w_zast w36 dX5_end_205 (by first | rfl | assumption) (by first | assumption | omega | (show _ < 8; omega) | (show _ < 24; omega) | (show _ < 9; omega)) rfl (fun h37 w37 => ?_)
          refine g_aload_n dX5_end_206 rfl ?_
          refine w_getR w37 dX5_end_207 fl_X5_19 rfl rfl (by first | rfl | assumption) rfl ?_
          refine g_iload_n dX5_end_210 rfl ?_
          refine g_iconst (v := 0) dX5_end_211 (by decide) ?_
          refine w_ast w37 dX5_end_212 (by decide) (by first | rfl | assumption) (by first | assumption | omega | (show _ < 8; omega) | (show _ < 24; omega) | (show _ < 9; omega)) (fun h38 w38 => ?_)
          refine g_iinc dX5_end_213 rfl (nI_i1 _) (by decide) rfl ?_
          refine g_goto 36 dX5_end_216 (by decide) ?_
          refine g_ls [(2, .int (nI (j + 1))), (1, .int _), (0, .ref (L 11 0))] ⟨rfl, rfl, rfl, trivial⟩ ?_
          refine ih (j + 1) _ _ (by omega) (by omega) (by rw [ex]; show _ = sp_sum (fun k => sp_mlk k (sp_mends k Γ)) j + sp_mlk j (sp_mends j Γ); rw [show sp_mlk j (sp_mends j Γ) = 1 from if_neg c_160]) w38
  refine g_ls [(2, .int (nI 0)), (1, .int 0), (0, .ref (L 11 0))] ⟨rfl, rfl, rfl, trivial⟩ ?_
  exact lp_36 (b + 1) 0 0 _ (by omega) (by omega) rfl w1
def sp_mdf (Γ : Nat → Nat → Nat → Int32) (a c : Int32) : Int32 := if sp_in a 0 9999 = 0 then 1 else if sp_in c 0 999 = 0 then 1 else if Γ 11 0 3 = 8 then 2 else 0
def sp_mpf (Γ : Nat → Nat → Nat → Int32) (f t lim : Int32) : Int32 := let A : Int32 := if sp_in t 0 (Γ 11 0 3 - 1) = 0 then 1 else if f = t then 2 else if sp_in lim 1 999 = 0 then 2 else if Γ 11 0 24 = 24 then 3 else if Γ 11 0 1 = -1 then 3 else 0
  if f = -1 then A else if sp_in f 0 (Γ 11 0 3 - 1) = 0 then 1 else A
set_option maxRecDepth 100000 in
set_option maxHeartbeats 4000000 in
theorem c_X5_district_f {l : Launch} (hlt : l.stackTraces = false) {N n p : Nat} {ord : List Nat} {L : Nat → Nat → Nat} {Γ : Nat → Nat → Nat → Int32} {o : Int64} {h : am_H} (w : WI N n p ord L Γ o h) {a c : Int32} {K : Int32} (hk : sp_mdf Γ a c = K) (hK : ¬ K = 0) : am_Con l yX5_district (.code yX5_district cX5_district 4 (some .int)) 20 0 0 [.ref (L 11 0), .int a, .int c] h (fun v h' => v = some (.int 0) ∧ WI N n p ord L (u3 Γ 11 0 34 K) o h') (fun _ _ => False) := by
  refine am_body hlt (by decide +kernel) (Nat.le_of_ble_eq_true rfl) (fun k hl hR h0 hno => ?_)
  subst hl
  obtain ⟨Qf, hQ⟩ : ∃ Qf, Qf = am_Q k 0 0 (fun v h' => v = some (.int 0) ∧ WI N n p ord L (u3 Γ 11 0 34 K) o h') (fun _ _ => False) := ⟨_, rfl⟩
  rw [← hQ]
  have hm : wdm n p 11 0 = true := rfl
  refine g_iload_n dX5_district_0 rfl ?_
  refine g_iconst (v := 0) dX5_district_1 (by decide) ?_
  refine g_sipush (v := 9999) dX5_district_2 (by decide) ?_
  refine g_callS [_, _, _] dX5_district_5 mc_X5_96 ms_X5_isIn (c_X5_isIn hlt _ _ _) rfl (Nat.le_of_ble_eq_true rfl) (am_rm hR (by decide)) (fun _ _ z => z) (fun v hx hq hE => ?_)
  obtain ⟨rfl, rfl⟩ := hq
  refine g_if_eq 26 dX5_district_8 (by decide) (fun c_8 => ?_) (fun c_8 => ?_)
  · skip
    refine g_iconst (v := 0) dX5_district_26 (by decide) ?_
    refine g_istore_n dX5_district_27 (by decide) rfl ?_
    refine g_aload_n dX5_district_28 rfl ?_
    refine g_iload_n dX5_district_29 rfl ?_
    refine g_if_ne 37 dX5_district_30 (by decide) (fun z => absurd z (by decide)) (fun _ => ?_)
    refine g_iconst (v := 1) dX5_district_33 (by decide) ?_
    refine g_goto 51 dX5_district_34 (by decide) ?_
    have e : sp_mdf Γ a c = 1 := by unfold sp_mdf; (try (first | rw [if_pos c_8] | rw [if_neg c_8]))
    rw [hk] at e
    subst e
    refine g_callV [_] dX5_district_51 mc_X5_103 mi_X5_can se_X5_can (c_X5_can_1 hlt w (a := 1) (by decide)) (w.k (by first | rfl | assumption)) rfl rfl (Nat.le_of_ble_eq_true rfl) (am_rm hR (by decide)) (fun _ _ z => z) (fun v hx hq hE => ?_)
    obtain ⟨rfl, w1⟩ := hq
    obtain ⟨Γ1, hG⟩ : ∃ G, G = u3 Γ 11 0 34 1 := ⟨_, rfl⟩
    rw [← hG] at w1
    have en1 : Γ1 11 0 3 = Γ 11 0 3 := by rw [hG]; rfl
    have ep1 : Γ1 11 0 24 = Γ 11 0 24 := by rw [hG]; rfl
    refine g_if_ne 59 dX5_district_54 (by decide) (fun z => absurd z (by decide)) (fun _ => ?_)
    refine g_iconst (v := 0) dX5_district_57 (by decide) ?_
    rw [hQ]
    refine g_iret dX5_district_58 rfl rfl (by decide) (by decide) ?_
    subst hG
    exact ⟨rfl, w1⟩
  · skip
    refine g_iload_n dX5_district_11 rfl ?_
    refine g_iconst (v := 0) dX5_district_12 (by decide) ?_
    refine g_sipush (v := 999) dX5_district_13 (by decide) ?_
    refine g_callS [_, _, _] dX5_district_16 mc_X5_96 ms_X5_isIn (c_X5_isIn hlt _ _ _) rfl (Nat.le_of_ble_eq_true rfl) (am_rm hR (by decide)) (fun _ _ z => z) (fun v hx hq hE => ?_)
    obtain ⟨rfl, rfl⟩ := hq
    refine g_if_eq 26 dX5_district_19 (by decide) (fun c_19 => ?_) (fun c_19 => ?_)
    · skip
      refine g_iconst (v := 0) dX5_district_26 (by decide) ?_
      refine g_istore_n dX5_district_27 (by decide) rfl ?_
      refine g_aload_n dX5_district_28 rfl ?_
      refine g_iload_n dX5_district_29 rfl ?_
      refine g_if_ne 37 dX5_district_30 (by decide) (fun z => absurd z (by decide)) (fun _ => ?_)
      refine g_iconst (v := 1) dX5_district_33 (by decide) ?_
      refine g_goto 51 dX5_district_34 (by decide) ?_
      have e : sp_mdf Γ a c = 1 := by unfold sp_mdf; (try (first | rw [if_pos c_8] | rw [if_neg c_8])); (try (first | rw [if_pos c_19] | rw [if_neg c_19]))
      rw [hk] at e
      subst e
      refine g_callV [_] dX5_district_51 mc_X5_103 mi_X5_can se_X5_can (c_X5_can_1 hlt w (a := 1) (by decide)) (w.k (by first | rfl | assumption)) rfl rfl (Nat.le_of_ble_eq_true rfl) (am_rm hR (by decide)) (fun _ _ z => z) (fun v hx hq hE => ?_)
      obtain ⟨rfl, w2⟩ := hq
      obtain ⟨Γ1, hG⟩ : ∃ G, G = u3 Γ 11 0 34 1 := ⟨_, rfl⟩
      rw [← hG] at w2
      have en1 : Γ1 11 0 3 = Γ 11 0 3 := by rw [hG]; rfl
      have ep1 : Γ1 11 0 24 = Γ 11 0 24 := by rw [hG]; rfl
      refine g_if_ne 59 dX5_district_54 (by decide) (fun z => absurd z (by decide)) (fun _ => ?_)
      refine g_iconst (v := 0) dX5_district_57 (by decide) ?_
      rw [hQ]
      refine g_iret dX5_district_58 rfl rfl (by decide) (by decide) ?_
      subst hG
      exact ⟨rfl, w2⟩
    · skip
      refine g_iconst (v := 1) dX5_district_22 (by decide) ?_
      refine g_goto 27 dX5_district_23 (by decide) ?_
      refine g_istore_n dX5_district_27 (by decide) rfl ?_
      refine g_aload_n dX5_district_28 rfl ?_
      refine g_iload_n dX5_district_29 rfl ?_
      refine g_if_ne 37 dX5_district_30 (by decide) (fun _ => ?_) (fun z => absurd z (by decide))
      refine g_aload_n dX5_district_37 rfl ?_
      refine w_getI w dX5_district_38 fl_X5_93 rfl rfl (by first | rfl | assumption) ?_
      refine g_bipush (v := 8) dX5_district_41 (by decide) ?_
      refine g_icmp_ne 50 dX5_district_43 (by decide) (fun c_43 => ?_) (fun c_43 => ?_)
      · skip
        refine g_iconst (v := 0) dX5_district_50 (by decide) ?_
        
        exact absurd (hk.symm.trans (show sp_mdf Γ a c = 0 from by unfold sp_mdf; (try (first | rw [if_pos c_8] | rw [if_neg c_8])); (try (first | rw [if_pos c_19] | rw [if_neg c_19])); (try (first | rw [if_pos c_43] | rw [if_neg c_43])))) hK
      · skip
        refine g_iconst (v := 2) dX5_district_46 (by decide) ?_
        refine g_goto 51 dX5_district_47 (by decide) ?_
        have e : sp_mdf Γ a c = 2 := by unfold sp_mdf; (try (first | rw [if_pos c_8] | rw [if_neg c_8])); (try (first | rw [if_pos c_19] | rw [if_neg c_19])); (try (first | rw [if_pos c_43] | rw [if_neg c_43]))
        rw [hk] at e
        subst e
        refine g_callV [_] dX5_district_51 mc_X5_103 mi_X5_can se_X5_can (c_X5_can_1 hlt w (a := 2) (by decide)) (w.k (by first | rfl | assumption)) rfl rfl (Nat.le_of_ble_eq_true rfl) (am_rm hR (by decide)) (fun _ _ z => z) (fun v hx hq hE => ?_)
        obtain ⟨rfl, w3⟩ := hq
        obtain ⟨Γ1, hG⟩ : ∃ G, G = u3 Γ 11 0 34 2 := ⟨_, rfl⟩
        rw [← hG] at w3
        have en1 : Γ1 11 0 3 = Γ 11 0 3 := by rw [hG]; rfl
        have ep1 : Γ1 11 0 24 = Γ 11 0 24 := by rw [hG]; rfl
        refine g_if_ne 59 dX5_district_54 (by decide) (fun z => absurd z (by decide)) (fun _ => ?_)
        refine g_iconst (v := 0) dX5_district_57 (by decide) ?_
        rw [hQ]
        refine g_iret dX5_district_58 rfl rfl (by decide) (by decide) ?_
        subst hG
        exact ⟨rfl, w3⟩
set_option maxRecDepth 100000 in
set_option maxHeartbeats 4000000 in
theorem c_X5_district_0 {l : Launch} (hlt : l.stackTraces = false) {N n p : Nat} {ord : List Nat} {L : Nat → Nat → Nat} {Γ : Nat → Nat → Nat → Int32} {o : Int64} {h : am_H} (w : WI N n p ord L Γ o h) {b : Nat} (hb : b < 8) (en : Γ 11 0 3 = nI b) {a c : Int32} (hk : sp_mdf Γ a c = 0) : am_Con l yX5_district (.code yX5_district cX5_district 4 (some .int)) 20 0 0 [.ref (L 11 0), .int a, .int c] h (fun v h' => v = some (.int (nI b)) ∧ WI N n p ord L (u3 (u3 (u3 (u3 Γ 11 0 34 0) 12 4 b a) 12 5 b c) 11 0 3 (nI (b + 1))) o h') (fun _ _ => False) := by
  refine am_body hlt (by decide +kernel) (Nat.le_of_ble_eq_true rfl) (fun k hl hR h0 hno => ?_)
  subst hl
  obtain ⟨Qf, hQ⟩ : ∃ Qf, Qf = am_Q k 0 0 (fun v h' => v = some (.int (nI b)) ∧ WI N n p ord L (u3 (u3 (u3 (u3 Γ 11 0 34 0) 12 4 b a) 12 5 b c) 11 0 3 (nI (b + 1))) o h') (fun _ _ => False) := ⟨_, rfl⟩
  rw [← hQ]
  have hm : wdm n p 11 0 = true := rfl
  refine g_iload_n dX5_district_0 rfl ?_
  refine g_iconst (v := 0) dX5_district_1 (by decide) ?_
  refine g_sipush (v := 9999) dX5_district_2 (by decide) ?_
  refine g_callS [_, _, _] dX5_district_5 mc_X5_96 ms_X5_isIn (c_X5_isIn hlt _ _ _) rfl (Nat.le_of_ble_eq_true rfl) (am_rm hR (by decide)) (fun _ _ z => z) (fun v hx hq hE => ?_)
  obtain ⟨rfl, rfl⟩ := hq
  refine g_if_eq 26 dX5_district_8 (by decide) (fun c_8 => ?_) (fun c_8 => ?_)
  · skip
    refine g_iconst (v := 0) dX5_district_26 (by decide) ?_
    refine g_istore_n dX5_district_27 (by decide) rfl ?_
    refine g_aload_n dX5_district_28 rfl ?_
    refine g_iload_n dX5_district_29 rfl ?_
    refine g_if_ne 37 dX5_district_30 (by decide) (fun z => absurd z (by decide)) (fun _ => ?_)
    refine g_iconst (v := 1) dX5_district_33 (by decide) ?_
    refine g_goto 51 dX5_district_34 (by decide) ?_
    exact absurd (hk.symm.trans (show sp_mdf Γ a c = 1 from by unfold sp_mdf; (try (first | rw [if_pos c_8] | rw [if_neg c_8])))) (by decide)
  · skip
    refine g_iload_n dX5_district_11 rfl ?_
    refine g_iconst (v := 0) dX5_district_12 (by decide) ?_
    refine g_sipush (v := 999) dX5_district_13 (by decide) ?_
    refine g_callS [_, _, _] dX5_district_16 mc_X5_96 ms_X5_isIn (c_X5_isIn hlt _ _ _) rfl (Nat.le_of_ble_eq_true rfl) (am_rm hR (by decide)) (fun _ _ z => z) (fun v hx hq hE => ?_)
    obtain ⟨rfl, rfl⟩ := hq
    refine g_if_eq 26 dX5_district_19 (by decide) (fun c_19 => ?_) (fun c_19 => ?_)
    · skip
      refine g_iconst (v := 0) dX5_district_26 (by decide) ?_
      refine g_istore_n dX5_district_27 (by decide) rfl ?_
      refine g_aload_n dX5_district_28 rfl ?_
      refine g_iload_n dX5_district_29 rfl ?_
      refine g_if_ne 37 dX5_district_30 (by decide) (fun z => absurd z (by decide)) (fun _ => ?_)
      refine g_iconst (v := 1) dX5_district_33 (by decide) ?_
      refine g_goto 51 dX5_district_34 (by decide) ?_
      exact absurd (hk.symm.trans (show sp_mdf Γ a c = 1 from by unfold sp_mdf; (try (first | rw [if_pos c_8] | rw [if_neg c_8])); (try (first | rw [if_pos c_19] | rw [if_neg c_19])))) (by decide)
    · skip
      refine g_iconst (v := 1) dX5_district_22 (by decide) ?_
      refine g_goto 27 dX5_district_23 (by decide) ?_
      refine g_istore_n dX5_district_27 (by decide) rfl ?_
      refine g_aload_n dX5_district_28 rfl ?_
      refine g_iload_n dX5_district_29 rfl ?_
      refine g_if_ne 37 dX5_district_30 (by decide) (fun _ => ?_) (fun z => absurd z (by decide))
      refine g_aload_n dX5_district_37 rfl ?_
      refine w_getI w dX5_district_38 fl_X5_93 rfl rfl (by first | rfl | assumption) ?_
      refine g_bipush (v := 8) dX5_district_41 (by decide) ?_
      refine g_icmp_ne 50 dX5_district_43 (by decide) (fun c_43 => ?_) (fun c_43 => ?_)
      · skip
        refine g_iconst (v := 0) dX5_district_50 (by decide) ?_
        refine g_callV [_] dX5_district_51 mc_X5_103 mi_X5_can se_X5_can (c_X5_can_0 hlt w) (w.k (by first | rfl | assumption)) rfl rfl (Nat.le_of_ble_eq_true rfl) (am_rm hR (by decide)) (fun _ _ z => z) (fun v hx hq hE => ?_)
        obtain ⟨rfl, w1⟩ := hq
        obtain ⟨Γ1, hG⟩ : ∃ G, G = u3 Γ 11 0 34 0 := ⟨_, rfl⟩
        rw [← hG] at w1
        have en1 : Γ1 11 0 3 = Γ 11 0 3 := by rw [hG]; rfl
        have ep1 : Γ1 11 0 24 = Γ 11 0 24 := by rw [hG]; rfl
        refine g_if_ne 59 dX5_district_54 (by decide) (fun _ => ?_) (fun z => absurd z (by decide))
        subst hG
        refine g_aload_n dX5_district_59 rfl ?_
        refine w_getR w1 dX5_district_60 fl_X5_7 rfl rfl (by first | rfl | assumption) rfl ?_
        refine g_aload_n dX5_district_63 rfl ?_
        refine w_getI w1 dX5_district_64 fl_X5_93 rfl rfl (by first | rfl | assumption) ?_
        rw [show (u3 Γ 11 0 34 0) 11 0 3 = nI b from en]
        refine g_iload_n dX5_district_67 rfl ?_
        refine w_ast w1 dX5_district_68 (by decide) (by first | rfl | assumption) (by first | assumption | omega | (show _ < 8; omega) | (show _ < 24; omega) | (show _ < 9; omega)) (fun h2 w2 => ?_)
        refine g_aload_n dX5_district_69 rfl ?_
        refine w_getR w2 dX5_district_70 fl_X5_13 rfl rfl (by first | rfl | assumption) rfl ?_
        refine g_aload_n dX5_district_73 rfl ?_
        refine w_getI w2 dX5_district_74 fl_X5_93 rfl rfl (by first | rfl | assumption) ?_
        rw [show (u3 (u3 Γ 11 0 34 0) 12 4 b a) 11 0 3 = nI b from en]
        refine g_iload_n dX5_district_77 rfl ?_
        refine w_ast w2 dX5_district_78 (by decide) (by first | rfl | assumption) (by first | assumption | omega | (show _ < 8; omega) | (show _ < 24; omega) | (show _ < 9; omega)) (fun h3 w3 => ?_)
        refine g_aload_n dX5_district_79 rfl ?_
        refine g_dup dX5_district_80 rfl ?_
        refine w_getI w3 dX5_district_81 fl_X5_93 rfl rfl (by first | rfl | assumption) ?_
        refine g_iconst (v := 1) dX5_district_84 (by decide) ?_
        rw [show (u3 (u3 (u3 Γ 11 0 34 0) 12 4 b a) 12 5 b c) 11 0 3 = nI b from en]
        refine g_iadd dX5_district_85 ?_
        rw [nI_1]
        refine w_putI w3 dX5_district_86 fl_X5_93 rfl rfl (by decide) (fun q hq => by cases hq; rfl) (by first | rfl | assumption) rfl rfl (fun h4 w4 => ?_)
        refine g_aload_n dX5_district_89 rfl ?_
        refine w_getI w4 dX5_district_90 fl_X5_93 rfl rfl (by first | rfl | assumption) ?_
        refine g_iconst (v := 1) dX5_district_93 (by decide) ?_
        refine g_isub dX5_district_94 ?_
        rw [u3_s, nI_pred]
        rw [hQ]
        refine g_iret dX5_district_95 rfl rfl (by decide) (by decide) ?_
        exact ⟨rfl, w4⟩
      · skip
        refine g_iconst (v := 2) dX5_district_46 (by decide) ?_
        refine g_goto 51 dX5_district_47 (by decide) ?_
        exact absurd (hk.symm.trans (show sp_mdf Γ a c = 2 from by unfold sp_mdf; (try (first | rw [if_pos c_8] | rw [if_neg c_8])); (try (first | rw [if_pos c_19] | rw [if_neg c_19])); (try (first | rw [if_pos c_43] | rw [if_neg c_43])))) (by decide)
set_option maxRecDepth 100000 in
set_option maxHeartbeats 4000000 in
theorem c_X5_pipe_f {l : Launch} (hlt : l.stackTraces = false) {N n p : Nat} {ord : List Nat} {L : Nat → Nat → Nat} {Γ : Nat → Nat → Nat → Int32} {o : Int64} {h : am_H} (w : WI N n p ord L Γ o h) {ft t lim : Int32} {K : Int32} (hk : sp_mpf Γ ft t lim = K) (hK : ¬ K = 0) : am_Con l yX5_pipe (.code yX5_pipe cX5_pipe 6 (some .int)) 20 0 0 [.ref (L 11 0), .int ft, .int t, .int lim] h (fun v h' => v = some (.int 0) ∧ WI N n p ord L (u3 Γ 11 0 34 K) o h') (fun _ _ => False) := by
  refine am_body hlt (by decide +kernel) (Nat.le_of_ble_eq_true rfl) (fun k hl hR h0 hno => ?_)
  subst hl
  obtain ⟨Qf, hQ⟩ : ∃ Qf, Qf = am_Q k 0 0 (fun v h' => v = some (.int 0) ∧ WI N n p ord L (u3 Γ 11 0 34 K) o h') (fun _ _ => False) := ⟨_, rfl⟩
  rw [← hQ]
  have hm : wdm n p 11 0 = true := rfl
  refine g_iload_n dX5_pipe_0 rfl ?_
  refine g_iconst (v := (-1)) dX5_pipe_1 (by decide) ?_
  refine g_icmp_eq 13 dX5_pipe_2 (by decide) (fun c_2 => ?_) (fun c_2 => ?_)
  · skip
    refine g_aload_n dX5_pipe_13 rfl ?_
    refine g_iload_n dX5_pipe_14 rfl ?_
    refine g_callV [_] dX5_pipe_15 mc_X5_107 mi_X5_isDistrict se_X5_isDistrict (c_X5_isDistrict hlt w _) (w.k (by first | rfl | assumption)) rfl rfl (Nat.le_of_ble_eq_true rfl) (am_rm hR (by decide)) (fun _ _ z => z) (fun v hx hq hE => ?_)
    obtain ⟨rfl, rfl⟩ := hq
    refine g_if_eq 25 dX5_pipe_18 (by decide) (fun c_18 => ?_) (fun c_18 => ?_)
    · skip
      refine g_iconst (v := 0) dX5_pipe_25 (by decide) ?_
      refine g_istore dX5_pipe_26 (by decide) rfl ?_
      refine g_iload_n dX5_pipe_28 rfl ?_
      refine g_iload_n dX5_pipe_29 rfl ?_
      refine g_icmp_eq 48 dX5_pipe_30 (by decide) (fun c_30 => ?_) (fun c_30 => ?_)
      · skip
        refine g_iconst (v := 0) dX5_pipe_48 (by decide) ?_
        refine g_istore dX5_pipe_49 (by decide) rfl ?_
        refine g_aload_n dX5_pipe_51 rfl ?_
        refine g_iload dX5_pipe_52 rfl ?_
        refine g_if_ne 61 dX5_pipe_54 (by decide) (fun z => absurd z (by decide)) (fun _ => ?_)
        refine g_iconst (v := 1) dX5_pipe_57 (by decide) ?_
        refine g_goto 92 dX5_pipe_58 (by decide) ?_
        have e : sp_mpf Γ ft t lim = 1 := by unfold sp_mpf; (try (first | rw [if_pos c_2] | rw [if_neg c_2])); (try (first | rw [if_pos c_18] | rw [if_neg c_18])); (try (first | rw [if_pos c_30] | rw [if_neg c_30]))
        rw [hk] at e
        subst e
        refine g_callV [_] dX5_pipe_92 mc_X5_103 mi_X5_can se_X5_can (c_X5_can_1 hlt w (a := 1) (by decide)) (w.k (by first | rfl | assumption)) rfl rfl (Nat.le_of_ble_eq_true rfl) (am_rm hR (by decide)) (fun _ _ z => z) (fun v hx hq hE => ?_)
        obtain ⟨rfl, w1⟩ := hq
        obtain ⟨Γ1, hG⟩ : ∃ G, G = u3 Γ 11 0 34 1 := ⟨_, rfl⟩
        rw [← hG] at w1
        have en1 : Γ1 11 0 3 = Γ 11 0 3 := by rw [hG]; rfl
        have ep1 : Γ1 11 0 24 = Γ 11 0 24 := by rw [hG]; rfl
        refine g_if_ne 100 dX5_pipe_95 (by decide) (fun z => absurd z (by decide)) (fun _ => ?_)
        refine g_iconst (v := 0) dX5_pipe_98 (by decide) ?_
        rw [hQ]
        refine g_iret dX5_pipe_99 rfl rfl (by decide) (by decide) ?_
        subst hG
        exact ⟨rfl, w1⟩
      · skip
        refine g_iload_n dX5_pipe_33 rfl ?_
        refine g_iconst (v := 1) dX5_pipe_34 (by decide) ?_
        refine g_sipush (v := 999) dX5_pipe_35 (by decide) ?_
        refine g_callS [_, _, _] dX5_pipe_38 mc_X5_96 ms_X5_isIn (c_X5_isIn hlt _ _ _) rfl (Nat.le_of_ble_eq_true rfl) (am_rm hR (by decide)) (fun _ _ z => z) (fun v hx hq hE => ?_)
        obtain ⟨rfl, rfl⟩ := hq
        refine g_if_eq 48 dX5_pipe_41 (by decide) (fun c_41 => ?_) (fun c_41 => ?_)
        · skip
          refine g_iconst (v := 0) dX5_pipe_48 (by decide) ?_
          refine g_istore dX5_pipe_49 (by decide) rfl ?_
          refine g_aload_n dX5_pipe_51 rfl ?_
          refine g_iload dX5_pipe_52 rfl ?_
          refine g_if_ne 61 dX5_pipe_54 (by decide) (fun z => absurd z (by decide)) (fun _ => ?_)
          refine g_iconst (v := 1) dX5_pipe_57 (by decide) ?_
          refine g_goto 92 dX5_pipe_58 (by decide) ?_
          have e : sp_mpf Γ ft t lim = 1 := by unfold sp_mpf; (try (first | rw [if_pos c_2] | rw [if_neg c_2])); (try (first | rw [if_pos c_18] | rw [if_neg c_18])); (try (first | rw [if_pos c_30] | rw [if_neg c_30])); (try (first | rw [if_pos c_41] | rw [if_neg c_41]))
          rw [hk] at e
          subst e
          refine g_callV [_] dX5_pipe_92 mc_X5_103 mi_X5_can se_X5_can (c_X5_can_1 hlt w (a := 1) (by decide)) (w.k (by first | rfl | assumption)) rfl rfl (Nat.le_of_ble_eq_true rfl) (am_rm hR (by decide)) (fun _ _ z => z) (fun v hx hq hE => ?_)
          obtain ⟨rfl, w2⟩ := hq
          obtain ⟨Γ1, hG⟩ : ∃ G, G = u3 Γ 11 0 34 1 := ⟨_, rfl⟩
          rw [← hG] at w2
          have en1 : Γ1 11 0 3 = Γ 11 0 3 := by rw [hG]; rfl
          have ep1 : Γ1 11 0 24 = Γ 11 0 24 := by rw [hG]; rfl
          refine g_if_ne 100 dX5_pipe_95 (by decide) (fun z => absurd z (by decide)) (fun _ => ?_)
          refine g_iconst (v := 0) dX5_pipe_98 (by decide) ?_
          rw [hQ]
          refine g_iret dX5_pipe_99 rfl rfl (by decide) (by decide) ?_
          subst hG
          exact ⟨rfl, w2⟩
        · skip
          refine g_iconst (v := 1) dX5_pipe_44 (by decide) ?_
          refine g_goto 49 dX5_pipe_45 (by decide) ?_
          refine g_istore dX5_pipe_49 (by decide) rfl ?_
          refine g_aload_n dX5_pipe_51 rfl ?_
          refine g_iload dX5_pipe_52 rfl ?_
          refine g_if_ne 61 dX5_pipe_54 (by decide) (fun z => absurd z (by decide)) (fun _ => ?_)
          refine g_iconst (v := 1) dX5_pipe_57 (by decide) ?_
          refine g_goto 92 dX5_pipe_58 (by decide) ?_
          have e : sp_mpf Γ ft t lim = 1 := by unfold sp_mpf; (try (first | rw [if_pos c_2] | rw [if_neg c_2])); (try (first | rw [if_pos c_18] | rw [if_neg c_18])); (try (first | rw [if_pos c_30] | rw [if_neg c_30])); (try (first | rw [if_pos c_41] | rw [if_neg c_41]))
          rw [hk] at e
          subst e
          refine g_callV [_] dX5_pipe_92 mc_X5_103 mi_X5_can se_X5_can (c_X5_can_1 hlt w (a := 1) (by decide)) (w.k (by first | rfl | assumption)) rfl rfl (Nat.le_of_ble_eq_true rfl) (am_rm hR (by decide)) (fun _ _ z => z) (fun v hx hq hE => ?_)
          obtain ⟨rfl, w3⟩ := hq
          obtain ⟨Γ1, hG⟩ : ∃ G, G = u3 Γ 11 0 34 1 := ⟨_, rfl⟩
          rw [← hG] at w3
          have en1 : Γ1 11 0 3 = Γ 11 0 3 := by rw [hG]; rfl
          have ep1 : Γ1 11 0 24 = Γ 11 0 24 := by rw [hG]; rfl
          refine g_if_ne 100 dX5_pipe_95 (by decide) (fun z => absurd z (by decide)) (fun _ => ?_)
          refine g_iconst (v := 0) dX5_pipe_98 (by decide) ?_
          rw [hQ]
          refine g_iret dX5_pipe_99 rfl rfl (by decide) (by decide) ?_
          subst hG
          exact ⟨rfl, w3⟩
    · skip
      refine g_iconst (v := 1) dX5_pipe_21 (by decide) ?_
      refine g_goto 26 dX5_pipe_22 (by decide) ?_
      refine g_istore dX5_pipe_26 (by decide) rfl ?_
      refine g_iload_n dX5_pipe_28 rfl ?_
      refine g_iload_n dX5_pipe_29 rfl ?_
      refine g_icmp_eq 48 dX5_pipe_30 (by decide) (fun c_30 => ?_) (fun c_30 => ?_)
      · skip
        refine g_iconst (v := 0) dX5_pipe_48 (by decide) ?_
        refine g_istore dX5_pipe_49 (by decide) rfl ?_
        refine g_aload_n dX5_pipe_51 rfl ?_
        refine g_iload dX5_pipe_52 rfl ?_
        refine g_if_ne 61 dX5_pipe_54 (by decide) (fun _ => ?_) (fun z => absurd z (by decide))
        refine g_iload dX5_pipe_61 rfl ?_
        refine g_if_ne 70 dX5_pipe_63 (by decide) (fun z => absurd z (by decide)) (fun _ => ?_)
        refine g_iconst (v := 2) dX5_pipe_66 (by decide) ?_
        refine g_goto 92 dX5_pipe_67 (by decide) ?_
        have e : sp_mpf Γ ft t lim = 2 := by unfold sp_mpf; (try (first | rw [if_pos c_2] | rw [if_neg c_2])); (try (first | rw [if_pos c_18] | rw [if_neg c_18])); (try (first | rw [if_pos c_30] | rw [if_neg c_30]))
        rw [hk] at e
        subst e
        refine g_callV [_] dX5_pipe_92 mc_X5_103 mi_X5_can se_X5_can (c_X5_can_1 hlt w (a := 2) (by decide)) (w.k (by first | rfl | assumption)) rfl rfl (Nat.le_of_ble_eq_true rfl) (am_rm hR (by decide)) (fun _ _ z => z) (fun v hx hq hE => ?_)
        obtain ⟨rfl, w4⟩ := hq
        obtain ⟨Γ1, hG⟩ : ∃ G, G = u3 Γ 11 0 34 2 := ⟨_, rfl⟩
        rw [← hG] at w4
        have en1 : Γ1 11 0 3 = Γ 11 0 3 := by rw [hG]; rfl
        have ep1 : Γ1 11 0 24 = Γ 11 0 24 := by rw [hG]; rfl
        refine g_if_ne 100 dX5_pipe_95 (by decide) (fun z => absurd z (by decide)) (fun _ => ?_)
        refine g_iconst (v := 0) dX5_pipe_98 (by decide) ?_
        rw [hQ]
        refine g_iret dX5_pipe_99 rfl rfl (by decide) (by decide) ?_
        subst hG
        exact ⟨rfl, w4⟩
      · skip
        refine g_iload_n dX5_pipe_33 rfl ?_
        refine g_iconst (v := 1) dX5_pipe_34 (by decide) ?_
        refine g_sipush (v := 999) dX5_pipe_35 (by decide) ?_
        refine g_callS [_, _, _] dX5_pipe_38 mc_X5_96 ms_X5_isIn (c_X5_isIn hlt _ _ _) rfl (Nat.le_of_ble_eq_true rfl) (am_rm hR (by decide)) (fun _ _ z => z) (fun v hx hq hE => ?_)
        obtain ⟨rfl, rfl⟩ := hq
        refine g_if_eq 48 dX5_pipe_41 (by decide) (fun c_41 => ?_) (fun c_41 => ?_)
        · skip
          refine g_iconst (v := 0) dX5_pipe_48 (by decide) ?_
          refine g_istore dX5_pipe_49 (by decide) rfl ?_
          refine g_aload_n dX5_pipe_51 rfl ?_
          refine g_iload dX5_pipe_52 rfl ?_
          refine g_if_ne 61 dX5_pipe_54 (by decide) (fun _ => ?_) (fun z => absurd z (by decide))
          refine g_iload dX5_pipe_61 rfl ?_
          refine g_if_ne 70 dX5_pipe_63 (by decide) (fun z => absurd z (by decide)) (fun _ => ?_)
          refine g_iconst (v := 2) dX5_pipe_66 (by decide) ?_
          refine g_goto 92 dX5_pipe_67 (by decide) ?_
          have e : sp_mpf Γ ft t lim = 2 := by unfold sp_mpf; (try (first | rw [if_pos c_2] | rw [if_neg c_2])); (try (first | rw [if_pos c_18] | rw [if_neg c_18])); (try (first | rw [if_pos c_30] | rw [if_neg c_30])); (try (first | rw [if_pos c_41] | rw [if_neg c_41]))
          rw [hk] at e
          subst e
          refine g_callV [_] dX5_pipe_92 mc_X5_103 mi_X5_can se_X5_can (c_X5_can_1 hlt w (a := 2) (by decide)) (w.k (by first | rfl | assumption)) rfl rfl (Nat.le_of_ble_eq_true rfl) (am_rm hR (by decide)) (fun _ _ z => z) (fun v hx hq hE => ?_)
          obtain ⟨rfl, w5⟩ := hq
          obtain ⟨Γ1, hG⟩ : ∃ G, G = u3 Γ 11 0 34 2 := ⟨_, rfl⟩
          rw [← hG] at w5
          have en1 : Γ1 11 0 3 = Γ 11 0 3 := by rw [hG]; rfl
          have ep1 : Γ1 11 0 24 = Γ 11 0 24 := by rw [hG]; rfl
          refine g_if_ne 100 dX5_pipe_95 (by decide) (fun z => absurd z (by decide)) (fun _ => ?_)
          refine g_iconst (v := 0) dX5_pipe_98 (by decide) ?_
          rw [hQ]
          refine g_iret dX5_pipe_99 rfl rfl (by decide) (by decide) ?_
          subst hG
          exact ⟨rfl, w5⟩
        · skip
          refine g_iconst (v := 1) dX5_pipe_44 (by decide) ?_
          refine g_goto 49 dX5_pipe_45 (by decide) ?_
          refine g_istore dX5_pipe_49 (by decide) rfl ?_
          refine g_aload_n dX5_pipe_51 rfl ?_
          refine g_iload dX5_pipe_52 rfl ?_
          refine g_if_ne 61 dX5_pipe_54 (by decide) (fun _ => ?_) (fun z => absurd z (by decide))
          refine g_iload dX5_pipe_61 rfl ?_
          refine g_if_ne 70 dX5_pipe_63 (by decide) (fun _ => ?_) (fun z => absurd z (by decide))
          refine g_aload_n dX5_pipe_70 rfl ?_
          refine w_getI w dX5_pipe_71 fl_X5_100 rfl rfl (by first | rfl | assumption) ?_
          refine g_bipush (v := 24) dX5_pipe_74 (by decide) ?_
          refine g_icmp_eq 87 dX5_pipe_76 (by decide) (fun c_76 => ?_) (fun c_76 => ?_)
          · skip
            refine g_iconst (v := 3) dX5_pipe_87 (by decide) ?_
            refine g_goto 92 dX5_pipe_88 (by decide) ?_
            have e : sp_mpf Γ ft t lim = 3 := by unfold sp_mpf; (try (first | rw [if_pos c_2] | rw [if_neg c_2])); (try (first | rw [if_pos c_18] | rw [if_neg c_18])); (try (first | rw [if_pos c_30] | rw [if_neg c_30])); (try (first | rw [if_pos c_41] | rw [if_neg c_41])); (try (first | rw [if_pos c_76] | rw [if_neg c_76]))
            rw [hk] at e
            subst e
            refine g_callV [_] dX5_pipe_92 mc_X5_103 mi_X5_can se_X5_can (c_X5_can_1 hlt w (a := 3) (by decide)) (w.k (by first | rfl | assumption)) rfl rfl (Nat.le_of_ble_eq_true rfl) (am_rm hR (by decide)) (fun _ _ z => z) (fun v hx hq hE => ?_)
            obtain ⟨rfl, w6⟩ := hq
            obtain ⟨Γ1, hG⟩ : ∃ G, G = u3 Γ 11 0 34 3 := ⟨_, rfl⟩
            rw [← hG] at w6
            have en1 : Γ1 11 0 3 = Γ 11 0 3 := by rw [hG]; rfl
            have ep1 : Γ1 11 0 24 = Γ 11 0 24 := by rw [hG]; rfl
            refine g_if_ne 100 dX5_pipe_95 (by decide) (fun z => absurd z (by decide)) (fun _ => ?_)
            refine g_iconst (v := 0) dX5_pipe_98 (by decide) ?_
            rw [hQ]
            refine g_iret dX5_pipe_99 rfl rfl (by decide) (by decide) ?_
            subst hG
            exact ⟨rfl, w6⟩
          · skip
            refine g_aload_n dX5_pipe_79 rfl ?_
            refine w_getI w dX5_pipe_80 fl_X5_110 rfl rfl (by first | rfl | assumption) ?_
            refine g_iconst (v := (-1)) dX5_pipe_83 (by decide) ?_
            refine g_icmp_ne 91 dX5_pipe_84 (by decide) (fun c_84 => ?_) (fun c_84 => ?_)
            · skip
              refine g_iconst (v := 0) dX5_pipe_91 (by decide) ?_
              
              exact absurd (hk.symm.trans (show sp_mpf Γ ft t lim = 0 from by unfold sp_mpf; (try (first | rw [if_pos c_2] | rw [if_neg c_2])); (try (first | rw [if_pos c_18] | rw [if_neg c_18])); (try (first | rw [if_pos c_30] | rw [if_neg c_30])); (try (first | rw [if_pos c_41] | rw [if_neg c_41])); (try (first | rw [if_pos c_76] | rw [if_neg c_76])); (try (first | rw [if_pos c_84] | rw [if_neg c_84])))) hK
            · skip
              refine g_iconst (v := 3) dX5_pipe_87 (by decide) ?_
              refine g_goto 92 dX5_pipe_88 (by decide) ?_
              have e : sp_mpf Γ ft t lim = 3 := by unfold sp_mpf; (try (first | rw [if_pos c_2] | rw [if_neg c_2])); (try (first | rw [if_pos c_18] | rw [if_neg c_18])); (try (first | rw [if_pos c_30] | rw [if_neg c_30])); (try (first | rw [if_pos c_41] | rw [if_neg c_41])); (try (first | rw [if_pos c_76] | rw [if_neg c_76])); (try (first | rw [if_pos c_84] | rw [if_neg c_84]))
              rw [hk] at e
              subst e
              refine g_callV [_] dX5_pipe_92 mc_X5_103 mi_X5_can se_X5_can (c_X5_can_1 hlt w (a := 3) (by decide)) (w.k (by first | rfl | assumption)) rfl rfl (Nat.le_of_ble_eq_true rfl) (am_rm hR (by decide)) (fun _ _ z => z) (fun v hx hq hE => ?_)
              obtain ⟨rfl, w7⟩ := hq
              obtain ⟨Γ1, hG⟩ : ∃ G, G = u3 Γ 11 0 34 3 := ⟨_, rfl⟩
              rw [← hG] at w7
              have en1 : Γ1 11 0 3 = Γ 11 0 3 := by rw [hG]; rfl
              have ep1 : Γ1 11 0 24 = Γ 11 0 24 := by rw [hG]; rfl
              refine g_if_ne 100 dX5_pipe_95 (by decide) (fun z => absurd z (by decide)) (fun _ => ?_)
              refine g_iconst (v := 0) dX5_pipe_98 (by decide) ?_
              rw [hQ]
              refine g_iret dX5_pipe_99 rfl rfl (by decide) (by decide) ?_
              subst hG
              exact ⟨rfl, w7⟩
  · skip
    refine g_aload_n dX5_pipe_5 rfl ?_
    refine g_iload_n dX5_pipe_6 rfl ?_
    refine g_callV [_] dX5_pipe_7 mc_X5_107 mi_X5_isDistrict se_X5_isDistrict (c_X5_isDistrict hlt w _) (w.k (by first | rfl | assumption)) rfl rfl (Nat.le_of_ble_eq_true rfl) (am_rm hR (by decide)) (fun _ _ z => z) (fun v hx hq hE => ?_)
    obtain ⟨rfl, rfl⟩ := hq
    refine g_if_eq 25 dX5_pipe_10 (by decide) (fun c_10 => ?_) (fun c_10 => ?_)
    · skip
      refine g_iconst (v := 0) dX5_pipe_25 (by decide) ?_
      refine g_istore dX5_pipe_26 (by decide) rfl ?_
      refine g_iload_n dX5_pipe_28 rfl ?_
      refine g_iload_n dX5_pipe_29 rfl ?_
      refine g_icmp_eq 48 dX5_pipe_30 (by decide) (fun c_30 => ?_) (fun c_30 => ?_)
      · skip
        refine g_iconst (v := 0) dX5_pipe_48 (by decide) ?_
        refine g_istore dX5_pipe_49 (by decide) rfl ?_
        refine g_aload_n dX5_pipe_51 rfl ?_
        refine g_iload dX5_pipe_52 rfl ?_
        refine g_if_ne 61 dX5_pipe_54 (by decide) (fun z => absurd z (by decide)) (fun _ => ?_)
        refine g_iconst (v := 1) dX5_pipe_57 (by decide) ?_
        refine g_goto 92 dX5_pipe_58 (by decide) ?_
        have e : sp_mpf Γ ft t lim = 1 := by unfold sp_mpf; (try (first | rw [if_pos c_2] | rw [if_neg c_2])); (try (first | rw [if_pos c_10] | rw [if_neg c_10])); (try (first | rw [if_pos c_30] | rw [if_neg c_30]))
        rw [hk] at e
        subst e
        refine g_callV [_] dX5_pipe_92 mc_X5_103 mi_X5_can se_X5_can (c_X5_can_1 hlt w (a := 1) (by decide)) (w.k (by first | rfl | assumption)) rfl rfl (Nat.le_of_ble_eq_true rfl) (am_rm hR (by decide)) (fun _ _ z => z) (fun v hx hq hE => ?_)
        obtain ⟨rfl, w8⟩ := hq
        obtain ⟨Γ1, hG⟩ : ∃ G, G = u3 Γ 11 0 34 1 := ⟨_, rfl⟩
        rw [← hG] at w8
        have en1 : Γ1 11 0 3 = Γ 11 0 3 := by rw [hG]; rfl
        have ep1 : Γ1 11 0 24 = Γ 11 0 24 := by rw [hG]; rfl
        refine g_if_ne 100 dX5_pipe_95 (by decide) (fun z => absurd z (by decide)) (fun _ => ?_)
        refine g_iconst (v := 0) dX5_pipe_98 (by decide) ?_
        rw [hQ]
        refine g_iret dX5_pipe_99 rfl rfl (by decide) (by decide) ?_
        subst hG
        exact ⟨rfl, w8⟩
      · skip
        refine g_iload_n dX5_pipe_33 rfl ?_
        refine g_iconst (v := 1) dX5_pipe_34 (by decide) ?_
        refine g_sipush (v := 999) dX5_pipe_35 (by decide) ?_
        refine g_callS [_, _, _] dX5_pipe_38 mc_X5_96 ms_X5_isIn (c_X5_isIn hlt _ _ _) rfl (Nat.le_of_ble_eq_true rfl) (am_rm hR (by decide)) (fun _ _ z => z) (fun v hx hq hE => ?_)
        obtain ⟨rfl, rfl⟩ := hq
        refine g_if_eq 48 dX5_pipe_41 (by decide) (fun c_41 => ?_) (fun c_41 => ?_)
        · skip
          refine g_iconst (v := 0) dX5_pipe_48 (by decide) ?_
          refine g_istore dX5_pipe_49 (by decide) rfl ?_
          refine g_aload_n dX5_pipe_51 rfl ?_
          refine g_iload dX5_pipe_52 rfl ?_
          refine g_if_ne 61 dX5_pipe_54 (by decide) (fun z => absurd z (by decide)) (fun _ => ?_)
          refine g_iconst (v := 1) dX5_pipe_57 (by decide) ?_
          refine g_goto 92 dX5_pipe_58 (by decide) ?_
          have e : sp_mpf Γ ft t lim = 1 := by unfold sp_mpf; (try (first | rw [if_pos c_2] | rw [if_neg c_2])); (try (first | rw [if_pos c_10] | rw [if_neg c_10])); (try (first | rw [if_pos c_30] | rw [if_neg c_30])); (try (first | rw [if_pos c_41] | rw [if_neg c_41]))
          rw [hk] at e
          subst e
          refine g_callV [_] dX5_pipe_92 mc_X5_103 mi_X5_can se_X5_can (c_X5_can_1 hlt w (a := 1) (by decide)) (w.k (by first | rfl | assumption)) rfl rfl (Nat.le_of_ble_eq_true rfl) (am_rm hR (by decide)) (fun _ _ z => z) (fun v hx hq hE => ?_)
          obtain ⟨rfl, w9⟩ := hq
          obtain ⟨Γ1, hG⟩ : ∃ G, G = u3 Γ 11 0 34 1 := ⟨_, rfl⟩
          rw [← hG] at w9
          have en1 : Γ1 11 0 3 = Γ 11 0 3 := by rw [hG]; rfl
          have ep1 : Γ1 11 0 24 = Γ 11 0 24 := by rw [hG]; rfl
          refine g_if_ne 100 dX5_pipe_95 (by decide) (fun z => absurd z (by decide)) (fun _ => ?_)
          refine g_iconst (v := 0) dX5_pipe_98 (by decide) ?_
          rw [hQ]
          refine g_iret dX5_pipe_99 rfl rfl (by decide) (by decide) ?_
          subst hG
          exact ⟨rfl, w9⟩
        · skip
          refine g_iconst (v := 1) dX5_pipe_44 (by decide) ?_
          refine g_goto 49 dX5_pipe_45 (by decide) ?_
          refine g_istore dX5_pipe_49 (by decide) rfl ?_
          refine g_aload_n dX5_pipe_51 rfl ?_
          refine g_iload dX5_pipe_52 rfl ?_
          refine g_if_ne 61 dX5_pipe_54 (by decide) (fun z => absurd z (by decide)) (fun _ => ?_)
          refine g_iconst (v := 1) dX5_pipe_57 (by decide) ?_
          refine g_goto 92 dX5_pipe_58 (by decide) ?_
          have e : sp_mpf Γ ft t lim = 1 := by unfold sp_mpf; (try (first | rw [if_pos c_2] | rw [if_neg c_2])); (try (first | rw [if_pos c_10] | rw [if_neg c_10])); (try (first | rw [if_pos c_30] | rw [if_neg c_30])); (try (first | rw [if_pos c_41] | rw [if_neg c_41]))
          rw [hk] at e
          subst e
          refine g_callV [_] dX5_pipe_92 mc_X5_103 mi_X5_can se_X5_can (c_X5_can_1 hlt w (a := 1) (by decide)) (w.k (by first | rfl | assumption)) rfl rfl (Nat.le_of_ble_eq_true rfl) (am_rm hR (by decide)) (fun _ _ z => z) (fun v hx hq hE => ?_)
          obtain ⟨rfl, w10⟩ := hq
          obtain ⟨Γ1, hG⟩ : ∃ G, G = u3 Γ 11 0 34 1 := ⟨_, rfl⟩
          rw [← hG] at w10
          have en1 : Γ1 11 0 3 = Γ 11 0 3 := by rw [hG]; rfl
          have ep1 : Γ1 11 0 24 = Γ 11 0 24 := by rw [hG]; rfl
          refine g_if_ne 100 dX5_pipe_95 (by decide) (fun z => absurd z (by decide)) (fun _ => ?_)
          refine g_iconst (v := 0) dX5_pipe_98 (by decide) ?_
          rw [hQ]
          refine g_iret dX5_pipe_99 rfl rfl (by decide) (by decide) ?_
          subst hG
          exact ⟨rfl, w10⟩
    · skip
      refine g_aload_n dX5_pipe_13 rfl ?_
      refine g_iload_n dX5_pipe_14 rfl ?_
      refine g_callV [_] dX5_pipe_15 mc_X5_107 mi_X5_isDistrict se_X5_isDistrict (c_X5_isDistrict hlt w _) (w.k (by first | rfl | assumption)) rfl rfl (Nat.le_of_ble_eq_true rfl) (am_rm hR (by decide)) (fun _ _ z => z) (fun v hx hq hE => ?_)
      obtain ⟨rfl, rfl⟩ := hq
      refine g_if_eq 25 dX5_pipe_18 (by decide) (fun c_18 => ?_) (fun c_18 => ?_)
      · skip
        refine g_iconst (v := 0) dX5_pipe_25 (by decide) ?_
        refine g_istore dX5_pipe_26 (by decide) rfl ?_
        refine g_iload_n dX5_pipe_28 rfl ?_
        refine g_iload_n dX5_pipe_29 rfl ?_
        refine g_icmp_eq 48 dX5_pipe_30 (by decide) (fun c_30 => ?_) (fun c_30 => ?_)
        · skip
          refine g_iconst (v := 0) dX5_pipe_48 (by decide) ?_
          refine g_istore dX5_pipe_49 (by decide) rfl ?_
          refine g_aload_n dX5_pipe_51 rfl ?_
          refine g_iload dX5_pipe_52 rfl ?_
          refine g_if_ne 61 dX5_pipe_54 (by decide) (fun z => absurd z (by decide)) (fun _ => ?_)
          refine g_iconst (v := 1) dX5_pipe_57 (by decide) ?_
          refine g_goto 92 dX5_pipe_58 (by decide) ?_
          have e : sp_mpf Γ ft t lim = 1 := by unfold sp_mpf; (try (first | rw [if_pos c_2] | rw [if_neg c_2])); (try (first | rw [if_pos c_10] | rw [if_neg c_10])); (try (first | rw [if_pos c_18] | rw [if_neg c_18])); (try (first | rw [if_pos c_30] | rw [if_neg c_30]))
          rw [hk] at e
          subst e
          refine g_callV [_] dX5_pipe_92 mc_X5_103 mi_X5_can se_X5_can (c_X5_can_1 hlt w (a := 1) (by decide)) (w.k (by first | rfl | assumption)) rfl rfl (Nat.le_of_ble_eq_true rfl) (am_rm hR (by decide)) (fun _ _ z => z) (fun v hx hq hE => ?_)
          obtain ⟨rfl, w11⟩ := hq
          obtain ⟨Γ1, hG⟩ : ∃ G, G = u3 Γ 11 0 34 1 := ⟨_, rfl⟩
          rw [← hG] at w11
          have en1 : Γ1 11 0 3 = Γ 11 0 3 := by rw [hG]; rfl
          have ep1 : Γ1 11 0 24 = Γ 11 0 24 := by rw [hG]; rfl
          refine g_if_ne 100 dX5_pipe_95 (by decide) (fun z => absurd z (by decide)) (fun _ => ?_)
          refine g_iconst (v := 0) dX5_pipe_98 (by decide) ?_
          rw [hQ]
          refine g_iret dX5_pipe_99 rfl rfl (by decide) (by decide) ?_
          subst hG
          exact ⟨rfl, w11⟩
        · skip
          refine g_iload_n dX5_pipe_33 rfl ?_
          refine g_iconst (v := 1) dX5_pipe_34 (by decide) ?_
          refine g_sipush (v := 999) dX5_pipe_35 (by decide) ?_
          refine g_callS [_, _, _] dX5_pipe_38 mc_X5_96 ms_X5_isIn (c_X5_isIn hlt _ _ _) rfl (Nat.le_of_ble_eq_true rfl) (am_rm hR (by decide)) (fun _ _ z => z) (fun v hx hq hE => ?_)
          obtain ⟨rfl, rfl⟩ := hq
          refine g_if_eq 48 dX5_pipe_41 (by decide) (fun c_41 => ?_) (fun c_41 => ?_)
          · skip
            refine g_iconst (v := 0) dX5_pipe_48 (by decide) ?_
            refine g_istore dX5_pipe_49 (by decide) rfl ?_
            refine g_aload_n dX5_pipe_51 rfl ?_
            refine g_iload dX5_pipe_52 rfl ?_
            refine g_if_ne 61 dX5_pipe_54 (by decide) (fun z => absurd z (by decide)) (fun _ => ?_)
            refine g_iconst (v := 1) dX5_pipe_57 (by decide) ?_
            refine g_goto 92 dX5_pipe_58 (by decide) ?_
            have e : sp_mpf Γ ft t lim = 1 := by unfold sp_mpf; (try (first | rw [if_pos c_2] | rw [if_neg c_2])); (try (first | rw [if_pos c_10] | rw [if_neg c_10])); (try (first | rw [if_pos c_18] | rw [if_neg c_18])); (try (first | rw [if_pos c_30] | rw [if_neg c_30])); (try (first | rw [if_pos c_41] | rw [if_neg c_41]))
            rw [hk] at e
            subst e
            refine g_callV [_] dX5_pipe_92 mc_X5_103 mi_X5_can se_X5_can (c_X5_can_1 hlt w (a := 1) (by decide)) (w.k (by first | rfl | assumption)) rfl rfl (Nat.le_of_ble_eq_true rfl) (am_rm hR (by decide)) (fun _ _ z => z) (fun v hx hq hE => ?_)
            obtain ⟨rfl, w12⟩ := hq
            obtain ⟨Γ1, hG⟩ : ∃ G, G = u3 Γ 11 0 34 1 := ⟨_, rfl⟩
            rw [← hG] at w12
            have en1 : Γ1 11 0 3 = Γ 11 0 3 := by rw [hG]; rfl
            have ep1 : Γ1 11 0 24 = Γ 11 0 24 := by rw [hG]; rfl
            refine g_if_ne 100 dX5_pipe_95 (by decide) (fun z => absurd z (by decide)) (fun _ => ?_)
            refine g_iconst (v := 0) dX5_pipe_98 (by decide) ?_
            rw [hQ]
            refine g_iret dX5_pipe_99 rfl rfl (by decide) (by decide) ?_
            subst hG
            exact ⟨rfl, w12⟩
          · skip
            refine g_iconst (v := 1) dX5_pipe_44 (by decide) ?_
            refine g_goto 49 dX5_pipe_45 (by decide) ?_
            refine g_istore dX5_pipe_49 (by decide) rfl ?_
            refine g_aload_n dX5_pipe_51 rfl ?_
            refine g_iload dX5_pipe_52 rfl ?_
            refine g_if_ne 61 dX5_pipe_54 (by decide) (fun z => absurd z (by decide)) (fun _ => ?_)
            refine g_iconst (v := 1) dX5_pipe_57 (by decide) ?_
            refine g_goto 92 dX5_pipe_58 (by decide) ?_
            have e : sp_mpf Γ ft t lim = 1 := by unfold sp_mpf; (try (first | rw [if_pos c_2] | rw [if_neg c_2])); (try (first | rw [if_pos c_10] | rw [if_neg c_10])); (try (first | rw [if_pos c_18] | rw [if_neg c_18])); (try (first | rw [if_pos c_30] | rw [if_neg c_30])); (try (first | rw [if_pos c_41] | rw [if_neg c_41]))
            rw [hk] at e
            subst e
            refine g_callV [_] dX5_pipe_92 mc_X5_103 mi_X5_can se_X5_can (c_X5_can_1 hlt w (a := 1) (by decide)) (w.k (by first | rfl | assumption)) rfl rfl (Nat.le_of_ble_eq_true rfl) (am_rm hR (by decide)) (fun _ _ z => z) (fun v hx hq hE => ?_)
            obtain ⟨rfl, w13⟩ := hq
            obtain ⟨Γ1, hG⟩ : ∃ G, G = u3 Γ 11 0 34 1 := ⟨_, rfl⟩
            rw [← hG] at w13
            have en1 : Γ1 11 0 3 = Γ 11 0 3 := by rw [hG]; rfl
            have ep1 : Γ1 11 0 24 = Γ 11 0 24 := by rw [hG]; rfl
            refine g_if_ne 100 dX5_pipe_95 (by decide) (fun z => absurd z (by decide)) (fun _ => ?_)
            refine g_iconst (v := 0) dX5_pipe_98 (by decide) ?_
            rw [hQ]
            refine g_iret dX5_pipe_99 rfl rfl (by decide) (by decide) ?_
            subst hG
            exact ⟨rfl, w13⟩
      · skip
        refine g_iconst (v := 1) dX5_pipe_21 (by decide) ?_
        refine g_goto 26 dX5_pipe_22 (by decide) ?_
        refine g_istore dX5_pipe_26 (by decide) rfl ?_
        refine g_iload_n dX5_pipe_28 rfl ?_
        refine g_iload_n dX5_pipe_29 rfl ?_
        refine g_icmp_eq 48 dX5_pipe_30 (by decide) (fun c_30 => ?_) (fun c_30 => ?_)
        · skip
          refine g_iconst (v := 0) dX5_pipe_48 (by decide) ?_
          refine g_istore dX5_pipe_49 (by decide) rfl ?_
          refine g_aload_n dX5_pipe_51 rfl ?_
          refine g_iload dX5_pipe_52 rfl ?_
          refine g_if_ne 61 dX5_pipe_54 (by decide) (fun _ => ?_) (fun z => absurd z (by decide))
          refine g_iload dX5_pipe_61 rfl ?_
          refine g_if_ne 70 dX5_pipe_63 (by decide) (fun z => absurd z (by decide)) (fun _ => ?_)
          refine g_iconst (v := 2) dX5_pipe_66 (by decide) ?_
          refine g_goto 92 dX5_pipe_67 (by decide) ?_
          have e : sp_mpf Γ ft t lim = 2 := by unfold sp_mpf; (try (first | rw [if_pos c_2] | rw [if_neg c_2])); (try (first | rw [if_pos c_10] | rw [if_neg c_10])); (try (first | rw [if_pos c_18] | rw [if_neg c_18])); (try (first | rw [if_pos c_30] | rw [if_neg c_30]))
          rw [hk] at e
          subst e
          refine g_callV [_] dX5_pipe_92 mc_X5_103 mi_X5_can se_X5_can (c_X5_can_1 hlt w (a := 2) (by decide)) (w.k (by first | rfl | assumption)) rfl rfl (Nat.le_of_ble_eq_true rfl) (am_rm hR (by decide)) (fun _ _ z => z) (fun v hx hq hE => ?_)
          obtain ⟨rfl, w14⟩ := hq
          obtain ⟨Γ1, hG⟩ : ∃ G, G = u3 Γ 11 0 34 2 := ⟨_, rfl⟩
          rw [← hG] at w14
          have en1 : Γ1 11 0 3 = Γ 11 0 3 := by rw [hG]; rfl
          have ep1 : Γ1 11 0 24 = Γ 11 0 24 := by rw [hG]; rfl
          refine g_if_ne 100 dX5_pipe_95 (by decide) (fun z => absurd z (by decide)) (fun _ => ?_)
          refine g_iconst (v := 0) dX5_pipe_98 (by decide) ?_
          rw [hQ]
          refine g_iret dX5_pipe_99 rfl rfl (by decide) (by decide) ?_
          subst hG
          exact ⟨rfl, w14⟩
        · skip
          refine g_iload_n dX5_pipe_33 rfl ?_
          refine g_iconst (v := 1) dX5_pipe_34 (by decide) ?_
          refine g_sipush (v := 999) dX5_pipe_35 (by decide) ?_
          refine g_callS [_, _, _] dX5_pipe_38 mc_X5_96 ms_X5_isIn (c_X5_isIn hlt _ _ _) rfl (Nat.le_of_ble_eq_true rfl) (am_rm hR (by decide)) (fun _ _ z => z) (fun v hx hq hE => ?_)
          obtain ⟨rfl, rfl⟩ := hq
          refine g_if_eq 48 dX5_pipe_41 (by decide) (fun c_41 => ?_) (fun c_41 => ?_)
          · skip
            refine g_iconst (v := 0) dX5_pipe_48 (by decide) ?_
            refine g_istore dX5_pipe_49 (by decide) rfl ?_
            refine g_aload_n dX5_pipe_51 rfl ?_
            refine g_iload dX5_pipe_52 rfl ?_
            refine g_if_ne 61 dX5_pipe_54 (by decide) (fun _ => ?_) (fun z => absurd z (by decide))
            refine g_iload dX5_pipe_61 rfl ?_
            refine g_if_ne 70 dX5_pipe_63 (by decide) (fun z => absurd z (by decide)) (fun _ => ?_)
            refine g_iconst (v := 2) dX5_pipe_66 (by decide) ?_
            refine g_goto 92 dX5_pipe_67 (by decide) ?_
            have e : sp_mpf Γ ft t lim = 2 := by unfold sp_mpf; (try (first | rw [if_pos c_2] | rw [if_neg c_2])); (try (first | rw [if_pos c_10] | rw [if_neg c_10])); (try (first | rw [if_pos c_18] | rw [if_neg c_18])); (try (first | rw [if_pos c_30] | rw [if_neg c_30])); (try (first | rw [if_pos c_41] | rw [if_neg c_41]))
            rw [hk] at e
            subst e
            refine g_callV [_] dX5_pipe_92 mc_X5_103 mi_X5_can se_X5_can (c_X5_can_1 hlt w (a := 2) (by decide)) (w.k (by first | rfl | assumption)) rfl rfl (Nat.le_of_ble_eq_true rfl) (am_rm hR (by decide)) (fun _ _ z => z) (fun v hx hq hE => ?_)
            obtain ⟨rfl, w15⟩ := hq
            obtain ⟨Γ1, hG⟩ : ∃ G, G = u3 Γ 11 0 34 2 := ⟨_, rfl⟩
            rw [← hG] at w15
            have en1 : Γ1 11 0 3 = Γ 11 0 3 := by rw [hG]; rfl
            have ep1 : Γ1 11 0 24 = Γ 11 0 24 := by rw [hG]; rfl
            refine g_if_ne 100 dX5_pipe_95 (by decide) (fun z => absurd z (by decide)) (fun _ => ?_)
            refine g_iconst (v := 0) dX5_pipe_98 (by decide) ?_
            rw [hQ]
            refine g_iret dX5_pipe_99 rfl rfl (by decide) (by decide) ?_
            subst hG
            exact ⟨rfl, w15⟩
          · skip
            refine g_iconst (v := 1) dX5_pipe_44 (by decide) ?_
            refine g_goto 49 dX5_pipe_45 (by decide) ?_
            refine g_istore dX5_pipe_49 (by decide) rfl ?_
            refine g_aload_n dX5_pipe_51 rfl ?_
            refine g_iload dX5_pipe_52 rfl ?_
            refine g_if_ne 61 dX5_pipe_54 (by decide) (fun _ => ?_) (fun z => absurd z (by decide))
            refine g_iload dX5_pipe_61 rfl ?_
            refine g_if_ne 70 dX5_pipe_63 (by decide) (fun _ => ?_) (fun z => absurd z (by decide))
            refine g_aload_n dX5_pipe_70 rfl ?_
            refine w_getI w dX5_pipe_71 fl_X5_100 rfl rfl (by first | rfl | assumption) ?_
            refine g_bipush (v := 24) dX5_pipe_74 (by decide) ?_
            refine g_icmp_eq 87 dX5_pipe_76 (by decide) (fun c_76 => ?_) (fun c_76 => ?_)
            · skip
              refine g_iconst (v := 3) dX5_pipe_87 (by decide) ?_
              refine g_goto 92 dX5_pipe_88 (by decide) ?_
              have e : sp_mpf Γ ft t lim = 3 := by unfold sp_mpf; (try (first | rw [if_pos c_2] | rw [if_neg c_2])); (try (first | rw [if_pos c_10] | rw [if_neg c_10])); (try (first | rw [if_pos c_18] | rw [if_neg c_18])); (try (first | rw [if_pos c_30] | rw [if_neg c_30])); (try (first | rw [if_pos c_41] | rw [if_neg c_41])); (try (first | rw [if_pos c_76] | rw [if_neg c_76]))
              rw [hk] at e
              subst e
              refine g_callV [_] dX5_pipe_92 mc_X5_103 mi_X5_can se_X5_can (c_X5_can_1 hlt w (a := 3) (by decide)) (w.k (by first | rfl | assumption)) rfl rfl (Nat.le_of_ble_eq_true rfl) (am_rm hR (by decide)) (fun _ _ z => z) (fun v hx hq hE => ?_)
              obtain ⟨rfl, w16⟩ := hq
              obtain ⟨Γ1, hG⟩ : ∃ G, G = u3 Γ 11 0 34 3 := ⟨_, rfl⟩
              rw [← hG] at w16
              have en1 : Γ1 11 0 3 = Γ 11 0 3 := by rw [hG]; rfl
              have ep1 : Γ1 11 0 24 = Γ 11 0 24 := by rw [hG]; rfl
              refine g_if_ne 100 dX5_pipe_95 (by decide) (fun z => absurd z (by decide)) (fun _ => ?_)
              refine g_iconst (v := 0) dX5_pipe_98 (by decide) ?_
              rw [hQ]
              refine g_iret dX5_pipe_99 rfl rfl (by decide) (by decide) ?_
              subst hG
              exact ⟨rfl, w16⟩
            · skip
              refine g_aload_n dX5_pipe_79 rfl ?_
              refine w_getI w dX5_pipe_80 fl_X5_110 rfl rfl (by first | rfl | assumption) ?_
              refine g_iconst (v := (-1)) dX5_pipe_83 (by decide) ?_
              refine g_icmp_ne 91 dX5_pipe_84 (by decide) (fun c_84 => ?_) (fun c_84 => ?_)
              · skip
                refine g_iconst (v := 0) dX5_pipe_91 (by decide) ?_
                
                exact absurd (hk.symm.trans (show sp_mpf Γ ft t lim = 0 from by unfold sp_mpf; (try (first | rw [if_pos c_2] | rw [if_neg c_2])); (try (first | rw [if_pos c_10] | rw [if_neg c_10])); (try (first | rw [if_pos c_18] | rw [if_neg c_18])); (try (first | rw [if_pos c_30] | rw [if_neg c_30])); (try (first | rw [if_pos c_41] | rw [if_neg c_41])); (try (first | rw [if_pos c_76] | rw [if_neg c_76])); (try (first | rw [if_pos c_84] | rw [if_neg c_84])))) hK
              · skip
                refine g_iconst (v := 3) dX5_pipe_87 (by decide) ?_
                refine g_goto 92 dX5_pipe_88 (by decide) ?_
                have e : sp_mpf Γ ft t lim = 3 := by unfold sp_mpf; (try (first | rw [if_pos c_2] | rw [if_neg c_2])); (try (first | rw [if_pos c_10] | rw [if_neg c_10])); (try (first | rw [if_pos c_18] | rw [if_neg c_18])); (try (first | rw [if_pos c_30] | rw [if_neg c_30])); (try (first | rw [if_pos c_41] | rw [if_neg c_41])); (try (first | rw [if_pos c_76] | rw [if_neg c_76])); (try (first | rw [if_pos c_84] | rw [if_neg c_84]))
                rw [hk] at e
                subst e
                refine g_callV [_] dX5_pipe_92 mc_X5_103 mi_X5_can se_X5_can (c_X5_can_1 hlt w (a := 3) (by decide)) (w.k (by first | rfl | assumption)) rfl rfl (Nat.le_of_ble_eq_true rfl) (am_rm hR (by decide)) (fun _ _ z => z) (fun v hx hq hE => ?_)
                obtain ⟨rfl, w17⟩ := hq
                obtain ⟨Γ1, hG⟩ : ∃ G, G = u3 Γ 11 0 34 3 := ⟨_, rfl⟩
                rw [← hG] at w17
                have en1 : Γ1 11 0 3 = Γ 11 0 3 := by rw [hG]; rfl
                have ep1 : Γ1 11 0 24 = Γ 11 0 24 := by rw [hG]; rfl
                refine g_if_ne 100 dX5_pipe_95 (by decide) (fun z => absurd z (by decide)) (fun _ => ?_)
                refine g_iconst (v := 0) dX5_pipe_98 (by decide) ?_
                rw [hQ]
                refine g_iret dX5_pipe_99 rfl rfl (by decide) (by decide) ?_
                subst hG
                exact ⟨rfl, w17⟩
set_option maxRecDepth 100000 in
set_option maxHeartbeats 4000000 in
theorem c_X5_pipe_0 {l : Launch} (hlt : l.stackTraces = false) {N n p : Nat} {ord : List Nat} {L : Nat → Nat → Nat} {Γ : Nat → Nat → Nat → Int32} {o : Int64} {h : am_H} (w : WI N n p ord L Γ o h) {q : Nat} (hq : q < 24) (ep : Γ 11 0 24 = nI q) {ft t lim : Int32} (hk : sp_mpf Γ ft t lim = 0) : am_Con l yX5_pipe (.code yX5_pipe cX5_pipe 6 (some .int)) 20 0 0 [.ref (L 11 0), .int ft, .int t, .int lim] h (fun v h' => v = some (.int (nI q)) ∧ WI N n p ord L (u3 (u3 (u3 (u3 (u3 Γ 11 0 34 0) 12 25 q (if ft = -1 then 8 else ft)) 12 26 q t) 12 27 q lim) 11 0 24 (nI (q + 1))) o h') (fun _ _ => False) := by
  refine am_body hlt (by decide +kernel) (Nat.le_of_ble_eq_true rfl) (fun k hl hR h0 hno => ?_)
  subst hl
  obtain ⟨Qf, hQ⟩ : ∃ Qf, Qf = am_Q k 0 0 (fun v h' => v = some (.int (nI q)) ∧ WI N n p ord L (u3 (u3 (u3 (u3 (u3 Γ 11 0 34 0) 12 25 q (if ft = -1 then 8 else ft)) 12 26 q t) 12 27 q lim) 11 0 24 (nI (q + 1))) o h') (fun _ _ => False) := ⟨_, rfl⟩
  rw [← hQ]
  have hm : wdm n p 11 0 = true := rfl
  refine g_iload_n dX5_pipe_0 rfl ?_
  refine g_iconst (v := (-1)) dX5_pipe_1 (by decide) ?_
  refine g_icmp_eq 13 dX5_pipe_2 (by decide) (fun c_2 => ?_) (fun c_2 => ?_)
  · skip
    refine g_aload_n dX5_pipe_13 rfl ?_
    refine g_iload_n dX5_pipe_14 rfl ?_
    refine g_callV [_] dX5_pipe_15 mc_X5_107 mi_X5_isDistrict se_X5_isDistrict (c_X5_isDistrict hlt w _) (w.k (by first | rfl | assumption)) rfl rfl (Nat.le_of_ble_eq_true rfl) (am_rm hR (by decide)) (fun _ _ z => z) (fun v hx hq hE => ?_)
    obtain ⟨rfl, rfl⟩ := hq
    refine g_if_eq 25 dX5_pipe_18 (by decide) (fun c_18 => ?_) (fun c_18 => ?_)
    · skip
      refine g_iconst (v := 0) dX5_pipe_25 (by decide) ?_
      refine g_istore dX5_pipe_26 (by decide) rfl ?_
      refine g_iload_n dX5_pipe_28 rfl ?_
      refine g_iload_n dX5_pipe_29 rfl ?_
      refine g_icmp_eq 48 dX5_pipe_30 (by decide) (fun c_30 => ?_) (fun c_30 => ?_)
      · skip
        refine g_iconst (v := 0) dX5_pipe_48 (by decide) ?_
        refine g_istore dX5_pipe_49 (by decide) rfl ?_
        refine g_aload_n dX5_pipe_51 rfl ?_
        refine g_iload dX5_pipe_52 rfl ?_
        refine g_if_ne 61 dX5_pipe_54 (by decide) (fun z => absurd z (by decide)) (fun _ => ?_)
        refine g_iconst (v := 1) dX5_pipe_57 (by decide) ?_
        refine g_goto 92 dX5_pipe_58 (by decide) ?_
        exact absurd (hk.symm.trans (show sp_mpf Γ ft t lim = 1 from by unfold sp_mpf; (try (first | rw [if_pos c_2] | rw [if_neg c_2])); (try (first | rw [if_pos c_18] | rw [if_neg c_18])); (try (first | rw [if_pos c_30] | rw [if_neg c_30])))) (by decide)
      · skip
        refine g_iload_n dX5_pipe_33 rfl ?_
        refine g_iconst (v := 1) dX5_pipe_34 (by decide) ?_
        refine g_sipush (v := 999) dX5_pipe_35 (by decide) ?_
        refine g_callS [_, _, _] dX5_pipe_38 mc_X5_96 ms_X5_isIn (c_X5_isIn hlt _ _ _) rfl (Nat.le_of_ble_eq_true rfl) (am_rm hR (by decide)) (fun _ _ z => z) (fun v hx hq hE => ?_)
        obtain ⟨rfl, rfl⟩ := hq
        refine g_if_eq 48 dX5_pipe_41 (by decide) (fun c_41 => ?_) (fun c_41 => ?_)
        · skip
          refine g_iconst (v := 0) dX5_pipe_48 (by decide) ?_
          refine g_istore dX5_pipe_49 (by decide) rfl ?_
          refine g_aload_n dX5_pipe_51 rfl ?_
          refine g_iload dX5_pipe_52 rfl ?_
          refine g_if_ne 61 dX5_pipe_54 (by decide) (fun z => absurd z (by decide)) (fun _ => ?_)
          refine g_iconst (v := 1) dX5_pipe_57 (by decide) ?_
          refine g_goto 92 dX5_pipe_58 (by decide) ?_
          exact absurd (hk.symm.trans (show sp_mpf Γ ft t lim = 1 from by unfold sp_mpf; (try (first | rw [if_pos c_2] | rw [if_neg c_2])); (try (first | rw [if_pos c_18] | rw [if_neg c_18])); (try (first | rw [if_pos c_30] | rw [if_neg c_30])); (try (first | rw [if_pos c_41] | rw [if_neg c_41])))) (by decide)
        · skip
          refine g_iconst (v := 1) dX5_pipe_44 (by decide) ?_
          refine g_goto 49 dX5_pipe_45 (by decide) ?_
          refine g_istore dX5_pipe_49 (by decide) rfl ?_
          refine g_aload_n dX5_pipe_51 rfl ?_
          refine g_iload dX5_pipe_52 rfl ?_
          refine g_if_ne 61 dX5_pipe_54 (by decide) (fun z => absurd z (by decide)) (fun _ => ?_)
          refine g_iconst (v := 1) dX5_pipe_57 (by decide) ?_
          refine g_goto 92 dX5_pipe_58 (by decide) ?_
          exact absurd (hk.symm.trans (show sp_mpf Γ ft t lim = 1 from by unfold sp_mpf; (try (first | rw [if_pos c_2] | rw [if_neg c_2])); (try (first | rw [if_pos c_18] | rw [if_neg c_18])); (try (first | rw [if_pos c_30] | rw [if_neg c_30])); (try (first | rw [if_pos c_41] | rw [if_neg c_41])))) (by decide)
    · skip
      refine g_iconst (v := 1) dX5_pipe_21 (by decide) ?_
      refine g_goto 26 dX5_pipe_22 (by decide) ?_
      refine g_istore dX5_pipe_26 (by decide) rfl ?_
      refine g_iload_n dX5_pipe_28 rfl ?_
      refine g_iload_n dX5_pipe_29 rfl ?_
      refine g_icmp_eq 48 dX5_pipe_30 (by decide) (fun c_30 => ?_) (fun c_30 => ?_)
      · skip
        refine g_iconst (v := 0) dX5_pipe_48 (by decide) ?_
        refine g_istore dX5_pipe_49 (by decide) rfl ?_
        refine g_aload_n dX5_pipe_51 rfl ?_
        refine g_iload dX5_pipe_52 rfl ?_
        refine g_if_ne 61 dX5_pipe_54 (by decide) (fun _ => ?_) (fun z => absurd z (by decide))
        refine g_iload dX5_pipe_61 rfl ?_
        refine g_if_ne 70 dX5_pipe_63 (by decide) (fun z => absurd z (by decide)) (fun _ => ?_)
        refine g_iconst (v := 2) dX5_pipe_66 (by decide) ?_
        refine g_goto 92 dX5_pipe_67 (by decide) ?_
        exact absurd (hk.symm.trans (show sp_mpf Γ ft t lim = 2 from by unfold sp_mpf; (try (first | rw [if_pos c_2] | rw [if_neg c_2])); (try (first | rw [if_pos c_18] | rw [if_neg c_18])); (try (first | rw [if_pos c_30] | rw [if_neg c_30])))) (by decide)
      · skip
        refine g_iload_n dX5_pipe_33 rfl ?_
        refine g_iconst (v := 1) dX5_pipe_34 (by decide) ?_
        refine g_sipush (v := 999) dX5_pipe_35 (by decide) ?_
        refine g_callS [_, _, _] dX5_pipe_38 mc_X5_96 ms_X5_isIn (c_X5_isIn hlt _ _ _) rfl (Nat.le_of_ble_eq_true rfl) (am_rm hR (by decide)) (fun _ _ z => z) (fun v hx hq hE => ?_)
        obtain ⟨rfl, rfl⟩ := hq
        refine g_if_eq 48 dX5_pipe_41 (by decide) (fun c_41 => ?_) (fun c_41 => ?_)
        · skip
          refine g_iconst (v := 0) dX5_pipe_48 (by decide) ?_
          refine g_istore dX5_pipe_49 (by decide) rfl ?_
          refine g_aload_n dX5_pipe_51 rfl ?_
          refine g_iload dX5_pipe_52 rfl ?_
          refine g_if_ne 61 dX5_pipe_54 (by decide) (fun _ => ?_) (fun z => absurd z (by decide))
          refine g_iload dX5_pipe_61 rfl ?_
          refine g_if_ne 70 dX5_pipe_63 (by decide) (fun z => absurd z (by decide)) (fun _ => ?_)
          refine g_iconst (v := 2) dX5_pipe_66 (by decide) ?_
          refine g_goto 92 dX5_pipe_67 (by decide) ?_
          exact absurd (hk.symm.trans (show sp_mpf Γ ft t lim = 2 from by unfold sp_mpf; (try (first | rw [if_pos c_2] | rw [if_neg c_2])); (try (first | rw [if_pos c_18] | rw [if_neg c_18])); (try (first | rw [if_pos c_30] | rw [if_neg c_30])); (try (first | rw [if_pos c_41] | rw [if_neg c_41])))) (by decide)
        · skip
          refine g_iconst (v := 1) dX5_pipe_44 (by decide) ?_
          refine g_goto 49 dX5_pipe_45 (by decide) ?_
          refine g_istore dX5_pipe_49 (by decide) rfl ?_
          refine g_aload_n dX5_pipe_51 rfl ?_
          refine g_iload dX5_pipe_52 rfl ?_
          refine g_if_ne 61 dX5_pipe_54 (by decide) (fun _ => ?_) (fun z => absurd z (by decide))
          refine g_iload dX5_pipe_61 rfl ?_
          refine g_if_ne 70 dX5_pipe_63 (by decide) (fun _ => ?_) (fun z => absurd z (by decide))
          refine g_aload_n dX5_pipe_70 rfl ?_
          refine w_getI w dX5_pipe_71 fl_X5_100 rfl rfl (by first | rfl | assumption) ?_
          refine g_bipush (v := 24) dX5_pipe_74 (by decide) ?_
          refine g_icmp_eq 87 dX5_pipe_76 (by decide) (fun c_76 => ?_) (fun c_76 => ?_)
          · skip
            refine g_iconst (v := 3) dX5_pipe_87 (by decide) ?_
            refine g_goto 92 dX5_pipe_88 (by decide) ?_
            exact absurd (hk.symm.trans (show sp_mpf Γ ft t lim = 3 from by unfold sp_mpf; (try (first | rw [if_pos c_2] | rw [if_neg c_2])); (try (first | rw [if_pos c_18] | rw [if_neg c_18])); (try (first | rw [if_pos c_30] | rw [if_neg c_30])); (try (first | rw [if_pos c_41] | rw [if_neg c_41])); (try (first | rw [if_pos c_76] | rw [if_neg c_76])))) (by decide)
          · skip
            refine g_aload_n dX5_pipe_79 rfl ?_
            refine w_getI w dX5_pipe_80 fl_X5_110 rfl rfl (by first | rfl | assumption) ?_
            refine g_iconst (v := (-1)) dX5_pipe_83 (by decide) ?_
            refine g_icmp_ne 91 dX5_pipe_84 (by decide) (fun c_84 => ?_) (fun c_84 => ?_)
            · skip
              refine g_iconst (v := 0) dX5_pipe_91 (by decide) ?_
              refine g_callV [_] dX5_pipe_92 mc_X5_103 mi_X5_can se_X5_can (c_X5_can_0 hlt w) (w.k (by first | rfl | assumption)) rfl rfl (Nat.le_of_ble_eq_true rfl) (am_rm hR (by decide)) (fun _ _ z => z) (fun v hx hq hE => ?_)
              obtain ⟨rfl, w1⟩ := hq
              obtain ⟨Γ1, hG⟩ : ∃ G, G = u3 Γ 11 0 34 0 := ⟨_, rfl⟩
              rw [← hG] at w1
              have en1 : Γ1 11 0 3 = Γ 11 0 3 := by rw [hG]; rfl
              have ep1 : Γ1 11 0 24 = Γ 11 0 24 := by rw [hG]; rfl
              refine g_if_ne 100 dX5_pipe_95 (by decide) (fun _ => ?_) (fun z => absurd z (by decide))
              subst hG
              refine g_aload_n dX5_pipe_100 rfl ?_
              refine w_getR w1 dX5_pipe_101 fl_X5_65 rfl rfl (by first | rfl | assumption) rfl ?_
              refine g_aload_n dX5_pipe_104 rfl ?_
              refine w_getI w1 dX5_pipe_105 fl_X5_100 rfl rfl (by first | rfl | assumption) ?_
              rw [show (u3 Γ 11 0 34 0) 11 0 24 = nI q from ep]
              refine g_iload_n dX5_pipe_108 rfl ?_
              refine g_iconst (v := (-1)) dX5_pipe_109 (by decide) ?_
              refine g_icmp_ne 118 dX5_pipe_110 (by decide) (fun z => absurd c_2 z) (fun c_110 => ?_)
              refine g_bipush (v := 8) dX5_pipe_113 (by decide) ?_
              refine g_goto 119 dX5_pipe_115 (by decide) ?_
              refine w_ast w1 dX5_pipe_119 (by decide) (by first | rfl | assumption) (by first | assumption | omega | (show _ < 8; omega) | (show _ < 24; omega) | (show _ < 9; omega)) (fun h2 w2 => ?_)
              refine g_aload_n dX5_pipe_120 rfl ?_
              refine w_getR w2 dX5_pipe_121 fl_X5_68 rfl rfl (by first | rfl | assumption) rfl ?_
              refine g_aload_n dX5_pipe_124 rfl ?_
              refine w_getI w2 dX5_pipe_125 fl_X5_100 rfl rfl (by first | rfl | assumption) ?_
              rw [show (u3 (u3 Γ 11 0 34 0) 12 25 q _) 11 0 24 = nI q from ep]
              refine g_iload_n dX5_pipe_128 rfl ?_
              refine w_ast w2 dX5_pipe_129 (by decide) (by first | rfl | assumption) (by first | assumption | omega | (show _ < 8; omega) | (show _ < 24; omega) | (show _ < 9; omega)) (fun h3 w3 => ?_)
              refine g_aload_n dX5_pipe_130 rfl ?_
              refine w_getR w3 dX5_pipe_131 fl_X5_71 rfl rfl (by first | rfl | assumption) rfl ?_
              refine g_aload_n dX5_pipe_134 rfl ?_
              refine w_getI w3 dX5_pipe_135 fl_X5_100 rfl rfl (by first | rfl | assumption) ?_
              rw [show (u3 (u3 (u3 Γ 11 0 34 0) 12 25 q _) 12 26 q t) 11 0 24 = nI q from ep]
              refine g_iload_n dX5_pipe_138 rfl ?_
              refine w_ast w3 dX5_pipe_139 (by decide) (by first | rfl | assumption) (by first | assumption | omega | (show _ < 8; omega) | (show _ < 24; omega) | (show _ < 9; omega)) (fun h4 w4 => ?_)
              refine g_aload_n dX5_pipe_140 rfl ?_
              refine g_dup dX5_pipe_141 rfl ?_
              refine w_getI w4 dX5_pipe_142 fl_X5_100 rfl rfl (by first | rfl | assumption) ?_
              refine g_iconst (v := 1) dX5_pipe_145 (by decide) ?_
              rw [show (u3 (u3 (u3 (u3 Γ 11 0 34 0) 12 25 q _) 12 26 q t) 12 27 q lim) 11 0 24 = nI q from ep]
              refine g_iadd dX5_pipe_146 ?_
              rw [nI_1]
              refine w_putI w4 dX5_pipe_147 fl_X5_100 rfl rfl (by decide) (fun q hq => by cases hq; rfl) (by first | rfl | assumption) rfl rfl (fun h5 w5 => ?_)
              refine g_aload_n dX5_pipe_150 rfl ?_
              refine w_getI w5 dX5_pipe_151 fl_X5_100 rfl rfl (by first | rfl | assumption) ?_
              refine g_iconst (v := 1) dX5_pipe_154 (by decide) ?_
              refine g_isub dX5_pipe_155 ?_
              rw [u3_s, nI_pred]
              rw [hQ]
              refine g_iret dX5_pipe_156 rfl rfl (by decide) (by decide) ?_
              rw [show (if ft = -1 then (8 : Int32) else ft) = 8 from if_pos c_2]
              exact ⟨rfl, w5⟩
            · skip
              refine g_iconst (v := 3) dX5_pipe_87 (by decide) ?_
              refine g_goto 92 dX5_pipe_88 (by decide) ?_
              exact absurd (hk.symm.trans (show sp_mpf Γ ft t lim = 3 from by unfold sp_mpf; (try (first | rw [if_pos c_2] | rw [if_neg c_2])); (try (first | rw [if_pos c_18] | rw [if_neg c_18])); (try (first | rw [if_pos c_30] | rw [if_neg c_30])); (try (first | rw [if_pos c_41] | rw [if_neg c_41])); (try (first | rw [if_pos c_76] | rw [if_neg c_76])); (try (first | rw [if_pos c_84] | rw [if_neg c_84])))) (by decide)
  · skip
    refine g_aload_n dX5_pipe_5 rfl ?_
    refine g_iload_n dX5_pipe_6 rfl ?_
    refine g_callV [_] dX5_pipe_7 mc_X5_107 mi_X5_isDistrict se_X5_isDistrict (c_X5_isDistrict hlt w _) (w.k (by first | rfl | assumption)) rfl rfl (Nat.le_of_ble_eq_true rfl) (am_rm hR (by decide)) (fun _ _ z => z) (fun v hx hq hE => ?_)
    obtain ⟨rfl, rfl⟩ := hq
    refine g_if_eq 25 dX5_pipe_10 (by decide) (fun c_10 => ?_) (fun c_10 => ?_)
    · skip
      refine g_iconst (v := 0) dX5_pipe_25 (by decide) ?_
      refine g_istore dX5_pipe_26 (by decide) rfl ?_
      refine g_iload_n dX5_pipe_28 rfl ?_
      refine g_iload_n dX5_pipe_29 rfl ?_
      refine g_icmp_eq 48 dX5_pipe_30 (by decide) (fun c_30 => ?_) (fun c_30 => ?_)
      · skip
        refine g_iconst (v := 0) dX5_pipe_48 (by decide) ?_
        refine g_istore dX5_pipe_49 (by decide) rfl ?_
        refine g_aload_n dX5_pipe_51 rfl ?_
        refine g_iload dX5_pipe_52 rfl ?_
        refine g_if_ne 61 dX5_pipe_54 (by decide) (fun z => absurd z (by decide)) (fun _ => ?_)
        refine g_iconst (v := 1) dX5_pipe_57 (by decide) ?_
        refine g_goto 92 dX5_pipe_58 (by decide) ?_
        exact absurd (hk.symm.trans (show sp_mpf Γ ft t lim = 1 from by unfold sp_mpf; (try (first | rw [if_pos c_2] | rw [if_neg c_2])); (try (first | rw [if_pos c_10] | rw [if_neg c_10])); (try (first | rw [if_pos c_30] | rw [if_neg c_30])))) (by decide)
      · skip
        refine g_iload_n dX5_pipe_33 rfl ?_
        refine g_iconst (v := 1) dX5_pipe_34 (by decide) ?_
        refine g_sipush (v := 999) dX5_pipe_35 (by decide) ?_
        refine g_callS [_, _, _] dX5_pipe_38 mc_X5_96 ms_X5_isIn (c_X5_isIn hlt _ _ _) rfl (Nat.le_of_ble_eq_true rfl) (am_rm hR (by decide)) (fun _ _ z => z) (fun v hx hq hE => ?_)
        obtain ⟨rfl, rfl⟩ := hq
        refine g_if_eq 48 dX5_pipe_41 (by decide) (fun c_41 => ?_) (fun c_41 => ?_)
        · skip
          refine g_iconst (v := 0) dX5_pipe_48 (by decide) ?_
          refine g_istore dX5_pipe_49 (by decide) rfl ?_
          refine g_aload_n dX5_pipe_51 rfl ?_
          refine g_iload dX5_pipe_52 rfl ?_
          refine g_if_ne 61 dX5_pipe_54 (by decide) (fun z => absurd z (by decide)) (fun _ => ?_)
          refine g_iconst (v := 1) dX5_pipe_57 (by decide) ?_
          refine g_goto 92 dX5_pipe_58 (by decide) ?_
          exact absurd (hk.symm.trans (show sp_mpf Γ ft t lim = 1 from by unfold sp_mpf; (try (first | rw [if_pos c_2] | rw [if_neg c_2])); (try (first | rw [if_pos c_10] | rw [if_neg c_10])); (try (first | rw [if_pos c_30] | rw [if_neg c_30])); (try (first | rw [if_pos c_41] | rw [if_neg c_41])))) (by decide)
        · skip
          refine g_iconst (v := 1) dX5_pipe_44 (by decide) ?_
          refine g_goto 49 dX5_pipe_45 (by decide) ?_
          refine g_istore dX5_pipe_49 (by decide) rfl ?_
          refine g_aload_n dX5_pipe_51 rfl ?_
          refine g_iload dX5_pipe_52 rfl ?_
          refine g_if_ne 61 dX5_pipe_54 (by decide) (fun z => absurd z (by decide)) (fun _ => ?_)
          refine g_iconst (v := 1) dX5_pipe_57 (by decide) ?_
          refine g_goto 92 dX5_pipe_58 (by decide) ?_
          exact absurd (hk.symm.trans (show sp_mpf Γ ft t lim = 1 from by unfold sp_mpf; (try (first | rw [if_pos c_2] | rw [if_neg c_2])); (try (first | rw [if_pos c_10] | rw [if_neg c_10])); (try (first | rw [if_pos c_30] | rw [if_neg c_30])); (try (first | rw [if_pos c_41] | rw [if_neg c_41])))) (by decide)
    · skip
      refine g_aload_n dX5_pipe_13 rfl ?_
      refine g_iload_n dX5_pipe_14 rfl ?_
      refine g_callV [_] dX5_pipe_15 mc_X5_107 mi_X5_isDistrict se_X5_isDistrict (c_X5_isDistrict hlt w _) (w.k (by first | rfl | assumption)) rfl rfl (Nat.le_of_ble_eq_true rfl) (am_rm hR (by decide)) (fun _ _ z => z) (fun v hx hq hE => ?_)
      obtain ⟨rfl, rfl⟩ := hq
      refine g_if_eq 25 dX5_pipe_18 (by decide) (fun c_18 => ?_) (fun c_18 => ?_)
      · skip
        refine g_iconst (v := 0) dX5_pipe_25 (by decide) ?_
        refine g_istore dX5_pipe_26 (by decide) rfl ?_
        refine g_iload_n dX5_pipe_28 rfl ?_
        refine g_iload_n dX5_pipe_29 rfl ?_
        refine g_icmp_eq 48 dX5_pipe_30 (by decide) (fun c_30 => ?_) (fun c_30 => ?_)
        · skip
          refine g_iconst (v := 0) dX5_pipe_48 (by decide) ?_
          refine g_istore dX5_pipe_49 (by decide) rfl ?_
          refine g_aload_n dX5_pipe_51 rfl ?_
          refine g_iload dX5_pipe_52 rfl ?_
          refine g_if_ne 61 dX5_pipe_54 (by decide) (fun z => absurd z (by decide)) (fun _ => ?_)
          refine g_iconst (v := 1) dX5_pipe_57 (by decide) ?_
          refine g_goto 92 dX5_pipe_58 (by decide) ?_
          exact absurd (hk.symm.trans (show sp_mpf Γ ft t lim = 1 from by unfold sp_mpf; (try (first | rw [if_pos c_2] | rw [if_neg c_2])); (try (first | rw [if_pos c_10] | rw [if_neg c_10])); (try (first | rw [if_pos c_18] | rw [if_neg c_18])); (try (first | rw [if_pos c_30] | rw [if_neg c_30])))) (by decide)
        · skip
          refine g_iload_n dX5_pipe_33 rfl ?_
          refine g_iconst (v := 1) dX5_pipe_34 (by decide) ?_
          refine g_sipush (v := 999) dX5_pipe_35 (by decide) ?_
          refine g_callS [_, _, _] dX5_pipe_38 mc_X5_96 ms_X5_isIn (c_X5_isIn hlt _ _ _) rfl (Nat.le_of_ble_eq_true rfl) (am_rm hR (by decide)) (fun _ _ z => z) (fun v hx hq hE => ?_)
          obtain ⟨rfl, rfl⟩ := hq
          refine g_if_eq 48 dX5_pipe_41 (by decide) (fun c_41 => ?_) (fun c_41 => ?_)
          · skip
            refine g_iconst (v := 0) dX5_pipe_48 (by decide) ?_
            refine g_istore dX5_pipe_49 (by decide) rfl ?_
            refine g_aload_n dX5_pipe_51 rfl ?_
            refine g_iload dX5_pipe_52 rfl ?_
            refine g_if_ne 61 dX5_pipe_54 (by decide) (fun z => absurd z (by decide)) (fun _ => ?_)
            refine g_iconst (v := 1) dX5_pipe_57 (by decide) ?_
            refine g_goto 92 dX5_pipe_58 (by decide) ?_
            exact absurd (hk.symm.trans (show sp_mpf Γ ft t lim = 1 from by unfold sp_mpf; (try (first | rw [if_pos c_2] | rw [if_neg c_2])); (try (first | rw [if_pos c_10] | rw [if_neg c_10])); (try (first | rw [if_pos c_18] | rw [if_neg c_18])); (try (first | rw [if_pos c_30] | rw [if_neg c_30])); (try (first | rw [if_pos c_41] | rw [if_neg c_41])))) (by decide)
          · skip
            refine g_iconst (v := 1) dX5_pipe_44 (by decide) ?_
            refine g_goto 49 dX5_pipe_45 (by decide) ?_
            refine g_istore dX5_pipe_49 (by decide) rfl ?_
            refine g_aload_n dX5_pipe_51 rfl ?_
            refine g_iload dX5_pipe_52 rfl ?_
            refine g_if_ne 61 dX5_pipe_54 (by decide) (fun z => absurd z (by decide)) (fun _ => ?_)
            refine g_iconst (v := 1) dX5_pipe_57 (by decide) ?_
            refine g_goto 92 dX5_pipe_58 (by decide) ?_
            exact absurd (hk.symm.trans (show sp_mpf Γ ft t lim = 1 from by unfold sp_mpf; (try (first | rw [if_pos c_2] | rw [if_neg c_2])); (try (first | rw [if_pos c_10] | rw [if_neg c_10])); (try (first | rw [if_pos c_18] | rw [if_neg c_18])); (try (first | rw [if_pos c_30] | rw [if_neg c_30])); (try (first | rw [if_pos c_41] | rw [if_neg c_41])))) (by decide)
      · skip
        refine g_iconst (v := 1) dX5_pipe_21 (by decide) ?_
        refine g_goto 26 dX5_pipe_22 (by decide) ?_
        refine g_istore dX5_pipe_26 (by decide) rfl ?_
        refine g_iload_n dX5_pipe_28 rfl ?_
        refine g_iload_n dX5_pipe_29 rfl ?_
        refine g_icmp_eq 48 dX5_pipe_30 (by decide) (fun c_30 => ?_) (fun c_30 => ?_)
        · skip
          refine g_iconst (v := 0) dX5_pipe_48 (by decide) ?_
          refine g_istore dX5_pipe_49 (by decide) rfl ?_
          refine g_aload_n dX5_pipe_51 rfl ?_
          refine g_iload dX5_pipe_52 rfl ?_
          refine g_if_ne 61 dX5_pipe_54 (by decide) (fun _ => ?_) (fun z => absurd z (by decide))
          refine g_iload dX5_pipe_61 rfl ?_
          refine g_if_ne 70 dX5_pipe_63 (by decide) (fun z => absurd z (by decide)) (fun _ => ?_)
          refine g_iconst (v := 2) dX5_pipe_66 (by decide) ?_
          refine g_goto 92 dX5_pipe_67 (by decide) ?_
          exact absurd (hk.symm.trans (show sp_mpf Γ ft t lim = 2 from by unfold sp_mpf; (try (first | rw [if_pos c_2] | rw [if_neg c_2])); (try (first | rw [if_pos c_10] | rw [if_neg c_10])); (try (first | rw [if_pos c_18] | rw [if_neg c_18])); (try (first | rw [if_pos c_30] | rw [if_neg c_30])))) (by decide)
        · skip
          refine g_iload_n dX5_pipe_33 rfl ?_
          refine g_iconst (v := 1) dX5_pipe_34 (by decide) ?_
          refine g_sipush (v := 999) dX5_pipe_35 (by decide) ?_
          refine g_callS [_, _, _] dX5_pipe_38 mc_X5_96 ms_X5_isIn (c_X5_isIn hlt _ _ _) rfl (Nat.le_of_ble_eq_true rfl) (am_rm hR (by decide)) (fun _ _ z => z) (fun v hx hq hE => ?_)
          obtain ⟨rfl, rfl⟩ := hq
          refine g_if_eq 48 dX5_pipe_41 (by decide) (fun c_41 => ?_) (fun c_41 => ?_)
          · skip
            refine g_iconst (v := 0) dX5_pipe_48 (by decide) ?_
            refine g_istore dX5_pipe_49 (by decide) rfl ?_
            refine g_aload_n dX5_pipe_51 rfl ?_
            refine g_iload dX5_pipe_52 rfl ?_
            refine g_if_ne 61 dX5_pipe_54 (by decide) (fun _ => ?_) (fun z => absurd z (by decide))
            refine g_iload dX5_pipe_61 rfl ?_
            refine g_if_ne 70 dX5_pipe_63 (by decide) (fun z => absurd z (by decide)) (fun _ => ?_)
            refine g_iconst (v := 2) dX5_pipe_66 (by decide) ?_
            refine g_goto 92 dX5_pipe_67 (by decide) ?_
            exact absurd (hk.symm.trans (show sp_mpf Γ ft t lim = 2 from by unfold sp_mpf; (try (first | rw [if_pos c_2] | rw [if_neg c_2])); (try (first | rw [if_pos c_10] | rw [if_neg c_10])); (try (first | rw [if_pos c_18] | rw [if_neg c_18])); (try (first | rw [if_pos c_30] | rw [if_neg c_30])); (try (first | rw [if_pos c_41] | rw [if_neg c_41])))) (by decide)
          · skip
            refine g_iconst (v := 1) dX5_pipe_44 (by decide) ?_
            refine g_goto 49 dX5_pipe_45 (by decide) ?_
            refine g_istore dX5_pipe_49 (by decide) rfl ?_
            refine g_aload_n dX5_pipe_51 rfl ?_
            refine g_iload dX5_pipe_52 rfl ?_
            refine g_if_ne 61 dX5_pipe_54 (by decide) (fun _ => ?_) (fun z => absurd z (by decide))
            refine g_iload dX5_pipe_61 rfl ?_
            refine g_if_ne 70 dX5_pipe_63 (by decide) (fun _ => ?_) (fun z => absurd z (by decide))
            refine g_aload_n dX5_pipe_70 rfl ?_
            refine w_getI w dX5_pipe_71 fl_X5_100 rfl rfl (by first | rfl | assumption) ?_
            refine g_bipush (v := 24) dX5_pipe_74 (by decide) ?_
            refine g_icmp_eq 87 dX5_pipe_76 (by decide) (fun c_76 => ?_) (fun c_76 => ?_)
            · skip
              refine g_iconst (v := 3) dX5_pipe_87 (by decide) ?_
              refine g_goto 92 dX5_pipe_88 (by decide) ?_
              exact absurd (hk.symm.trans (show sp_mpf Γ ft t lim = 3 from by unfold sp_mpf; (try (first | rw [if_pos c_2] | rw [if_neg c_2])); (try (first | rw [if_pos c_10] | rw [if_neg c_10])); (try (first | rw [if_pos c_18] | rw [if_neg c_18])); (try (first | rw [if_pos c_30] | rw [if_neg c_30])); (try (first | rw [if_pos c_41] | rw [if_neg c_41])); (try (first | rw [if_pos c_76] | rw [if_neg c_76])))) (by decide)
            · skip
              refine g_aload_n dX5_pipe_79 rfl ?_
              refine w_getI w dX5_pipe_80 fl_X5_110 rfl rfl (by first | rfl | assumption) ?_
              refine g_iconst (v := (-1)) dX5_pipe_83 (by decide) ?_
              refine g_icmp_ne 91 dX5_pipe_84 (by decide) (fun c_84 => ?_) (fun c_84 => ?_)
              · skip
                refine g_iconst (v := 0) dX5_pipe_91 (by decide) ?_
                refine g_callV [_] dX5_pipe_92 mc_X5_103 mi_X5_can se_X5_can (c_X5_can_0 hlt w) (w.k (by first | rfl | assumption)) rfl rfl (Nat.le_of_ble_eq_true rfl) (am_rm hR (by decide)) (fun _ _ z => z) (fun v hx hq hE => ?_)
                obtain ⟨rfl, w6⟩ := hq
                obtain ⟨Γ1, hG⟩ : ∃ G, G = u3 Γ 11 0 34 0 := ⟨_, rfl⟩
                rw [← hG] at w6
                have en1 : Γ1 11 0 3 = Γ 11 0 3 := by rw [hG]; rfl
                have ep1 : Γ1 11 0 24 = Γ 11 0 24 := by rw [hG]; rfl
                refine g_if_ne 100 dX5_pipe_95 (by decide) (fun _ => ?_) (fun z => absurd z (by decide))
                subst hG
                refine g_aload_n dX5_pipe_100 rfl ?_
                refine w_getR w6 dX5_pipe_101 fl_X5_65 rfl rfl (by first | rfl | assumption) rfl ?_
                refine g_aload_n dX5_pipe_104 rfl ?_
                refine w_getI w6 dX5_pipe_105 fl_X5_100 rfl rfl (by first | rfl | assumption) ?_
                rw [show (u3 Γ 11 0 34 0) 11 0 24 = nI q from ep]
                refine g_iload_n dX5_pipe_108 rfl ?_
                refine g_iconst (v := (-1)) dX5_pipe_109 (by decide) ?_
                refine g_icmp_ne 118 dX5_pipe_110 (by decide) (fun c_110 => ?_) (fun z => absurd z c_2)
                refine g_iload_n dX5_pipe_118 rfl ?_
                refine w_ast w6 dX5_pipe_119 (by decide) (by first | rfl | assumption) (by first | assumption | omega | (show _ < 8; omega) | (show _ < 24; omega) | (show _ < 9; omega)) (fun h7 w7 => ?_)
                refine g_aload_n dX5_pipe_120 rfl ?_
                refine w_getR w7 dX5_pipe_121 fl_X5_68 rfl rfl (by first | rfl | assumption) rfl ?_
                refine g_aload_n dX5_pipe_124 rfl ?_
                refine w_getI w7 dX5_pipe_125 fl_X5_100 rfl rfl (by first | rfl | assumption) ?_
                rw [show (u3 (u3 Γ 11 0 34 0) 12 25 q _) 11 0 24 = nI q from ep]
                refine g_iload_n dX5_pipe_128 rfl ?_
                refine w_ast w7 dX5_pipe_129 (by decide) (by first | rfl | assumption) (by first | assumption | omega | (show _ < 8; omega) | (show _ < 24; omega) | (show _ < 9; omega)) (fun h8 w8 => ?_)
                refine g_aload_n dX5_pipe_130 rfl ?_
                refine w_getR w8 dX5_pipe_131 fl_X5_71 rfl rfl (by first | rfl | assumption) rfl ?_
                refine g_aload_n dX5_pipe_134 rfl ?_
                refine w_getI w8 dX5_pipe_135 fl_X5_100 rfl rfl (by first | rfl | assumption) ?_
                rw [show (u3 (u3 (u3 Γ 11 0 34 0) 12 25 q _) 12 26 q t) 11 0 24 = nI q from ep]
                refine g_iload_n dX5_pipe_138 rfl ?_
                refine w_ast w8 dX5_pipe_139 (by decide) (by first | rfl | assumption) (by first | assumption | omega | (show _ < 8; omega) | (show _ < 24; omega) | (show _ < 9; omega)) (fun h9 w9 => ?_)
                refine g_aload_n dX5_pipe_140 rfl ?_
                refine g_dup dX5_pipe_141 rfl ?_
                refine w_getI w9 dX5_pipe_142 fl_X5_100 rfl rfl (by first | rfl | assumption) ?_
                refine g_iconst (v := 1) dX5_pipe_145 (by decide) ?_
                rw [show (u3 (u3 (u3 (u3 Γ 11 0 34 0) 12 25 q _) 12 26 q t) 12 27 q lim) 11 0 24 = nI q from ep]
                refine g_iadd dX5_pipe_146 ?_
                rw [nI_1]
                refine w_putI w9 dX5_pipe_147 fl_X5_100 rfl rfl (by decide) (fun q hq => by cases hq; rfl) (by first | rfl | assumption) rfl rfl (fun h10 w10 => ?_)
                refine g_aload_n dX5_pipe_150 rfl ?_
                refine w_getI w10 dX5_pipe_151 fl_X5_100 rfl rfl (by first | rfl | assumption) ?_
                refine g_iconst (v := 1) dX5_pipe_154 (by decide) ?_
                refine g_isub dX5_pipe_155 ?_
                rw [u3_s, nI_pred]
                rw [hQ]
                refine g_iret dX5_pipe_156 rfl rfl (by decide) (by decide) ?_
                rw [show (if ft = -1 then (8 : Int32) else ft) = ft from if_neg c_2]
                exact ⟨rfl, w10⟩
              · skip
                refine g_iconst (v := 3) dX5_pipe_87 (by decide) ?_
                refine g_goto 92 dX5_pipe_88 (by decide) ?_
                exact absurd (hk.symm.trans (show sp_mpf Γ ft t lim = 3 from by unfold sp_mpf; (try (first | rw [if_pos c_2] | rw [if_neg c_2])); (try (first | rw [if_pos c_10] | rw [if_neg c_10])); (try (first | rw [if_pos c_18] | rw [if_neg c_18])); (try (first | rw [if_pos c_30] | rw [if_neg c_30])); (try (first | rw [if_pos c_41] | rw [if_neg c_41])); (try (first | rw [if_pos c_76] | rw [if_neg c_76])); (try (first | rw [if_pos c_84] | rw [if_neg c_84])))) (by decide)
