/-! ===== one after the other: what each gets in turn ===== -/
def gS (od : Nat → Nat) (x : Nat → Int) : Nat → Nat → Int
  | 0 => fun _ => 0
  | i + 1 => addg (gS od x i) (od i + 1) (x i)
def SEQ (C : Nat → Nat → Int) (gv : Int) (od : Nat → Nat) (cap x : Nat → Int) (k : Nat) : Prop := ∀ i, i < k → Amt C (gS od x i) (od i + 1) (min (cap i) (gv - zs x i)) (x i)
theorem gS_congr {od : Nat → Nat} {x y : Nat → Int} : ∀ k, (∀ i, i < k → x i = y i) → gS od x k = gS od y k
  | 0, _ => rfl
  | k + 1, h => by
    show addg (gS od x k) (od k + 1) (x k) = addg (gS od y k) (od k + 1) (y k)
    rw [gS_congr k (fun i hi => h i (by omega)), h k (by omega)]
theorem SEQ.uniq {C : Nat → Nat → Int} {gv : Int} {od : Nat → Nat} {cap x y : Nat → Int} : ∀ k, SEQ C gv od cap x k → SEQ C gv od cap y k → ∀ i, i < k → x i = y i
  | 0, _, _, i, hi => absurd hi (Nat.not_lt_zero _)
  | k + 1, hx, hy, i, hi => by
    have ih := SEQ.uniq k (fun i hi => hx i (by omega)) (fun i hi => hy i (by omega))
    by_cases c : i = k
    · subst c
      have h1 := hx i (by omega)
      have h2 := hy i (by omega)
      rw [gS_congr i ih, zs_congr i ih] at h1
      exact Amt.uniq h1 h2
    · exact ih i (by omega)
theorem SEQ.snoc {C : Nat → Nat → Int} {gv : Int} {od : Nat → Nat} {cap x : Nat → Int} {k : Nat} {a : Int} (h : SEQ C gv od cap x k) (ha : Amt C (gS od x k) (od k + 1) (min (cap k) (gv - zs x k)) a) : SEQ C gv od cap (fun i => if i = k then a else x i) (k + 1) := by
  intro i hi
  have e : ∀ m, m ≤ k → ∀ i, i < m → (fun i => if i = k then a else x i) i = x i := fun m hm i hi => if_neg (by omega)
  rw [gS_congr i (e i (by omega)), zs_congr i (e i (by omega))]
  by_cases c : i = k
  · subst c
    show Amt C (gS od x i) (od i + 1) (min (cap i) (gv - zs x i)) (if i = i then a else x i)
    rw [if_pos rfl]
    exact ha
  · show Amt C (gS od x i) (od i + 1) (min (cap i) (gv - zs x i)) (if i = k then a else x i)
    rw [if_neg c]
    exact h i (by omega)
theorem SEQ.gS_snoc {od : Nat → Nat} {x : Nat → Int} {k : Nat} {a : Int} : gS od (fun i => if i = k then a else x i) (k + 1) = addg (gS od x k) (od k + 1) a := by
  show addg (gS od (fun i => if i = k then a else x i) k) (od k + 1) (if k = k then a else x k) = _
  rw [gS_congr k (fun i hi => show (if i = k then a else x i) = x i from if_neg (by omega)), if_pos rfl]
theorem SEQ.zs_snoc {x : Nat → Int} {k : Nat} {a : Int} : zs (fun i => if i = k then a else x i) (k + 1) = zs x k + a := by
  show zs (fun i => if i = k then a else x i) k + (if k = k then a else x k) = _
  rw [zs_congr k (fun i hi => show (if i = k then a else x i) = x i from if_neg (by omega)), if_pos rfl]
theorem SEQ.congr {C : Nat → Nat → Int} {gv : Int} {od od' : Nat → Nat} {cap cap' x : Nat → Int} {k : Nat} (h : SEQ C gv od cap x k) (e1 : ∀ i, i < k → od' i = od i) (e2 : ∀ i, i < k → cap' i = cap i) : SEQ C gv od' cap' x k := by
  have eg : ∀ m, m ≤ k → gS od' x m = gS od x m := fun m => by
    induction m with
    | zero => intro _; rfl
    | succ m ih =>
      intro hm
      show addg (gS od' x m) (od' m + 1) (x m) = addg (gS od x m) (od m + 1) (x m)
      rw [ih (by omega), e1 m (by omega)]
  intro i hi
  rw [eg i (by omega), e1 i hi, e2 i hi]
  exact h i hi
theorem SEQ.pos {C : Nat → Nat → Int} {gv : Int} {od : Nat → Nat} {cap x : Nat → Int} (hg : 0 ≤ gv) : ∀ k, SEQ C gv od cap x k → (∀ i, i < k → 0 ≤ x i ∧ x i ≤ cap i) ∧ 0 ≤ zs x k ∧ zs x k ≤ gv
  | 0, _ => ⟨fun i hi => absurd hi (Nat.not_lt_zero _), Int.le_refl _, hg⟩
  | k + 1, h => by
    obtain ⟨h1, h2, h3⟩ := SEQ.pos hg k (fun i hi => h i (by omega))
    have h4 := h k (by omega)
    have h5 := h4.1
    have h6 := h4.2.1
    refine ⟨fun i hi => ?_, ?_, ?_⟩
    · by_cases c : i = k
      · subst c
        omega
      · exact h1 i (by omega)
    · rw [zs]; omega
    · rw [zs]; omega
/-! the model's rows in places -/
theorem sp_sum_congr {f g : Nat → Int32} : ∀ b, (∀ j, j < b → f j = g j) → sp_sum f b = sp_sum g b
  | 0, _ => rfl
  | b + 1, h => by
    show sp_sum f b + f b = sp_sum g b + g b
    rw [sp_sum_congr b (fun j hj => h j (by omega)), h b (by omega)]
theorem sp_ma_congr {Γ G : Nat → Nat → Nat → Int32} (e7 : ∀ j, G 12 7 j = Γ 12 7 j) (e9 : ∀ j, G 12 9 j = Γ 12 9 j) (i j : Nat) : sp_ma G i j = sp_ma Γ i j := by
  unfold sp_ma
  rw [e7, e7, e9, e9]
theorem sp_place_congr {Γ G : Nat → Nat → Nat → Int32} (e10 : ∀ j, G 13 10 j = Γ 13 10 j) (e7 : ∀ j, G 12 7 j = Γ 12 7 j) (e9 : ∀ j, G 12 9 j = Γ 12 9 j) (b i : Nat) : sp_place G b i = sp_place Γ b i := by
  unfold sp_place
  refine sp_sum_congr b fun j _ => ?_
  rw [e10, sp_ma_congr e7 e9]
theorem sp_at_congr {Γ G : Nat → Nat → Nat → Int32} (e10 : ∀ j, G 13 10 j = Γ 13 10 j) (e7 : ∀ j, G 12 7 j = Γ 12 7 j) (e9 : ∀ j, G 12 9 j = Γ 12 9 j) (b : Nat) (pl : Int32) : ∀ j, sp_at G b pl j = sp_at Γ b pl j
  | 0 => rfl
  | j + 1 => by
    unfold sp_at
    rw [e10, sp_place_congr e10 e7 e9, sp_at_congr e10 e7 e9 b pl j]
/-- what settling wants: od the districts in the order of their places -/
def SJ (Γ : Nat → Nat → Nat → Int32) (b q : Nat) (A B : Nat → Nat) (od : Nat → Nat) (len : Nat) : Prop :=
  len ≤ 8 ∧ sp_sum (fun j => if Γ 13 10 j = 0 then 0 else 1) b = nI len ∧ (∀ i, i < len → sp_at Γ b (nI i) b = nI (od i) ∧ od i < 8) ∧ (∀ i k, i < len → k < len → od i = od k → i = k) ∧ pJ q A B Γ ∧ (∀ j, j < q → 0 ≤ KG Γ j ∧ KG Γ j ≤ 999) ∧ 0 ≤ (Γ 11 0 2).toInt ∧ (Γ 11 0 2).toInt ≤ 9999
/-- Γ and G are alike in what settling looks at -/
def frJ (Γ G : Nat → Nat → Nat → Int32) : Prop := ∀ c i j, (c = 13 ∧ (i = 10 ∨ i = 28)) ∨ (c = 12 ∧ (i = 7 ∨ i = 9 ∨ i = 25 ∨ i = 26 ∨ i = 27)) ∨ (c = 11 ∧ j = 2) → G c i j = Γ c i j
theorem frJ.kg {Γ G : Nat → Nat → Nat → Int32} (h : frJ Γ G) : KG G = KG Γ := by
  funext j
  unfold KG
  rw [h 13 28 j (by omega), h 12 27 j (by omega)]
theorem SJ.congr {Γ G : Nat → Nat → Nat → Int32} {b q : Nat} {A B od : Nat → Nat} {len : Nat} (h : SJ Γ b q A B od len) (e : frJ Γ G) : SJ G b q A B od len := by
  obtain ⟨h1, h2, h3, h4, h5, h6, h7, h8⟩ := h
  refine ⟨h1, ?_, fun i hi => ?_, h4, h5.fr (fun j => e 12 25 j (by omega)) (fun j => e 12 26 j (by omega)), fun j hj => ?_, ?_, ?_⟩
  · rw [← h2]
    exact sp_sum_congr b fun j _ => by rw [e 13 10 j (by omega)]
  · rw [sp_at_congr (fun j => e 13 10 j (by omega)) (fun j => e 12 7 j (by omega)) (fun j => e 12 9 j (by omega))]
    exact h3 i hi
  · rw [e.kg]
    exact h6 j hj
  · rw [e 11 0 2 (by omega)]; exact h7
  · rw [e 11 0 2 (by omega)]; exact h8
def frS (Γ G : Nat → Nat → Nat → Int32) (od : Nat → Nat) (len : Nat) : Prop := ∀ c i j, ¬ (c = 12 ∧ (i = 29 ∨ i = 31 ∨ i = 32)) → ¬ (c = 11 ∧ j = 30) → (c = 12 → i = 17 → ∀ k, k < len → j ≠ od k) → G c i j = Γ c i j
theorem frS.J {Γ G : Nat → Nat → Nat → Int32} {od : Nat → Nat} {len : Nat} (h : frS Γ G od len) : frJ Γ G := fun c i j z => h c i j (by omega) (by omega) (by omega)
/-- what settling leaves -/
def STL (Γ G : Nat → Nat → Nat → Int32) (q : Nat) (A B : Nat → Nat) (od : Nat → Nat) (len : Nat) (x : Nat → Int) : Prop :=
  frS Γ G od len ∧ (∀ i, i < len → (G 12 17 (od i)).toInt = x i) ∧ SEQ (CM q (nuf A) (nuf B) (KG Γ)) (Γ 11 0 2).toInt od (fun i => (Γ 12 33 (od i)).toInt) x len
theorem sp_dry_z (Γ : Nat → Nat → Nat → Int32) : ∀ m j, j < m → (sp_it (fun k Γ => u3 Γ 12 29 k 0) m Γ) 12 29 j = 0
  | 0, j, h => absurd h (Nat.not_lt_zero _)
  | m + 1, j, h => by
    show u3 (sp_it (fun k Γ => u3 Γ 12 29 k 0) m Γ) 12 29 m 0 12 29 j = 0
    rw [u3_ap]
    by_cases c : j = m
    · rw [if_pos ⟨rfl, rfl, c⟩]
    · rw [if_neg (fun z => c z.2.2)]
      exact sp_dry_z Γ m j (by omega)
theorem sp_dry_fr (q : Nat) (Γ : Nat → Nat → Nat → Int32) {c i j : Nat} (h1 : ¬ (c = 12 ∧ i = 29)) (h2 : ¬ (c = 11 ∧ j = 30)) : sp_dry q Γ c i j = Γ c i j := by
  unfold sp_dry
  rw [sp_it_pres (fun k Γ => by rw [u3_ap, if_neg (fun z => h1 ⟨z.1, z.2.1⟩)]), u3_ap, if_neg (fun z => h2 ⟨z.1, z.2.2⟩)]
theorem sp_dry_FG {q : Nat} {Γ : Nat → Nat → Nat → Int32} {j : Nat} (hj : j < q) : FG (sp_dry q Γ) j = 0 := by
  unfold FG sp_dry
  rw [sp_dry_z _ q j hj]
  exact tI_0
theorem sp_dry_given (q : Nat) (Γ : Nat → Nat → Nat → Int32) : (sp_dry q Γ) 11 0 30 = 0 := by
  unfold sp_dry
  rw [sp_it_pres (fun k Γ => by rw [u3_ap, if_neg (fun z => absurd z.1 (by decide))])]
  exact u3_s
theorem sp_dry_frJ (q : Nat) (Γ : Nat → Nat → Nat → Int32) : frJ Γ (sp_dry q Γ) := fun c i j z => sp_dry_fr q Γ (by omega) (by omega)
theorem sp_dry_cap {q : Nat} {Γ : Nat → Nat → Nat → Int32} (h : ∀ j, j < q → 0 ≤ KG Γ j ∧ KG Γ j ≤ 999) : capJ q (sp_dry q Γ) := fun j hj => by
  rw [sp_dry_FG hj, (sp_dry_frJ q Γ).kg]
  exact ⟨Int.le_refl _, h j hj⟩
theorem sp_dry_in {q : Nat} {Γ : Nat → Nat → Nat → Int32} {A B : Nat → Nat} (v : Nat) : inflow (NM q A B (FG (sp_dry q Γ))) v = 0 := by
  unfold inflow
  refine (zs_congr 9 fun u _ => ?_).trans (zs_0 9)
  refine (zs_congr q fun j hj => ?_).trans (zs_0 q)
  rw [sp_dry_FG hj]
  split <;> split <;> rfl
set_option maxRecDepth 100000 in
set_option maxHeartbeats 4000000 in
theorem c_X5_settles {l : Launch} (hlt : l.stackTraces = false) {N n p : Nat} {ord : List Nat} {L : Nat → Nat → Nat} {Γ : Nat → Nat → Nat → Int32} {o : Int64} {h : am_H} (w : WI N n p ord L Γ o h) {b : Nat} (hb : b ≤ 8) (en : Γ 11 0 3 = nI b) {q : Nat} (hq : q ≤ 24) (ep : Γ 11 0 24 = nI q) {A B od : Nat → Nat} {len : Nat} (hs : SJ Γ b q A B od len) (hmo : ∀ i, i < len → 0 ≤ (Γ 12 33 (od i)).toInt ∧ (Γ 12 33 (od i)).toInt ≤ 9999) : am_Con l yX5_settles (.code yX5_settles cX5_settles 4 none) 4 0 0 [.ref (L 11 0)] h (fun v h' => ∃ (x : Nat → Int) (G : Nat → Nat → Nat → Int32), v = none ∧ WI N n p ord L G o h' ∧ STL Γ G q A B od len x) (fun _ _ => False) := by
  refine am_body hlt (by decide +kernel) (Nat.le_of_ble_eq_true rfl) (fun k hl hR h0 hno => ?_)
  subst hl
  obtain ⟨Qf, hQ⟩ : ∃ Qf, Qf = am_Q k 0 0 (fun v h' => ∃ (x : Nat → Int) (G : Nat → Nat → Nat → Int32), v = none ∧ WI N n p ord L G o h' ∧ STL Γ G q A B od len x) (fun _ _ => False) := ⟨_, rfl⟩
  rw [← hQ]
  have hm : wdm n p 11 0 = true := rfl
  obtain ⟨s1, s2, s3, s4, s5, s6, s7, s8⟩ := id hs
  refine g_aload_n dX5_settles_0 rfl ?_
  refine g_callV [] dX5_settles_1 mc_X5_141 mi_X5_dries se_X5_dries (c_X5_dries hlt w hq ep) (w.k (by first | rfl | assumption)) rfl rfl (Nat.le_of_ble_eq_true rfl) (am_rm hR (by decide)) (fun _ _ z => z) (fun v hx hq hE => ?_)
  obtain ⟨rfl, w1⟩ := hq
  have dJ := sp_dry_frJ q Γ
  have dF := fun (c i j : Nat) (h1 : ¬ (c = 12 ∧ i = 29)) (h2 : ¬ (c = 11 ∧ j = 30)) => sp_dry_fr q Γ (c := c) (i := i) (j := j) h1 h2
  refine g_aload_n dX5_settles_4 rfl ?_
  refine g_callV [] dX5_settles_5 mc_X5_144 mi_X5_standing se_X5_standing (c_X5_standing hlt w1 hb ((dF 11 0 3 (by omega) (by omega)).trans en)) (w1.k (by first | rfl | assumption)) rfl rfl (Nat.le_of_ble_eq_true rfl) (am_rm hR (by decide)) (fun _ _ z => z) (fun v hx hq hE => ?_)
  obtain ⟨rfl, rfl⟩ := hq
  rw [show sp_sum (fun j => if (sp_dry q Γ) 13 10 j = 0 then (0 : Int32) else 1) b = nI len from (hs.congr dJ).2.1]
  refine g_istore_n dX5_settles_8 (by decide) rfl ?_
  refine g_iconst (v := 0) dX5_settles_9 (by decide) ?_
  refine g_istore_n dX5_settles_10 (by decide) rfl ?_
  have lp_11 : ∀ (f : Nat) (a : Nat) (xs : Nat → Int) (G : Nat → Nat → Nat → Int32) (h' : am_H), a ≤ len → len - a < f → WI N n p ord L G o h' → frS Γ G od a → (G 11 0 30).toInt = zs xs a → capJ q G → (∀ v, 0 < v → v < 9 → inflow (NM q (nuf A) (nuf B) (FG G)) v = gS od xs a v) → (∀ i, i < a → (G 12 17 (od i)).toInt = xs i) → SEQ (CM q (nuf A) (nuf B) (KG Γ)) (Γ 11 0 2).toInt od (fun i => (Γ 12 33 (od i)).toInt) xs a → am_G k RX5 yX5_settles.name cX5_settles 4 none 0 0 Qf 11 [(2, .int (nI a)), (1, .int (nI len)), (0, .ref (L 11 0))] [] h' := by
    intro f
    induction f with
    | zero => intro a xs G h' ha hf w' hfr hgi hcp hin hgt hsq; omega
    | succ f ih =>
      intro a xs G h' ha hf w' hfr hgi hcp hin hgt hsq
      have hsp := SEQ.pos s7 a hsq
      refine g_iload_n dX5_settles_11 rfl ?_
      refine g_iload_n dX5_settles_12 rfl ?_
      refine gN_ge 45 dX5_settles_13 (by decide) (by omega) (by omega) (fun c_13 => ?_) (fun c_13 => ?_)
      · skip
        rw [hQ]
        refine g_vret dX5_settles_45 rfl (by decide) (by decide) ?_
        have ea : a = len := by omega
        subst ea
        exact ⟨xs, G, rfl, w', hfr, hgt, hsq⟩
      · skip
        refine g_aload_n dX5_settles_16 rfl ?_
        refine g_iload_n dX5_settles_17 rfl ?_
        refine g_callV [_] dX5_settles_18 mc_X5_148 mi_X5_at se_X5_at (c_X5_at hlt w' hb ((hfr 11 0 3 (by omega) (by omega) (by omega)).trans en) (nI a)) (w'.k (by first | rfl | assumption)) rfl rfl (Nat.le_of_ble_eq_true rfl) (am_rm hR (by decide)) (fun _ _ z => z) (fun v hx hq hE => ?_)
        obtain ⟨rfl, rfl⟩ := hq
        rw [show sp_at G b (nI a) b = nI (od a) from ((hs.congr hfr.J).2.2.1 a c_13).1]
        have hod := (s3 a c_13).2
        refine g_istore_n dX5_settles_21 (by decide) rfl ?_
        refine g_aload_n dX5_settles_22 rfl ?_
        refine w_getR w' dX5_settles_23 fl_X5_47 rfl rfl (by first | rfl | assumption) rfl ?_
        refine g_iload_n dX5_settles_26 rfl ?_
        refine g_aload_n dX5_settles_27 rfl ?_
        refine g_iload_n dX5_settles_28 rfl ?_
        refine g_aload_n dX5_settles_29 rfl ?_
        refine w_getR w' dX5_settles_30 fl_X5_86 rfl rfl (by first | rfl | assumption) rfl ?_
        refine g_iload_n dX5_settles_33 rfl ?_
        refine w_ald w' dX5_settles_34 (by decide) (by first | rfl | assumption) (by first | assumption | omega | (show _ < 8; omega) | (show _ < 24; omega) | (show _ < 9; omega)) ?_
        refine g_callV [_, _] dX5_settles_35 mc_X5_151 mi_X5_flows se_X5_flows (c_X5_flows hlt w' hq ((hfr 11 0 24 (by omega) (by omega) (by omega)).trans ep) (hs.congr hfr.J).2.2.2.2.1 hcp hin hod (by rw [hfr 12 33 _ (by omega) (by omega) (by omega)]; exact (hmo a c_13).1) (by rw [hfr 12 33 _ (by omega) (by omega) (by omega)]; exact (hmo a c_13).2) (by omega) (by rw [hfr 11 0 2 (by omega) (by omega) (by omega)]; omega) (by rw [hfr 11 0 2 (by omega) (by omega) (by omega)]; omega)) (w'.k (by first | rfl | assumption)) rfl rfl (Nat.le_of_ble_eq_true rfl) (am_rm hR (by decide)) (fun _ _ z => z) (fun v hx hq hE => ?_)
        obtain ⟨xa, G1, rfl, w22, hfr1, hcp1, hgi1, hin1, hamt⟩ := hq
        refine w_ast w22 dX5_settles_38 (by decide) (by first | rfl | assumption) (by first | assumption | omega | (show _ < 8; omega) | (show _ < 24; omega) | (show _ < 9; omega)) (fun h23 w23 => ?_)
        refine g_iinc dX5_settles_39 rfl (nI_i1 _) (by decide) rfl ?_
        refine g_goto 11 dX5_settles_42 (by decide) ?_
        have hkg := (frS.J hfr).kg
        have hfrG : ∀ c i j, ¬ (c = 12 ∧ (i = 29 ∨ i = 31 ∨ i = 32)) → ¬ (c = 11 ∧ j = 30) → ¬ (c = 12 ∧ i = 17 ∧ j = od a) → (u3 G1 12 17 (od a) xa) c i j = G c i j := fun c i j z1 z2 z3 => by
          rw [u3_n z3]
          exact hfr1 c i j z1 z2
        have eK1 : KG (u3 G1 12 17 (od a) xa) = KG G1 := by
          funext j
          unfold KG
          rw [u3_n (by omega), u3_n (by omega)]
        have eF1 : FG (u3 G1 12 17 (od a) xa) = FG G1 := by
          funext j
          unfold FG
          rw [u3_n (by omega)]
        rw [hkg, hfr 12 33 _ (by omega) (by omega) (by omega), hfr 11 0 2 (by omega) (by omega) (by omega), hgi] at hamt
        refine g_ls [(2, .int (nI (a + 1))), (1, .int (nI len)), (0, .ref (L 11 0))] ⟨rfl, rfl, rfl, trivial⟩ ?_
        refine ih (a + 1) (fun i => if i = a then xa.toInt else xs i) _ _ (by omega) (by omega) w23 (fun c i j z1 z2 z3 => ?_) ?_ ?_ (fun v y1 y2 => ?_) (fun i hi => ?_) (SEQ.snoc hsq hamt)
        · rw [hfrG c i j z1 z2 (fun z => z3 z.1 z.2.1 a (by omega) z.2.2)]
          exact hfr c i j z1 z2 (fun y1 y2 k hk => z3 y1 y2 k (by omega))
        · rw [SEQ.zs_snoc, u3_n (by omega), hgi1, hgi]
        · unfold capJ
          rw [eK1, eF1]
          exact hcp1
        · rw [SEQ.gS_snoc, eF1]
          exact hin1 v y1 y2
        · show _ = (if i = a then xa.toInt else xs i)
          by_cases c : i = a
          · rw [if_pos c, c, u3_s]
          · rw [if_neg c, u3_n (fun z => c (s4 i a (by omega) (by omega) z.2.2)), hfr1 12 17 _ (by omega) (by omega)]
            exact hgt i (by omega)
  refine g_ls [(2, .int (nI 0)), (1, .int (nI len)), (0, .ref (L 11 0))] ⟨rfl, rfl, rfl, trivial⟩ ?_
  exact lp_11 (len + 1) 0 (fun _ => 0) _ _ (by omega) (by omega) w1 (fun c i j z1 z2 _ => dF c i j (by omega) z2) (by rw [sp_dry_given]; exact tI_0) (sp_dry_cap s6) (fun v _ _ => sp_dry_in v) (fun i hi => absurd hi (Nat.not_lt_zero _)) (fun i hi => absurd hi (Nat.not_lt_zero _))
