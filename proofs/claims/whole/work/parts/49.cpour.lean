/-- room is what C leaves over N; N brings g -/
def RJ (C N : Nat → Nat → Int) (g : Nat → Int) (G : Nat → Nat → Nat → Int32) : Prop := anti N ∧ rmJ (fun a b => C a b - N a b) G ∧ (∀ a b, a < 9 → b < 9 → N a b ≤ C a b) ∧ (∀ v, 0 < v → v < 9 → inflow N v = g v)
theorem RJ.feas {C N : Nat → Nat → Int} {g : Nat → Int} {G : Nat → Nat → Nat → Int32} (h : RJ C N g G) : Feas C N g := ⟨h.1, h.2.2.1, h.2.2.2⟩
theorem RJ.congr {C N : Nat → Nat → Int} {g : Nat → Int} {G G' : Nat → Nat → Nat → Int32} (h : RJ C N g G) (e : ∀ a b, G' 9 a b = G 9 a b) : RJ C N g G' := ⟨h.1, fun a b ha hb => by rw [e]; exact h.2.1 a b ha hb, h.2.2.1, h.2.2.2⟩
theorem bR.ch {units : Int} {R : Nat → Nat → Int} {G : Nat → Nat → Nat → Int32} {r : Nat → Nat} {m : Nat} (h : bR units R G r m) : ∃ pf : Nat → Nat, ∀ i, 0 < i → i < m → pf i < i ∧ G 10 1 (r i) = nI (r (pf i)) ∧ (G 10 0 (r i)).toInt ≤ (G 10 0 (r (pf i))).toInt ∧ (G 10 0 (r i)).toInt ≤ R (r (pf i)) (r i) := by
  have h6 := h.2.2.2.2.2.1
  have ⟨f, hf⟩ := Classical.axiomOfChoice (r := fun (i i' : Nat) => 0 < i → i < m → i' < i ∧ G 10 1 (r i) = nI (r i') ∧ (G 10 0 (r i)).toInt ≤ (G 10 0 (r i')).toInt ∧ (G 10 0 (r i)).toInt ≤ R (r i') (r i)) (fun i => by
    by_cases c : 0 < i ∧ i < m
    · obtain ⟨i', q1, q2, -, q4, q5⟩ := h6 i c.1 c.2
      exact ⟨i', fun _ _ => ⟨q1, q2, q4, q5⟩⟩
    · exact ⟨0, fun a b => absurd ⟨a, b⟩ c⟩)
  exact ⟨f, hf⟩
/-- a closed search of the class makes a full cut -/
theorem cutR {C N : Nat → Nat → Int} {units : Int} {G : Nat → Nat → Nat → Int32} {r : Nat → Nat} {m t : Nat} (hle : ∀ a b, a < 9 → b < 9 → N a b ≤ C a b) (hb : bR units (fun a b => C a b - N a b) G r m) (hu : 0 < units) (ht : t < 9) (he : G 10 0 t = 0) (hcl : ∀ i j, i < m → j < 9 → clR (fun a b => C a b - N a b) r m i j) :
    ∃ S : Nat → Bool, S 0 = true ∧ S t = false ∧ ∀ a b, a < 9 → b < 9 → S a = true → S b = false → N a b = C a b := by
  have hm := hb.le hu
  have ⟨S, hS⟩ : ∃ S : Nat → Bool, ∀ v, S v = true ↔ ∃ i, i < m ∧ r i = v := Classical.axiomOfChoice (r := fun (v : Nat) (b : Bool) => b = true ↔ ∃ i, i < m ∧ r i = v) (fun v => by
    by_cases c : ∃ i, i < m ∧ r i = v
    · exact ⟨true, fun _ => c, fun _ => rfl⟩
    · exact ⟨false, ⟨(fun z => Bool.noConfusion z), fun z => absurd z c⟩⟩)
  refine ⟨S, (hS 0).mpr ⟨0, by omega, hb.2.1⟩, ?_, fun a b ha hb' z1 z2 => ?_⟩
  · cases hs : S t with
    | false => rfl
    | true =>
      exfalso
      obtain ⟨i, hi, e⟩ := (hS _).mp hs
      have := hb.pos hu hi
      rw [e, he, tI_0] at this
      omega
  · obtain ⟨i, hi, e⟩ := (hS _).mp z1
    have h1 := hle a b ha hb'
    have h2 : ¬ 0 < C a b - N a b := fun z => by
      obtain ⟨i2, x1, x2⟩ := hcl i b hi hb' (by show 0 < C (r i) b - N (r i) b; rw [e]; exact z)
      rw [(hS b).mpr ⟨i2, x1, x2⟩] at z2
      cases z2
    omega
theorem zs_one {f : Nat → Int} {x : Int} {a : Nat} (n : Nat) (h : ∀ i, i < n → i ≠ a → f i = 0) (ha : a < n) (hx : f a = x) : zs f n = x := by
  have := zs_upd (f := fun _ => (0 : Int)) (g := f) (k := a) n ha (fun i hi hne => h i hi hne)
  rw [zs_0] at this
  omega
def fr9 (Γ G : Nat → Nat → Nat → Int32) : Prop := ∀ c i j, ¬ c = 9 → G c i j = Γ c i j
set_option maxRecDepth 100000 in
set_option maxHeartbeats 4000000 in
theorem c_X2_flowOnWay {l : Launch} (hlt : l.stackTraces = false) {N n p : Nat} {ord : List Nat} {L : Nat → Nat → Nat} {Γ : Nat → Nat → Nat → Int32} {o : Int64} {h : am_H} (w : WI N n p ord L Γ o h) {C N0 : Nat → Nat → Int} {g : Nat → Int} (hRJ0 : RJ C N0 g Γ) (hC : ∀ a b, a < 9 → b < 9 → 0 ≤ C a b ∧ C a b ≤ 100000) {r : Nat → Nat} {m : Nat} (hm9 : m ≤ 9) (hr9 : ∀ i, i < m → r i < 9) (hinj : ∀ i j, i < m → j < m → r i = r j → i = j) (hr0 : r 0 = 0) {pf : Nat → Nat} (hch : ∀ i, 0 < i → i < m → pf i < i ∧ Γ 10 1 (r i) = nI (r (pf i))) {i0 : Nat} (hi0 : i0 < m) (h0i : 0 < i0) {u : Int32} (hu0 : 0 < u.toInt) (hu : u.toInt ≤ 9999) (hedge : ∀ s, (∀ y, y ≤ s → 0 < cc pf i0 y) → u.toInt ≤ C (r (pf (cc pf i0 s))) (r (cc pf i0 s)) - N0 (r (pf (cc pf i0 s))) (r (cc pf i0 s))) : am_Con l yX2_flowOnWay (.code yX2_flowOnWay cX2_flowOnWay 6 none) 2 0 0 [.ref (L 3 0), .int (nI (r i0)), .int u] h (fun v h' => ∃ (G : Nat → Nat → Nat → Int32) (N1 : Nat → Nat → Int), v = none ∧ WI N n p ord L G o h' ∧ fr9 Γ G ∧ RJ C N1 (addg g (r i0) u.toInt) G) (fun _ _ => False) := by
  refine am_body hlt (by decide +kernel) (Nat.le_of_ble_eq_true rfl) (fun k hl hR h0 hno => ?_)
  subst hl
  obtain ⟨Qf, hQ⟩ : ∃ Qf, Qf = am_Q k 0 0 (fun v h' => ∃ (G : Nat → Nat → Nat → Int32) (N1 : Nat → Nat → Int), v = none ∧ WI N n p ord L G o h' ∧ fr9 Γ G ∧ RJ C N1 (addg g (r i0) u.toInt) G) (fun _ _ => False) := ⟨_, rfl⟩
  rw [← hQ]
  have hm0 : wdm n p 3 0 = true := rfl
  refine g_iload_n dX2_flowOnWay_0 rfl ?_
  refine g_istore_n dX2_flowOnWay_1 (by decide) rfl ?_
  refine g_iconst (v := 0) dX2_flowOnWay_2 (by decide) ?_
  refine g_istore dX2_flowOnWay_3 (by decide) rfl ?_
  have lp_5 : ∀ (f : Nat) (s a : Nat) (G : Nat → Nat → Nat → Int32) (N1 : Nat → Nat → Int) (h' : am_H), cc pf i0 s + s ≤ i0 → cc pf i0 s < f → cc pf i0 s < m → a = r (cc pf i0 s) → WI N n p ord L G o h' → fr9 Γ G → (∀ y, y < s → 0 < cc pf i0 y) → RJ C N1 (fun v => (if v = r i0 then g v + u.toInt else g v) - (if v = a then u.toInt else 0)) G → (∀ s', s ≤ s' → (∀ y, y ≤ s' → 0 < cc pf i0 y) → N1 (r (pf (cc pf i0 s'))) (r (cc pf i0 s')) = N0 (r (pf (cc pf i0 s'))) (r (cc pf i0 s'))) → am_G k RX2 yX2_flowOnWay.name cX2_flowOnWay 6 none 0 0 Qf 5 [(4, .int (nI s)), (3, .int (nI a)), (1, .int (nI (r i0))), (2, .int u), (0, .ref (L 3 0))] [] h' := by
    intro f
    induction f with
    | zero => intro s a G N1 h' hs hf hsm ha w' hfr hpos hRJ hNs; omega
    | succ f ih =>
      intro s a G N1 h' hs hf hsm ha w' hfr hpos hRJ hNs
      have ha9 : a < 9 := by rw [ha]; exact hr9 _ hsm
      refine g_iload dX2_flowOnWay_5 rfl ?_
      refine g_bipush (v := nI 9) dX2_flowOnWay_7 (by decide) ?_
      refine gN_ge 74 dX2_flowOnWay_9 (by decide) (by omega) (by omega) (fun z => absurd z (by omega)) (fun c_9 => ?_)
      refine g_iload_n dX2_flowOnWay_12 rfl ?_
      refine g_callS [_] dX2_flowOnWay_13 mc_X2_57 ms_X2_isNode (c_isNode hlt (t := a) ha9) rfl (Nat.le_of_ble_eq_true rfl) (am_rm hR (by decide)) (fun _ _ z => z) (fun v hx hq hE => ?_)
      obtain ⟨rfl, rfl⟩ := hq
      refine g_if_eq 74 dX2_flowOnWay_16 (by decide) (fun z => absurd z (by decide)) (fun _ => ?_)
      refine g_iload_n dX2_flowOnWay_19 rfl ?_
      refine g_if_eq 74 dX2_flowOnWay_20 (by decide) (fun c_20 => ?_) (fun c_20 => ?_)
      · skip
        rw [hQ]
        refine g_vret dX2_flowOnWay_74 rfl (by decide) (by decide) ?_
        have hs0 : cc pf i0 s = 0 := by
          rcases Nat.eq_zero_or_pos (cc pf i0 s) with z | z
          · exact z
          · exfalso
            have z2 : a = 0 := (nI_eq (by omega) (by omega)).mp (c_20.trans nI_0.symm)
            have := hinj _ 0 hsm (by omega) (ha.symm.trans (z2.trans hr0.symm))
            omega
        have ha0 : a = 0 := by rw [ha, hs0]; exact hr0
        refine ⟨G, N1, rfl, w', hfr, hRJ.1, hRJ.2.1, hRJ.2.2.1, fun v y1 y2 => ?_⟩
        rw [hRJ.2.2.2 v y1 y2]
        unfold addg
        show (if v = r i0 then g v + u.toInt else g v) - (if v = a then u.toInt else 0) = _
        rw [if_neg (show ¬ v = a by omega)]
        omega
      · skip
        have hc0 : 0 < cc pf i0 s := by
          rcases Nat.eq_zero_or_pos (cc pf i0 s) with z | z
          · rw [z, hr0] at ha
            exact absurd (by rw [ha]; exact nI_0) c_20
          · exact z
        obtain ⟨k1, k2⟩ := hch _ hc0 hsm
        rw [← ha] at k2
        obtain ⟨e, ee⟩ : ∃ e, e = r (pf (cc pf i0 s)) := ⟨_, rfl⟩
        have he9 : e < 9 := by rw [ee]; exact hr9 _ (by omega)
        have hwe : wdm n p 9 e = true := decide_eq_true he9
        have hwa : wdm n p 9 a = true := decide_eq_true ha9
        rw [← ee] at k2
        have hea : e ≠ a := fun z => by
          have := hinj _ _ (show pf (cc pf i0 s) < m by omega) hsm (ee.symm.trans (z.trans ha))
          omega
        have hpos1 : ∀ y, y ≤ s → 0 < cc pf i0 y := fun y hy => by
          by_cases z : y = s
          · rw [z]; exact hc0
          · exact hpos y (by omega)
        have hed := hedge s hpos1
        rw [← ha, ← ee] at hed
        have hN0 := hNs s (Nat.le_refl _) hpos1
        rw [← ha, ← ee] at hN0
        obtain ⟨j1, j2, j3, j4⟩ := hRJ
        have q1 : (G 9 e a).toInt = C e a - N1 e a := j2 e a he9 ha9
        have q2 : (G 9 a e).toInt = C a e - N1 a e := j2 a e ha9 he9
        have q3 := j1 e a he9 ha9
        have q4 := hC e a he9 ha9
        have q5 := hC a e ha9 he9
        have q6 := j3 a e ha9 he9
        refine g_aload_n dX2_flowOnWay_23 rfl ?_
        refine w_getR w' dX2_flowOnWay_24 fl_X2_34 rfl rfl (by first | rfl | assumption) rfl ?_
        refine g_iload_n dX2_flowOnWay_27 rfl ?_
        refine w_ald w' dX2_flowOnWay_28 (by decide) (by first | rfl | assumption) (by first | assumption | omega | (show _ < 8; omega) | (show _ < 24; omega) | (show _ < 9; omega)) ?_
        rw [(hfr 10 1 a (by decide)).trans k2]
        refine g_istore dX2_flowOnWay_29 (by decide) rfl ?_
        refine g_iload dX2_flowOnWay_31 rfl ?_
        refine g_callS [_] dX2_flowOnWay_33 mc_X2_57 ms_X2_isNode (c_isNode hlt (t := e) he9) rfl (Nat.le_of_ble_eq_true rfl) (am_rm hR (by decide)) (fun _ _ z => z) (fun v hx hq hE => ?_)
        obtain ⟨rfl, rfl⟩ := hq
        refine g_if_eq 65 dX2_flowOnWay_36 (by decide) (fun z => absurd z (by decide)) (fun _ => ?_)
        refine g_aload_n dX2_flowOnWay_39 rfl ?_
        refine w_getR w' dX2_flowOnWay_40 fl_X2_27 rfl rfl (by first | rfl | assumption) rfl ?_
        refine g_iload dX2_flowOnWay_43 rfl ?_
        refine w_row w' dX2_flowOnWay_45 (by first | assumption | omega | (show _ < 8; omega) | (show _ < 24; omega) | (show _ < 9; omega)) ?_
        refine g_iload_n dX2_flowOnWay_46 rfl ?_
        refine g_dup2 dX2_flowOnWay_47 rfl rfl ?_
        refine w_ald w' dX2_flowOnWay_48 (by decide) (by first | rfl | assumption) (by first | assumption | omega | (show _ < 8; omega) | (show _ < 24; omega) | (show _ < 9; omega)) ?_
        refine g_iload_n dX2_flowOnWay_49 rfl ?_
        refine g_isub dX2_flowOnWay_50 ?_
        refine w_ast w' dX2_flowOnWay_51 (by decide) (by first | rfl | assumption) (by first | assumption | omega | (show _ < 8; omega) | (show _ < 24; omega) | (show _ < 9; omega)) (fun h21 w21 => ?_)
        refine g_aload_n dX2_flowOnWay_52 rfl ?_
        refine w_getR w21 dX2_flowOnWay_53 fl_X2_27 rfl rfl (by first | rfl | assumption) rfl ?_
        refine g_iload_n dX2_flowOnWay_56 rfl ?_
        refine w_row w21 dX2_flowOnWay_57 (by first | assumption | omega | (show _ < 8; omega) | (show _ < 24; omega) | (show _ < 9; omega)) ?_
        refine g_iload dX2_flowOnWay_58 rfl ?_
        refine g_dup2 dX2_flowOnWay_60 rfl rfl ?_
        refine w_ald w21 dX2_flowOnWay_61 (by decide) (by first | rfl | assumption) (by first | assumption | omega | (show _ < 8; omega) | (show _ < 24; omega) | (show _ < 9; omega)) ?_
        refine g_iload_n dX2_flowOnWay_62 rfl ?_
        refine g_iadd dX2_flowOnWay_63 ?_
        refine w_ast w21 dX2_flowOnWay_64 (by decide) (by first | rfl | assumption) (by first | assumption | omega | (show _ < 8; omega) | (show _ < 24; omega) | (show _ < 9; omega)) (fun h22 w22 => ?_)
        refine g_iload dX2_flowOnWay_65 rfl ?_
        refine g_istore_n dX2_flowOnWay_67 (by decide) rfl ?_
        refine g_iinc dX2_flowOnWay_68 rfl (nI_i1 _) (by decide) rfl ?_
        refine g_goto 5 dX2_flowOnWay_71 (by decide) ?_
        rw [ee]
        refine g_ls [(4, .int (nI (s + 1))), (3, .int (nI (r (pf (cc pf i0 s))))), (1, .int (nI (r i0))), (2, .int u), (0, .ref (L 3 0))] ⟨rfl, rfl, rfl, rfl, rfl, trivial⟩ ?_
        have e1 : ∀ x y, ¬ (x = e ∧ y = a) → ¬ (x = a ∧ y = e) → (u3 (u3 G 9 e a (G 9 e a - u)) 9 a e ((u3 G 9 e a (G 9 e a - u)) 9 a e + u)) 9 x y = G 9 x y := fun x y z1 z2 => by rw [u3_n (fun z => z2 z.2), u3_n (fun z => z1 z.2)]
        refine ih (s + 1) _ _ (nup N1 e a u.toInt) _ (by show pf _ + (s + 1) ≤ i0; omega) (by show pf _ < f; omega) (by show pf _ < m; omega) rfl w22 (fun c i j z => (u3_n (fun y => z y.1)).trans ((u3_n (fun y => z y.1)).trans (hfr c i j z))) (fun y hy => hpos1 y (by omega)) ⟨nup_anti j1 hea, fun x y hx hy => ?_, fun x y hx hy => ?_, fun v y1 y2 => ?_⟩ (fun s' y1 y2 => ?_)
        · show _ = C x y - nup N1 e a u.toInt x y
          unfold nup
          by_cases c1 : x = e ∧ y = a
          · obtain ⟨rfl, rfl⟩ := c1
            rw [if_pos ⟨rfl, rfl⟩, u3_n (by omega), u3_s, tI_sub (by omega) (by omega), q1]
            omega
          · by_cases c2 : x = a ∧ y = e
            · obtain ⟨rfl, rfl⟩ := c2
              rw [if_neg c1, if_pos ⟨rfl, rfl⟩, u3_s, u3_n (by omega), tI_add (by omega) (by omega), q2]
              omega
            · rw [if_neg c1, if_neg c2, e1 x y c1 c2]
              exact j2 x y hx hy
        · have := j3 x y hx hy
          unfold nup
          by_cases c1 : x = e ∧ y = a
          · obtain ⟨rfl, rfl⟩ := c1
            rw [if_pos ⟨rfl, rfl⟩]
            omega
          · by_cases c2 : x = a ∧ y = e
            · rw [if_neg c1, if_pos c2]
              omega
            · rw [if_neg c1, if_neg c2]
              exact this
        · rw [nup_in he9 ha9 hea, j4 v y1 y2, ← ee]
          show (if v = r i0 then g v + u.toInt else g v) - (if v = a then u.toInt else 0) + _ - _ = (if v = r i0 then g v + u.toInt else g v) - (if v = e then u.toInt else 0)
          omega
        · have hcl := cc_lt (m := m) (fun i a b => (hch i a b).1) hi0 s' (fun y hy => y2 y (by omega))
          have hlt := hcl.2 s (by omega)
          have y3 := hcl.1
          obtain ⟨z1, z2⟩ := hch _ (y2 s' (Nat.le_refl _)) y3
          have hn1 : ¬ (r (pf (cc pf i0 s')) = e ∧ r (cc pf i0 s') = a) := fun z => by
            have := hinj _ _ y3 hsm (z.2.trans ha)
            omega
          have hn2 : ¬ (r (pf (cc pf i0 s')) = a ∧ r (cc pf i0 s') = e) := fun z => by
            have := hinj _ _ (show pf (cc pf i0 s') < m by omega) hsm (z.1.trans ha)
            omega
          unfold nup
          rw [if_neg hn1, if_neg hn2]
          exact hNs s' (by omega) y2
  refine g_ls [(4, .int (nI 0)), (3, .int (nI (r i0))), (1, .int (nI (r i0))), (2, .int u), (0, .ref (L 3 0))] ⟨rfl, rfl, rfl, rfl, rfl, trivial⟩ ?_
  exact lp_5 (i0 + 1) 0 (r i0) Γ N0 _ (by show i0 + 0 ≤ i0; omega) (by show i0 < i0 + 1; omega) hi0 rfl w (fun _ _ _ _ => rfl) (fun y hy => absurd hy (Nat.not_lt_zero _)) ⟨hRJ0.1, hRJ0.2.1, hRJ0.2.2.1, fun v y1 y2 => by rw [hRJ0.2.2.2 v y1 y2]; show _ = (if v = r i0 then g v + u.toInt else g v) - (if v = r i0 then u.toInt else 0); split <;> omega⟩ (fun _ _ _ => rfl)
