/-! ===== the class's search and flows on its rows of room ===== -/
def cn10 (G : Nat → Nat → Nat → Int32) : Nat → Nat
  | 0 => 0
  | v + 1 => cn10 G v + (if G 10 0 v = 0 then 0 else 1)
theorem cn10_le (G : Nat → Nat → Nat → Int32) : ∀ v, cn10 G v ≤ v
  | 0 => Nat.le_refl _
  | v + 1 => by have := cn10_le G v; unfold cn10; split <;> omega
theorem cn10_lt {G : Nat → Nat → Nat → Int32} {u : Nat} (hu : G 10 0 u = 0) : ∀ v, u < v → cn10 G v < v
  | 0, h => absurd h (Nat.not_lt_zero _)
  | v + 1, h => by
    have h1 := cn10_le G v
    unfold cn10
    by_cases e : u = v
    · subst e
      rw [if_pos hu]
      omega
    · have := cn10_lt hu v (by omega)
      split <;> omega
theorem cn10_up {G G' : Nat → Nat → Nat → Int32} {u : Nat} (h0 : G 10 0 u = 0) (h1 : ¬ G' 10 0 u = 0) (h : ∀ w, w ≠ u → G' 10 0 w = G 10 0 w) : ∀ v, cn10 G' v = cn10 G v + (if u < v then 1 else 0)
  | 0 => by simp [cn10]
  | v + 1 => by
    unfold cn10
    rw [cn10_up h0 h1 h v]
    by_cases e : v = u
    · subst e
      rw [if_neg h1, if_pos h0, if_neg (Nat.lt_irrefl _), if_pos (Nat.lt_succ_self _)]
    · rw [h v e]
      have h2 : (if u < v then 1 else 0) = (if u < v + 1 then 1 else 0) := by
        by_cases c : u < v
        · rw [if_pos c, if_pos (Nat.lt_succ_of_lt c)]
        · rw [if_neg c, if_neg (by omega)]
      omega
theorem cn10_0 {G : Nat → Nat → Nat → Int32} : ∀ v, (∀ u, u < v → u ≠ 0 → G 10 0 u = 0) → ¬ G 10 0 0 = 0 → 0 < v → cn10 G v = 1
  | 0, _, _, h => absurd h (Nat.lt_irrefl _)
  | v + 1, h, h0, _ => by
    unfold cn10
    rcases Nat.eq_zero_or_pos v with c | c
    · subst c
      rw [if_neg h0]
      rfl
    · rw [cn10_0 v (fun u hu hne => h u (by omega) hne) h0 c, if_pos (h v (by omega) (by omega))]
def bR (units : Int) (R : Nat → Nat → Int) (G : Nat → Nat → Nat → Int32) (r : Nat → Nat) (m : Nat) : Prop :=
  m = cn10 G 9 ∧ r 0 = 0 ∧ (G 10 0 0).toInt = units ∧ (∀ i, i < m → G 10 2 i = nI (r i) ∧ r i < 9) ∧ (∀ v, v < 9 → ¬ G 10 0 v = 0 → ∃ i, i < m ∧ r i = v) ∧
  (∀ i, 0 < i → i < m → ∃ i', i' < i ∧ G 10 1 (r i) = nI (r i') ∧ 0 < (G 10 0 (r i)).toInt ∧ (G 10 0 (r i)).toInt ≤ (G 10 0 (r i')).toInt ∧ (G 10 0 (r i)).toInt ≤ R (r i') (r i)) ∧
  (∀ i j, i < m → j < m → r i = r j → i = j)
theorem bR.le {units : Int} {R : Nat → Nat → Int} {G : Nat → Nat → Nat → Int32} {r : Nat → Nat} {m : Nat} (h : bR units R G r m) (hu : 0 < units) : 1 ≤ m ∧ m ≤ 9 := by
  have h1 := cn10_le G 9
  have h0 : ¬ G 10 0 0 = 0 := fun z => by
    have := h.2.2.1
    rw [z, tI_0] at this
    omega
  obtain ⟨i, a, -⟩ := h.2.2.2.2.1 0 (by omega) h0
  have := h.1
  omega
theorem bR.lt {units : Int} {R : Nat → Nat → Int} {G : Nat → Nat → Nat → Int32} {r : Nat → Nat} {m v : Nat} (h : bR units R G r m) (hv : v < 9) (e : G 10 0 v = 0) : m < 9 := by
  have := cn10_lt e 9 hv
  have := h.1
  omega
theorem ne0_I {x : Int32} (h : 0 < x.toInt) : ¬ x = 0 := fun z => by rw [z, tI_0] at h; omega
theorem bR.pos {units : Int} {R : Nat → Nat → Int} {G : Nat → Nat → Nat → Int32} {r : Nat → Nat} {m i : Nat} (h : bR units R G r m) (hu : 0 < units) (hi : i < m) : 0 < (G 10 0 (r i)).toInt := by
  rcases Nat.eq_zero_or_pos i with c | c
  · subst c
    rw [h.2.1, h.2.2.1]
    exact hu
  · obtain ⟨i', -, -, q, -⟩ := h.2.2.2.2.2.1 i c hi
    exact q
theorem bR.add {units : Int} {R : Nat → Nat → Int} {G : Nat → Nat → Nat → Int32} {r : Nat → Nat} {m k v : Nat} {y : Int32} (h : bR units R G r m) (hu : 0 < units) (hk : k < m) (hv : v < 9) (e : G 10 0 v = 0) (hy : 0 < y.toInt) (hy1 : y.toInt ≤ (G 10 0 (r k)).toInt) (hy2 : y.toInt ≤ R (r k) v) :
    bR units R (u3 (u3 (u3 G 10 0 v y) 10 1 v (nI (r k))) 10 2 m (nI v)) (fun i => if i = m then v else r i) (m + 1) := by
  obtain ⟨h1, h2, h3, h4, h5, h6, h7⟩ := id h
  have hm := h.le hu
  obtain ⟨G', eG⟩ : ∃ G', G' = u3 (u3 (u3 G 10 0 v y) 10 1 v (nI (r k))) 10 2 m (nI v) := ⟨_, rfl⟩
  rw [← eG]
  have e0 : ∀ u, u ≠ v → G' 10 0 u = G 10 0 u := fun u hu => by rw [eG, u3_n (by omega), u3_n (by omega), u3_n (by omega)]
  have e0v : G' 10 0 v = y := by rw [eG, u3_n (by omega), u3_n (by omega), u3_s]
  have e1 : ∀ u, u ≠ v → G' 10 1 u = G 10 1 u := fun u hu => by rw [eG, u3_n (by omega), u3_n (by omega), u3_n (by omega)]
  have e1v : G' 10 1 v = nI (r k) := by rw [eG, u3_n (by omega), u3_s]
  have e2 : ∀ u, u ≠ m → G' 10 2 u = G 10 2 u := fun u hu => by rw [eG, u3_n (by omega), u3_n (by omega), u3_n (by omega)]
  have e2m : G' 10 2 m = nI v := by rw [eG, u3_s]
  have hnv : ∀ i, i < m → r i ≠ v := fun i hi z => by
    have := h.pos hu hi
    rw [z, e, tI_0] at this
    omega
  have r0 : ∀ i, i < m → (fun i => if i = m then v else r i) i = r i := fun i hi => if_neg (by omega)
  have rm : (fun i => if i = m then v else r i) m = v := if_pos rfl
  refine ⟨?_, ?_, ?_, fun i hi => ?_, fun u hu' hne => ?_, fun i h0 hi => ?_, fun i j hi hj hij => ?_⟩
  · rw [cn10_up e (by rw [e0v]; exact ne0_I hy) e0 9, if_pos hv]
    omega
  · rw [r0 0 (by omega)]
    exact h2
  · rw [e0 0 (by have := hnv 0 (by omega); omega)]
    exact h3
  · by_cases c : i = m
    · rw [c, rm, e2m]
      exact ⟨rfl, hv⟩
    · rw [r0 i (by omega), e2 i c]
      exact h4 i (by omega)
  · by_cases c : u = v
    · exact ⟨m, by omega, by rw [rm, c]⟩
    · rw [e0 u c] at hne
      obtain ⟨i, q1, q2⟩ := h5 u hu' hne
      exact ⟨i, by omega, by rw [r0 i q1]; exact q2⟩
  · by_cases c : i = m
    · refine ⟨k, by omega, ?_⟩
      rw [c, rm, r0 k hk, e1v, e0v, e0 _ (hnv k hk)]
      exact ⟨rfl, hy, hy1, hy2⟩
    · obtain ⟨i', q1, q2, q3, q4, q5⟩ := h6 i h0 (by omega)
      refine ⟨i', q1, ?_⟩
      rw [r0 i (by omega), r0 i' (by omega), e1 _ (hnv i (by omega)), e0 _ (hnv i (by omega)), e0 _ (hnv i' (by omega))]
      exact ⟨q2, q3, q4, q5⟩
  · by_cases c : i = m <;> by_cases d : j = m
    · omega
    · rw [c, rm, r0 j (by omega)] at hij
      exact absurd hij.symm (hnv j (by omega))
    · rw [d, rm, r0 i (by omega)] at hij
      exact absurd hij (hnv i (by omega))
    · rw [r0 i (by omega), r0 j (by omega)] at hij
      exact h7 i j (by omega) (by omega) hij
def clR (R : Nat → Nat → Int) (r : Nat → Nat) (m i v : Nat) : Prop := 0 < R (r i) v → ∃ i2, i2 < m ∧ r i2 = v
theorem clR.up {R : Nat → Nat → Int} {r : Nat → Nat} {m i v x : Nat} (h : clR R r m i v) (hi : i < m) : clR R (fun i => if i = m then x else r i) (m + 1) i v := by
  intro z
  have z' : 0 < R (if i = m then x else r i) v := z
  rw [if_neg (by omega)] at z'
  obtain ⟨i2, a, b⟩ := h z'
  exact ⟨i2, by omega, by show (if i2 = m then x else r i2) = v; rw [if_neg (by omega)]; exact b⟩
theorem clR.new {R : Nat → Nat → Int} {r : Nat → Nat} {m i v : Nat} : clR R (fun i => if i = m then v else r i) (m + 1) i v := fun _ => ⟨m, by omega, if_pos rfl⟩
/-- the rows of room are R -/
def rmJ (R : Nat → Nat → Int) (G : Nat → Nat → Nat → Int32) : Prop := ∀ a b, a < 9 → b < 9 → (G 9 a b).toInt = R a b
def fr10 (Γ G : Nat → Nat → Nat → Int32) : Prop := ∀ c i j, ¬ c = 10 → G c i j = Γ c i j
def sp_w10 (Γ : Nat → Nat → Nat → Int32) : Nat → Nat → Nat → Nat → Int32
  | 0 => Γ
  | j + 1 => u3 (sp_w10 Γ j) 10 0 j 0
theorem sp_w10_fr (Γ : Nat → Nat → Nat → Int32) {c i : Nat} (h : ¬ (c = 10 ∧ i = 0)) : ∀ j u, sp_w10 Γ j c i u = Γ c i u
  | 0, _ => rfl
  | j + 1, u => (u3_n (fun z => h ⟨z.1, z.2.1⟩)).trans (sp_w10_fr Γ h j u)
theorem sp_w10_at (Γ : Nat → Nat → Nat → Int32) : ∀ j u, u < j → sp_w10 Γ j 10 0 u = 0
  | 0, u, h => absurd h (Nat.not_lt_zero _)
  | j + 1, u, h => by
    show u3 (sp_w10 Γ j) 10 0 j 0 10 0 u = 0
    by_cases c : u = j
    · rw [c, u3_s]
    · rw [u3_n (by omega)]
      exact sp_w10_at Γ j u (by omega)
theorem bR.init {units : Int32} {R : Nat → Nat → Int} (Γ : Nat → Nat → Nat → Int32) (hu : 0 < units.toInt) : bR units.toInt R (u3 (u3 (sp_w10 Γ 9) 10 0 0 units) 10 2 0 (nI 0)) (fun _ => 0) 1 := by
  obtain ⟨G', eG⟩ : ∃ G', G' = u3 (u3 (sp_w10 Γ 9) 10 0 0 units) 10 2 0 (nI 0) := ⟨_, rfl⟩
  rw [← eG]
  have e00 : G' 10 0 0 = units := by rw [eG, u3_n (by omega), u3_s]
  have e0 : ∀ u, u < 9 → u ≠ 0 → G' 10 0 u = 0 := fun u hu hne => by rw [eG, u3_n (by omega), u3_n (by omega)]; exact sp_w10_at Γ 9 u hu
  refine ⟨?_, rfl, by rw [e00], fun i hi => ?_, fun v hv hne => ?_, fun i h0 hi => by omega, fun i j hi hj _ => by omega⟩
  · rw [cn10_0 9 e0 (by rw [e00]; exact ne0_I hu) (by omega)]
  · have : i = 0 := by omega
    subst this
    exact ⟨by rw [eG, u3_s], by decide⟩
  · refine ⟨0, by omega, ?_⟩
    rcases Nat.eq_zero_or_pos v with c | c
    · exact c.symm
    · exact absurd (e0 v hv (by omega)) hne
theorem min_I (a b : Int32) : (if b < a then b else a).toInt = min a.toInt b.toInt := by
  by_cases c : b < a
  · rw [if_pos c]
    have := Int32.lt_iff_toInt_lt.mp c
    omega
  · rw [if_neg c]
    have : ¬ b.toInt < a.toInt := fun z => c (Int32.lt_iff_toInt_lt.mpr z)
    omega
set_option maxRecDepth 100000 in
set_option maxHeartbeats 4000000 in
theorem c_isNode {l : Launch} (hlt : l.stackTraces = false) {h : am_H} {t : Nat} (ht : t < 9) : am_Con l yX2_isNode (.code yX2_isNode cX2_isNode 1 (some .boolean)) 1 0 0 [.int (nI t)] h (fun v h' => v = some (.int 1) ∧ h' = h) (fun _ _ => False) := by
  refine am_body hlt (by decide +kernel) (Nat.le_of_ble_eq_true rfl) (fun k hl hR h0 hno => ?_)
  subst hl
  obtain ⟨Qf, hQ⟩ : ∃ Qf, Qf = am_Q k 0 0 (fun v h' => v = some (.int 1) ∧ h' = h) (fun _ _ => False) := ⟨_, rfl⟩
  rw [← hQ]
  refine g_iload_n dX2_isNode_0 rfl ?_
  refine g_if_lt 14 dX2_isNode_1 (by decide) (fun z => absurd z (nI_pos (by omega))) (fun c_1 => ?_)
  refine g_iload_n dX2_isNode_4 rfl ?_
  refine g_bipush (v := nI 9) dX2_isNode_5 (by decide) ?_
  refine gN_ge 14 dX2_isNode_7 (by decide) (by omega) (by omega) (fun z => absurd z (by omega)) (fun c_7 => ?_)
  refine g_iconst (v := 1) dX2_isNode_10 (by decide) ?_
  refine g_goto 15 dX2_isNode_11 (by decide) ?_
  rw [hQ]
  refine g_iret dX2_isNode_15 rfl rfl (by decide) (by decide) ?_
  exact ⟨rfl, rfl⟩
set_option maxRecDepth 100000 in
set_option maxHeartbeats 4000000 in
theorem c_X2_findWay {l : Launch} (hlt : l.stackTraces = false) {N n p : Nat} {ord : List Nat} {L : Nat → Nat → Nat} {Γ : Nat → Nat → Nat → Int32} {o : Nat} {h : am_H} (w : WI N n p ord L Γ o h) {R : Nat → Nat → Int} (hR9 : rmJ R Γ) {t : Nat} (ht : t < 9) {u : Int32} (hu : 0 < u.toInt) : am_Con l yX2_findWay (.code yX2_findWay cX2_findWay 7 (some .int)) 2 0 0 [.ref (L 3 0), .int (nI t), .int u] h (fun v h' => ∃ (G : Nat → Nat → Nat → Int32) (r : Nat → Nat) (m : Nat), v = some (.int (G 10 0 t)) ∧ WI N n p ord L G o h' ∧ fr10 Γ G ∧ bR u.toInt R G r m ∧ (∀ i j, i < m → j < 9 → clR R r m i j)) (fun _ _ => False) := by
  refine am_body hlt (by decide +kernel) (Nat.le_of_ble_eq_true rfl) (fun k hl hR h0 hno => ?_)
  subst hl
  obtain ⟨Qf, hQ⟩ : ∃ Qf, Qf = am_Q k 0 0 (fun v h' => ∃ (G : Nat → Nat → Nat → Int32) (r : Nat → Nat) (m : Nat), v = some (.int (G 10 0 t)) ∧ WI N n p ord L G o h' ∧ fr10 Γ G ∧ bR u.toInt R G r m ∧ (∀ i j, i < m → j < 9 → clR R r m i j)) (fun _ _ => False) := ⟨_, rfl⟩
  rw [← hQ]
  have hm : wdm n p o 3 0 = true := rfl
  refine g_iconst (v := 0) dX2_findWay_0 (by decide) ?_
  refine g_istore_n dX2_findWay_1 (by decide) rfl ?_
  have lp_2 : ∀ (f : Nat) (j : Nat) (h' : am_H), j ≤ 9 → 9 - j < f → WI N n p ord L (sp_w10 Γ j) o h' → am_G k RX2 yX2_findWay.name cX2_findWay 7 (some .int) 0 0 Qf 2 [(3, .int (nI j)), (1, .int (nI t)), (2, .int u), (0, .ref (L 3 0))] [] h' := by
    intro f
    induction f with
    | zero => intro j h' hj hf w'; omega
    | succ f ih =>
      intro j h' hj hf w'
      refine g_iload_n dX2_findWay_2 rfl ?_
      refine g_bipush (v := nI 9) dX2_findWay_3 (by decide) ?_
      refine gN_ge 21 dX2_findWay_5 (by decide) (by omega) (by omega) (fun c_5 => ?_) (fun c_5 => ?_)
      · skip
        have ej : j = 9 := by omega
        subst ej
        refine g_aload_n dX2_findWay_21 rfl ?_
        refine w_getR w' dX2_findWay_22 fl_X2_30 rfl rfl (by first | rfl | assumption) rfl ?_
        refine g_iconst (v := nI 0) dX2_findWay_25 (by decide) ?_
        refine g_iload_n dX2_findWay_26 rfl ?_
        refine w_ast w' dX2_findWay_27 (by decide) (by first | rfl | assumption) (by first | assumption | omega | (show _ < 8; omega) | (show _ < 24; omega) | (show _ < 5; omega) | (show _ < 16; omega) | (show _ < 9; omega)) (fun h21 w21 => ?_)
        refine g_aload_n dX2_findWay_28 rfl ?_
        refine w_getR w21 dX2_findWay_29 fl_X2_37 rfl rfl (by first | rfl | assumption) rfl ?_
        refine g_iconst (v := nI 0) dX2_findWay_32 (by decide) ?_
        refine g_iconst (v := nI 0) dX2_findWay_33 (by decide) ?_
        refine w_ast w21 dX2_findWay_34 (by decide) (by first | rfl | assumption) (by first | assumption | omega | (show _ < 8; omega) | (show _ < 24; omega) | (show _ < 5; omega) | (show _ < 16; omega) | (show _ < 9; omega)) (fun h22 w22 => ?_)
        refine g_iconst (v := 1) dX2_findWay_35 (by decide) ?_
        refine g_istore_n dX2_findWay_36 (by decide) rfl ?_
        refine g_iconst (v := 0) dX2_findWay_37 (by decide) ?_
        refine g_istore dX2_findWay_38 (by decide) rfl ?_
        have lp_40 : ∀ (f : Nat) (aa : Nat) (G : Nat → Nat → Nat → Int32) (r : Nat → Nat) (m : Nat) (h' : am_H), aa ≤ m → 9 - aa < f → WI N n p ord L G o h' → fr10 Γ G → bR u.toInt R G r m → (∀ i j, i < aa → j < 9 → clR R r m i j) → am_G k RX2 yX2_findWay.name cX2_findWay 7 (some .int) 0 0 Qf 40 [(4, .int (nI aa)), (3, .int (nI m)), (1, .int (nI t)), (2, .int u), (0, .ref (L 3 0))] [] h' := by
          intro f
          induction f with
          | zero => intro aa G r m h' hk hf w' fr hbj hcl; omega
          | succ f ih1 =>
            intro aa G r m h' hk hf w' fr hbj hcl
            have hm9 := hbj.le hu
            refine g_iload dX2_findWay_40 rfl ?_
            refine g_iload_n dX2_findWay_42 rfl ?_
            refine gN_ge 168 dX2_findWay_43 (by decide) (by omega) (by omega) (fun c_43 => ?_) (fun c_43 => ?_)
            · skip
              refine g_iload_n dX2_findWay_168 rfl ?_
              refine g_callS [_] dX2_findWay_169 mc_X2_57 ms_X2_isNode (c_isNode hlt (t := t) ht) rfl (Nat.le_of_ble_eq_true rfl) (am_rm hR (by decide)) (fun _ _ z => z) (fun v hx hq hE => ?_)
              obtain ⟨rfl, rfl⟩ := hq
              refine g_if_eq 184 dX2_findWay_172 (by decide) (fun z => absurd z (by decide)) (fun _ => ?_)
              refine g_aload_n dX2_findWay_175 rfl ?_
              refine w_getR w' dX2_findWay_176 fl_X2_30 rfl rfl (by first | rfl | assumption) rfl ?_
              refine g_iload_n dX2_findWay_179 rfl ?_
              refine w_ald w' dX2_findWay_180 (by decide) (by first | rfl | assumption) (by first | assumption | omega | (show _ < 8; omega) | (show _ < 24; omega) | (show _ < 5; omega) | (show _ < 16; omega) | (show _ < 9; omega)) ?_
              refine g_goto 185 dX2_findWay_181 (by decide) ?_
              rw [hQ]
              refine g_iret dX2_findWay_185 rfl rfl (by decide) (by decide) ?_
              exact ⟨G, r, m, rfl, w', fr, hbj, fun i j hi hj => hcl i j (by omega) hj⟩
            · skip
              refine g_iload dX2_findWay_46 rfl ?_
              refine g_bipush (v := nI 9) dX2_findWay_48 (by decide) ?_
              refine gN_ge 168 dX2_findWay_50 (by decide) (by omega) (by omega) (fun z => absurd z (by omega)) (fun c_50 => ?_)
              refine g_aload_n dX2_findWay_53 rfl ?_
              refine w_getR w' dX2_findWay_54 fl_X2_37 rfl rfl (by first | rfl | assumption) rfl ?_
              refine g_iload dX2_findWay_57 rfl ?_
              refine w_ald w' dX2_findWay_59 (by decide) (by first | rfl | assumption) (by first | assumption | omega | (show _ < 8; omega) | (show _ < 24; omega) | (show _ < 5; omega) | (show _ < 16; omega) | (show _ < 9; omega)) ?_
              rw [(hbj.2.2.2.1 aa (by omega)).1]
              obtain ⟨e, ee⟩ : ∃ e, e = r aa := ⟨_, rfl⟩
              have he9 : e < 9 := by rw [ee]; exact (hbj.2.2.2.1 aa (by omega)).2
              rw [← ee]
              have hwe : wdm n p o 9 e = true := decide_eq_true he9
              refine g_istore dX2_findWay_60 (by decide) rfl ?_
              refine g_iconst (v := 0) dX2_findWay_62 (by decide) ?_
              refine g_istore dX2_findWay_63 (by decide) rfl ?_
              have lp_65 : ∀ (f : Nat) (j : Nat) (G : Nat → Nat → Nat → Int32) (r : Nat → Nat) (m : Nat) (h' : am_H), j ≤ 9 → 9 - j < f → WI N n p ord L G o h' → fr10 Γ G → bR u.toInt R G r m → aa < m → r aa = e → (∀ i j, i < aa → j < 9 → clR R r m i j) → (∀ j', j' < j → clR R r m aa j') → am_G k RX2 yX2_findWay.name cX2_findWay 7 (some .int) 0 0 Qf 65 [(6, .int (nI j)), (5, .int (nI e)), (4, .int (nI aa)), (3, .int (nI m)), (1, .int (nI t)), (2, .int u), (0, .ref (L 3 0))] [] h' := by
                intro f
                induction f with
                | zero => intro j G r m h' hj hf w' fr hbj hkm hre hcl hck; omega
                | succ f ih2 =>
                  intro j G r m h' hj hf w' fr hbj hkm hre hcl hck
                  have hm9 := hbj.le hu
                  refine g_iload dX2_findWay_65 rfl ?_
                  refine g_bipush (v := nI 9) dX2_findWay_67 (by decide) ?_
                  refine gN_ge 162 dX2_findWay_69 (by decide) (by omega) (by omega) (fun c_69 => ?_) (fun c_69 => ?_)
                  · skip
                    refine g_iinc dX2_findWay_162 rfl (nI_i1 _) (by decide) rfl ?_
                    refine g_goto 40 dX2_findWay_165 (by decide) ?_
                    refine g_ls [(4, .int (nI (aa + 1))), (3, .int (nI m)), (1, .int (nI t)), (2, .int u), (0, .ref (L 3 0))] ⟨rfl, rfl, rfl, rfl, rfl, trivial⟩ ?_
                    exact ih1 (aa + 1) G r m _ (by omega) (by omega) w' fr hbj (fun i j' hi hj' => by
                      by_cases z : i = aa
                      · rw [z]
                        exact hck j' (by omega)
                      · exact hcl i j' (by omega) hj')
                  · skip
                    refine g_iload dX2_findWay_72 rfl ?_
                    refine g_callS [_] dX2_findWay_74 mc_X2_57 ms_X2_isNode (c_isNode hlt (t := e) he9) rfl (Nat.le_of_ble_eq_true rfl) (am_rm hR (by decide)) (fun _ _ z => z) (fun v hx hq hE => ?_)
                    obtain ⟨rfl, rfl⟩ := hq
                    refine g_if_eq 162 dX2_findWay_77 (by decide) (fun z => absurd z (by decide)) (fun _ => ?_)
                    refine g_aload_n dX2_findWay_80 rfl ?_
                    refine w_getR w' dX2_findWay_81 fl_X2_30 rfl rfl (by first | rfl | assumption) rfl ?_
                    refine g_iload dX2_findWay_84 rfl ?_
                    refine w_ald w' dX2_findWay_86 (by decide) (by first | rfl | assumption) (by first | assumption | omega | (show _ < 8; omega) | (show _ < 24; omega) | (show _ < 5; omega) | (show _ < 16; omega) | (show _ < 9; omega)) ?_
                    refine g_if_ne 156 dX2_findWay_87 (by decide) (fun c_87 => ?_) (fun c_87 => ?_)
                    · skip
                      refine g_iinc dX2_findWay_156 rfl (nI_i1 _) (by decide) rfl ?_
                      refine g_goto 65 dX2_findWay_159 (by decide) ?_
                      have hsk : clR R r m aa j := fun z0 => hbj.2.2.2.2.1 j c_69 c_87
                      refine g_ls [(6, .int (nI (j + 1))), (5, .int (nI e)), (4, .int (nI aa)), (3, .int (nI m)), (1, .int (nI t)), (2, .int u), (0, .ref (L 3 0))] ⟨rfl, rfl, rfl, rfl, rfl, rfl, rfl, trivial⟩ ?_
                      exact ih2 (j + 1) G r m _ (by omega) (by omega) w' fr hbj (by omega) hre hcl (fun j' hj' => by
                        by_cases z : j' = j
                        · rw [z]
                          exact hsk
                        · exact hck j' (by omega))
                    · skip
                      refine g_aload_n dX2_findWay_90 rfl ?_
                      refine w_getR w' dX2_findWay_91 fl_X2_27 rfl rfl (by first | rfl | assumption) rfl ?_
                      refine g_iload dX2_findWay_94 rfl ?_
                      refine w_row w' dX2_findWay_96 (by first | assumption | omega | (show _ < 8; omega) | (show _ < 24; omega) | (show _ < 5; omega) | (show _ < 16; omega) | (show _ < 9; omega)) ?_
                      refine g_iload dX2_findWay_97 rfl ?_
                      refine w_ald w' dX2_findWay_99 (by decide) (by first | rfl | assumption) (by first | assumption | omega | (show _ < 8; omega) | (show _ < 24; omega) | (show _ < 5; omega) | (show _ < 16; omega) | (show _ < 9; omega)) ?_
                      refine g_if_le 156 dX2_findWay_100 (by decide) (fun c_100 => ?_) (fun c_100 => ?_)
                      · skip
                        refine g_iinc dX2_findWay_156 rfl (nI_i1 _) (by decide) rfl ?_
                        refine g_goto 65 dX2_findWay_159 (by decide) ?_
                        have hsk : clR R r m aa j := fun z0 => absurd z0 (by rw [hre, ← hR9 e j he9 c_69, ← fr 9 e j (by decide)]; have := Int32.le_iff_toInt_le.mp c_100; rw [tI_0] at this; omega)
                        refine g_ls [(6, .int (nI (j + 1))), (5, .int (nI e)), (4, .int (nI aa)), (3, .int (nI m)), (1, .int (nI t)), (2, .int u), (0, .ref (L 3 0))] ⟨rfl, rfl, rfl, rfl, rfl, rfl, rfl, trivial⟩ ?_
                        exact ih2 (j + 1) G r m _ (by omega) (by omega) w' fr hbj (by omega) hre hcl (fun j' hj' => by
                          by_cases z : j' = j
                          · rw [z]
                            exact hsk
                          · exact hck j' (by omega))
                      · skip
                        refine g_iload_n dX2_findWay_103 rfl ?_
                        refine g_bipush (v := nI 9) dX2_findWay_104 (by decide) ?_
                        refine gN_ge 156 dX2_findWay_106 (by decide) (by omega) (by omega) (fun z => absurd z (by have := hbj.lt c_69 c_87; omega)) (fun c_106 => ?_)
                        have hm9 : m < 9 := hbj.lt c_69 c_87
                        refine g_aload_n dX2_findWay_109 rfl ?_
                        refine w_getR w' dX2_findWay_110 fl_X2_30 rfl rfl (by first | rfl | assumption) rfl ?_
                        refine g_iload dX2_findWay_113 rfl ?_
                        refine g_aload_n dX2_findWay_115 rfl ?_
                        refine w_getR w' dX2_findWay_116 fl_X2_30 rfl rfl (by first | rfl | assumption) rfl ?_
                        refine g_iload dX2_findWay_119 rfl ?_
                        refine w_ald w' dX2_findWay_121 (by decide) (by first | rfl | assumption) (by first | assumption | omega | (show _ < 8; omega) | (show _ < 24; omega) | (show _ < 5; omega) | (show _ < 16; omega) | (show _ < 9; omega)) ?_
                        refine g_aload_n dX2_findWay_122 rfl ?_
                        refine w_getR w' dX2_findWay_123 fl_X2_27 rfl rfl (by first | rfl | assumption) rfl ?_
                        refine g_iload dX2_findWay_126 rfl ?_
                        refine w_row w' dX2_findWay_128 (by first | assumption | omega | (show _ < 8; omega) | (show _ < 24; omega) | (show _ < 5; omega) | (show _ < 16; omega) | (show _ < 9; omega)) ?_
                        refine g_iload dX2_findWay_129 rfl ?_
                        refine w_ald w' dX2_findWay_131 (by decide) (by first | rfl | assumption) (by first | assumption | omega | (show _ < 8; omega) | (show _ < 24; omega) | (show _ < 5; omega) | (show _ < 16; omega) | (show _ < 9; omega)) ?_
                        refine g_min dX2_findWay_132 ml_X2_67 ms_min ini_Math mcode_min (by rw [hR]; decide) (by rw [hR]; exact Nat.le_of_ble_eq_true rfl) (by rw [hR]; decide) (by rw [hR]; first | decide | (show _ ≤ 100; omega)) ?_
                        refine w_ast w' dX2_findWay_135 (by decide) (by first | rfl | assumption) (by first | assumption | omega | (show _ < 8; omega) | (show _ < 24; omega) | (show _ < 5; omega) | (show _ < 16; omega) | (show _ < 9; omega)) (fun h63 w63 => ?_)
                        refine g_aload_n dX2_findWay_136 rfl ?_
                        refine w_getR w63 dX2_findWay_137 fl_X2_34 rfl rfl (by first | rfl | assumption) rfl ?_
                        refine g_iload dX2_findWay_140 rfl ?_
                        refine g_iload dX2_findWay_142 rfl ?_
                        refine w_ast w63 dX2_findWay_144 (by decide) (by first | rfl | assumption) (by first | assumption | omega | (show _ < 8; omega) | (show _ < 24; omega) | (show _ < 5; omega) | (show _ < 16; omega) | (show _ < 9; omega)) (fun h64 w64 => ?_)
                        refine g_aload_n dX2_findWay_145 rfl ?_
                        refine w_getR w64 dX2_findWay_146 fl_X2_37 rfl rfl (by first | rfl | assumption) rfl ?_
                        refine g_iload_n dX2_findWay_149 rfl ?_
                        refine g_iload dX2_findWay_150 rfl ?_
                        refine w_ast w64 dX2_findWay_152 (by decide) (by first | rfl | assumption) (by first | assumption | omega | (show _ < 8; omega) | (show _ < 24; omega) | (show _ < 5; omega) | (show _ < 16; omega) | (show _ < 9; omega)) (fun h65 w65 => ?_)
                        refine g_iinc dX2_findWay_153 rfl (nI_i1 _) (by decide) rfl ?_
                        refine g_iinc dX2_findWay_156 rfl (nI_i1 _) (by decide) rfl ?_
                        refine g_goto 65 dX2_findWay_159 (by decide) ?_
                        have hRv : (G 9 e j).toInt = R e j := (by rw [fr 9 e j (by decide)]; exact hR9 e j he9 c_69)
                        have hpos : 0 < (G 9 e j).toInt := by
                          rcases Int.lt_or_le 0 (G 9 e j).toInt with z | z
                          · exact z
                          · exact absurd (Int32.le_iff_toInt_le.mpr (by rw [tI_0]; exact z)) c_100
                        obtain ⟨y, ey⟩ : ∃ y, y = (if G 9 e j < G 10 0 e then G 9 e j else G 10 0 e) := ⟨_, rfl⟩
                        have hpe := hbj.pos hu hkm
                        rw [hre] at hpe
                        have hyI : y.toInt = min (G 10 0 e).toInt (G 9 e j).toInt := by rw [ey, min_I]
                        have hb2 := hbj.add (k := aa) (v := j) (y := y) hu hkm c_69 c_87 (by omega) (by rw [hre]; omega) (by rw [hre]; omega)
                        rw [hre, ey] at hb2
                        refine g_ls [(6, .int (nI (j + 1))), (5, .int (nI e)), (4, .int (nI aa)), (3, .int (nI (m + 1))), (1, .int (nI t)), (2, .int u), (0, .ref (L 3 0))] ⟨rfl, rfl, rfl, rfl, rfl, rfl, rfl, trivial⟩ ?_
                        exact ih2 (j + 1) _ (fun i => if i = m then j else r i) (m + 1) _ (by omega) (by omega) w65 (fun c i j z => (u3_n (by omega)).trans ((u3_n (by omega)).trans ((u3_n (by omega)).trans (fr c i j z)))) hb2 (by omega) (by show (if aa = m then j else r aa) = e; rw [if_neg (by omega)]; exact hre) (fun i j' hi hj' => (hcl i j' hi hj').up (by omega)) (fun j' hj' => by
                          by_cases z : j' = j
                          · rw [z]
                            exact clR.new
                          · exact (hck j' (by omega)).up (by omega))
              refine g_ls [(6, .int (nI 0)), (5, .int (nI e)), (4, .int (nI aa)), (3, .int (nI m)), (1, .int (nI t)), (2, .int u), (0, .ref (L 3 0))] ⟨rfl, rfl, rfl, rfl, rfl, rfl, rfl, trivial⟩ ?_
              exact lp_65 10 0 G r m _ (by omega) (by omega) w' fr hbj (by omega) ee.symm hcl (fun j' hj' => absurd hj' (Nat.not_lt_zero _))
        refine g_ls [(4, .int (nI 0)), (3, .int (nI 1)), (1, .int (nI t)), (2, .int u), (0, .ref (L 3 0))] ⟨rfl, rfl, rfl, rfl, rfl, trivial⟩ ?_
        exact lp_40 10 0 _ (fun _ => 0) 1 _ (by omega) (by omega) w22 (fun c i j z => (u3_n (by omega)).trans ((u3_n (by omega)).trans (sp_w10_fr Γ (by omega) 9 j))) (bR.init Γ hu) (fun i j hi => absurd hi (Nat.not_lt_zero _))
      · skip
        refine g_aload_n dX2_findWay_8 rfl ?_
        refine w_getR w' dX2_findWay_9 fl_X2_30 rfl rfl (by first | rfl | assumption) rfl ?_
        refine g_iload_n dX2_findWay_12 rfl ?_
        refine g_iconst (v := 0) dX2_findWay_13 (by decide) ?_
        refine w_ast w' dX2_findWay_14 (by decide) (by first | rfl | assumption) (by first | assumption | omega | (show _ < 8; omega) | (show _ < 24; omega) | (show _ < 5; omega) | (show _ < 16; omega) | (show _ < 9; omega)) (fun h23 w23 => ?_)
        refine g_iinc dX2_findWay_15 rfl (nI_i1 _) (by decide) rfl ?_
        refine g_goto 2 dX2_findWay_18 (by decide) ?_
        refine g_ls [(3, .int (nI (j + 1))), (1, .int (nI t)), (2, .int u), (0, .ref (L 3 0))] ⟨rfl, rfl, rfl, rfl, trivial⟩ ?_
        exact ih (j + 1) _ (by omega) (by omega) w23
  refine g_ls [(3, .int (nI 0)), (1, .int (nI t)), (2, .int u), (0, .ref (L 3 0))] ⟨rfl, rfl, rfl, rfl, trivial⟩ ?_
  exact lp_2 10 0 _ (by omega) (by omega) w
