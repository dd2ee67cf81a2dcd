theorem sp_ahead_cnt {Γ : Nat → Nat → Nat → Int32} {l : List Nat} {d : Nat} : sp_sum (fun j => if sp_ahead Γ (l.getD j 0) d = 0 then 0 else 1) l.length = nI (l.countP (fun x => ahB Γ x d)) := by
  rw [← cnt_list]
  refine sp_sum_cnt l.length fun j _ => ?_
  show _ = if ahB Γ (l.getD j 0) d = true then 1 else 0
  by_cases c : sp_ahead Γ (l.getD j 0) d = 0
  · rw [if_pos c, if_neg (fun z => (sp_ahead_iff.mpr (ahB_iff.mp z)) c)]
  · rw [if_neg c, if_pos (ahB_iff.mpr (sp_ahead_iff.mp c))]
theorem getElem?_od {l : List Nat} {j : Nat} (h : j < l.length) : l[j]? = some (od l j) := by
  unfold od
  rw [List.getD_eq_getElem?_getD, List.getElem?_eq_getElem h]
  rfl
theorem od_get {l : List Nat} {j : Nat} (h : j < l.length) : l[j] = od l j := by
  have := getElem?_od h
  rw [List.getElem?_eq_getElem h] at this
  exact Option.some.inj this
/-- the row of the order with d at place k -/
theorem ins_row {N n p : Nat} {l : List Nat} {L : Nat → Nat → Nat} {Γ : Nat → Nat → Nat → Int32} {o : Nat} {h : am_H} (w : WI N n p l L Γ o h) {k d : Nat} (hk : k ≤ l.length) {g : Nat → Option Nat} (g1 : ∀ j, j < k → g j = am_B h (L 7 1) j) (g2 : g k = some (L 2 d)) (g3 : ∀ j, k < j → j ≤ l.length → g j = am_B h (L 7 1) (j - 1)) (j : Nat) (hj : j < (ins l k d).length) : g j = some (L 2 ((ins l k d)[j])) := by
  have h4 : ∀ j (hj : j < l.length), am_B h (L 7 1) j = some (L 2 (l[j])) := (w.2.2.2.2.2.2.1 1 (by decide)).2.2.2.1
  rw [od_get hj]
  rw [ins_len hk] at hj
  rcases Nat.lt_trichotomy j k with c | c | c
  · rw [g1 j c, od_ins_lt hk c, h4 j (by omega), od_get]
  · rw [c, g2, od_ins_eq hk]
  · rw [g3 j c (by omega), od_ins_gt hk c, h4 (j - 1) (by omega), od_get]
set_option maxRecDepth 100000 in
set_option maxHeartbeats 4000000 in
theorem c_X4_orderBids {l : Launch} (hlt : l.stackTraces = false) {N n p : Nat} {ord : List Nat} {L : Nat → Nat → Nat} {Γ : Nat → Nat → Nat → Int32} {o : Nat} {h : am_H} (w : WI N n p ord L Γ o h) (hd : dst Γ n) : am_Con l yX4_orderBids (.code yX4_orderBids cX4_orderBids 3 none) 7 8 800 [.ref (L 5 0)] h (fun v h' => ∃ (ord' : List Nat) (L' : Nat → Nat → Nat), v = none ∧ ORD Γ n ord' ∧ LE7 L L' ∧ WI N n p ord' L' Γ o h') (fun _ _ => False) := by
  refine am_body hlt (by decide +kernel) (Nat.le_of_ble_eq_true rfl) (fun k hl hR h0 hno => ?_)
  subst hl
  obtain ⟨Qf, hQ⟩ : ∃ Qf, Qf = am_Q k 8 800 (fun v h' => ∃ (ord' : List Nat) (L' : Nat → Nat → Nat), v = none ∧ ORD Γ n ord' ∧ LE7 L L' ∧ WI N n p ord' L' Γ o h') (fun _ _ => False) := ⟨_, rfl⟩
  rw [← hQ]
  have hm0 : wdm n p o 3 0 = true := rfl
  have hx0 : wdm n p o 5 0 = true := rfl
  have hn8 : n ≤ 8 := w.1.1
  have hp24 : p ≤ 24 := w.1.2.1
  have ho8 : ord.length ≤ 8 := w.1.2.2.2.2
  refine g_aload_n dX4_orderBids_0 rfl ?_
  refine w_getR w dX4_orderBids_1 fl_X4_23 rfl rfl (by first | rfl | assumption) rfl ?_
  refine g_callV [] dX4_orderBids_4 mc_X4_172 mi_Jx4a65c_clear_da8c8 se_Jx4a65c_clear_da8c8 (c_clear hlt (w.la (t := 1) (by decide))) ((w.k (c := 6) (i := 1) rfl)) rfl rfl (Nat.le_of_ble_eq_true rfl) (am_rm hR (by decide)) (fun _ _ z => z) (fun v hx hq hE => ?_)
  obtain ⟨rfl, z, g, rfl⟩ := hq
  have w1 := w.ordU (LU.clear (z := z) (g := g) (g' := fun _ => none) (w.la (t := 1) (by decide))) (ord' := []) rfl (fun e he => by cases he) (Nat.zero_le _) (fun j hj => absurd hj (Nat.not_lt_zero _))
  obtain ⟨L', eL'⟩ : ∃ L', L' = l7 L 1 (L 7 1) := ⟨_, rfl⟩
  rw [← eL'] at w1
  have hle : LE7 L L' := by rw [eL']; exact l7_le
  rw [show L 5 0 = L' 5 0 from (hle 5 0 (by decide)).symm]
  refine g_iconst (v := 0) dX4_orderBids_7 (by decide) ?_
  refine g_istore_n dX4_orderBids_8 (by decide) rfl ?_
  have lp_9 : ∀ (f : Nat) (j : Nat) (l : List Nat) (L1 : Nat → Nat → Nat) (cc ss : Nat) (h' : am_H), j ≤ n → n - j < f → WI N n p l L1 Γ o h' → ORD Γ j l → LE7 L L1 → cc ≤ j → ss ≤ 100 * j → am_G k RX4 yX4_orderBids.name cX4_orderBids 3 none cc ss Qf 9 [(1, .int (nI j)), (0, .ref (L1 5 0))] [] h' := by
    intro f
    induction f with
    | zero => intro j l L1 cc ss h' hj hf w' hO hle1 hcc hss; omega
    | succ f ih =>
      intro j l L1 cc ss h' hj hf w' hO hle1 hcc hss
      have hll0 := hO.len
      refine g_iload_n dX4_orderBids_9 rfl ?_
      refine g_aload_n dX4_orderBids_10 rfl ?_
      refine w_getR w' dX4_orderBids_11 fl_X4_12 rfl rfl (by first | rfl | assumption) rfl ?_
      refine g_callV [] dX4_orderBids_14 mc_X4_57 mi_Jx4a65c_size_8abf5 se_Jx4a65c_size_8abf5 (c_size0 hlt w') (w'.k (by first | rfl | assumption)) rfl rfl (Nat.le_of_ble_eq_true rfl) (am_rm hR ⟨by decide, by decide, by show cc + _ ≤ 8; omega, by show ss + _ ≤ 800; omega⟩) (fun _ _ z => z) (fun v hx hq hE => ?_)
      obtain ⟨rfl, rfl⟩ := hq
      refine gN_ge 61 dX4_orderBids_17 (by decide) (by omega) (by omega) (fun c_17 => ?_) (fun c_17 => ?_)
      · skip
        rw [hQ]
        refine g_vret dX4_orderBids_61 rfl (by omega) (by omega) ?_
        have ej : j = n := by omega
        rw [ej] at hO
        exact ⟨l, L1, rfl, hO, hle1, w'⟩
      · skip
        have hdj : wdm n p o 2 j = true := decide_eq_true c_17
        have hdj0 : wdm n p o 0 j = true := decide_eq_true c_17
        refine g_aload_n dX4_orderBids_20 rfl ?_
        refine w_getR w' dX4_orderBids_21 fl_X4_12 rfl rfl (by first | rfl | assumption) rfl ?_
        refine g_iload_n dX4_orderBids_24 rfl ?_
        refine g_callV [_] dX4_orderBids_25 mc_X4_103 mi_Jx4a65c_get_915e3 se_Jx4a65c_get_915e3 (c_get0 hlt w' (by first | assumption | omega)) (w'.k (by first | rfl | assumption)) rfl rfl (Nat.le_of_ble_eq_true rfl) (am_rm hR ⟨by decide, by decide, by show cc + _ ≤ 8; omega, by show ss + _ ≤ 800; omega⟩) (fun _ _ z => z) (fun v hx hq hE => ?_)
        obtain ⟨rfl, rfl⟩ := hq
        refine g_castS (q := (RX1, TX1, 14)) dX4_orderBids_28 kl_X4_66 (w'.k (by first | rfl | assumption)) rfl ?_
        refine g_astore_n dX4_orderBids_31 (by decide) rfl ?_
        refine g_aload_n dX4_orderBids_32 rfl ?_
        refine w_getR w' dX4_orderBids_33 fl_X4_112 rfl rfl (by first | rfl | assumption) rfl ?_
        refine w_getI w' dX4_orderBids_36 fl_X4_116 rfl rfl (by first | rfl | assumption) ?_
        refine g_if_eq 55 dX4_orderBids_39 (by decide) (fun c_39 => ?_) (fun c_39 => ?_)
        · skip
          refine g_iinc dX4_orderBids_55 rfl (nI_i1 _) (by decide) rfl ?_
          refine g_goto 9 dX4_orderBids_58 (by decide) ?_
          refine g_ls [(1, .int (nI (j + 1))), (0, .ref (L1 5 0))] ⟨rfl, rfl, trivial⟩ ?_
          exact ih (j + 1) l L1 _ _ _ (by omega) (by omega) w' (hO.skip c_39) hle1 (by omega) (by omega)
        · skip
          refine g_aload_n dX4_orderBids_42 rfl ?_
          refine w_getR w' dX4_orderBids_43 fl_X4_23 rfl rfl (by first | rfl | assumption) rfl ?_
          refine g_aload_n dX4_orderBids_46 rfl ?_
          refine g_aload_n dX4_orderBids_47 rfl ?_
          refine g_callV [_] dX4_orderBids_48 mc_X4_198 mi_X4_bidsAheadOf se_X4_bidsAheadOf (c_X4_bidsAheadOf hlt w' (by assumption)) (w'.k (by first | rfl | assumption)) rfl rfl (Nat.le_of_ble_eq_true rfl) (am_rm hR ⟨by decide, by decide, by show cc + _ ≤ 8; omega, by show ss + _ ≤ 800; omega⟩) (fun _ _ z => z) (fun v hx hq hE => ?_)
          obtain ⟨rfl, rfl⟩ := hq
          rw [sp_ahead_cnt]
          refine g_aload_n dX4_orderBids_51 rfl ?_
          refine g_callV [_, _] dX4_orderBids_52 mc_X4_230 mi_Jx4a65c_add_7a177 se_Jx4a65c_add_7a177 (c_add7 hlt (w'.la (t := 1) (by decide)) (x := L1 2 j) (Or.inl (w'.k hdj)) (i := l.countP (fun x => ahB Γ x j)) List.countP_le_length) ((w'.k (c := 6) (i := 1) rfl)) rfl rfl (Nat.le_of_ble_eq_true rfl) (am_rm hR ⟨by decide, by decide, by show cc + _ ≤ 8; omega, by show ss + _ ≤ 800; omega⟩) (fun _ _ z => z) (fun v hx hq hE => ?_)
          obtain ⟨rfl, z, g, g1, g2, g3, hAD⟩ := hq
          obtain ⟨b', hLU⟩ := hAD.lu (w'.la (t := 1) (by decide))
          have hk : l.countP (fun x => ahB Γ x j) ≤ l.length := List.countP_le_length
          have hO' := hO.ins c_17 c_39 hd
          have hlen : (ins l (l.countP (fun x => ahB Γ x j)) j).length = l.length + 1 := ins_len hk
          have hll := hO'.len
          have w2 := w'.ordU hLU hlen.symm (fun e he => by have := hO'.2.2 e he; omega) (by omega) (ins_row w' hk g1 g2 g3)
          obtain ⟨L2, eL2⟩ : ∃ L2, L2 = l7 L1 1 b' := ⟨_, rfl⟩
          rw [← eL2] at w2
          have hle2 : LE7 L1 L2 := by rw [eL2]; exact l7_le
          rw [show L1 5 0 = L2 5 0 from (hle2 5 0 (by decide)).symm]
          refine g_iinc dX4_orderBids_55 rfl (nI_i1 _) (by decide) rfl ?_
          refine g_goto 9 dX4_orderBids_58 (by decide) ?_
          refine g_ls [(1, .int (nI (j + 1))), (0, .ref (L2 5 0))] ⟨rfl, rfl, trivial⟩ ?_
          exact ih (j + 1) _ L2 _ _ _ (by omega) (by omega) w2 hO' (hle1.tr hle2) (by omega) (by omega)
  refine g_ls [(1, .int (nI 0)), (0, .ref (L' 5 0))] ⟨rfl, rfl, trivial⟩ ?_
  exact lp_9 (n + 1) 0 [] L' _ _ _ (by omega) (by omega) w1 ORD.nil hle (by decide) (by decide)
set_option maxRecDepth 100000 in
set_option maxHeartbeats 4000000 in
theorem c_X4_close_1 {l : Launch} (hlt : l.stackTraces = false) {N n p : Nat} {ord : List Nat} {L : Nat → Nat → Nat} {Γ : Nat → Nat → Nat → Int32} {o : Nat} {h : am_H} (w : WI N n p ord L Γ o h) (hf : ¬ Γ 5 0 5 = 0) : am_Con l yX4_close (.code yX4_close cX4_close 3 (some .boolean)) 20 1 6 [.ref (L 5 0)] h (fun v h' => False) (fun E h' => E = "java/lang/IllegalStateException" ∧ h' = h) := by
  refine am_body hlt (by decide +kernel) (Nat.le_of_ble_eq_true rfl) (fun k hl hR h0 hno => ?_)
  subst hl
  obtain ⟨Qf, hQ⟩ : ∃ Qf, Qf = am_Q k 1 6 (fun v h' => False) (fun E h' => E = "java/lang/IllegalStateException" ∧ h' = h) := ⟨_, rfl⟩
  rw [← hQ]
  have hm0 : wdm n p o 3 0 = true := rfl
  have hx0 : wdm n p o 5 0 = true := rfl
  have hn8 : n ≤ 8 := w.1.1
  have hp24 : p ≤ 24 := w.1.2.1
  have ho8 : ord.length ≤ 8 := w.1.2.2.2.2
  refine g_aload_n dX4_close_0 rfl ?_
  refine w_getI w dX4_close_1 fl_X4_33 rfl rfl (by first | rfl | assumption) ?_
  refine g_if_eq 17 dX4_close_4 (by decide) (fun z => absurd z hf) (fun c_4 => ?_)
  rw [hQ]
  refine g_throw (text := "no BIDDING") dX4_close_7 dX4_close_10 dX4_close_11 dX4_close_13 dX4_close_16 tw_61 (by simp [am_strs]) hno (by rw [hR]; decide) (by rw [hR]; exact Nat.le_of_ble_eq_true rfl) (by rw [hR]; decide) (by rw [hR]; decide) (by decide) (by decide) ?_
  exact ⟨rfl, rfl⟩
def sp_csets (b : Nat) (Γ : Nat → Nat → Nat → Int32) : Nat → Nat → Nat → Int32 := sp_it (fun j Γ => sp_silent Γ j) b Γ
/-- the class's world when a round is settled -/
def sp_cclose (b : Nat) (Γ : Nat → Nat → Nat → Int32) : Nat → Nat → Nat → Int32 := u3 (sp_csets b Γ) 5 0 6 0
set_option maxRecDepth 100000 in
set_option maxHeartbeats 4000000 in
theorem c_X4_close_0a {l : Launch} (hlt : l.stackTraces = false) {N n p : Nat} {ord : List Nat} {L : Nat → Nat → Nat} {Γ : Nat → Nat → Nat → Int32} {o : Nat} {h : am_H} (w : WI N n p ord L Γ o h) (hf : Γ 5 0 5 = 0) (hd : dst (sp_cclose n Γ) n) {A B : Nat → Nat} (hs : SC (sp_cclose n Γ) n p A B) (hcap : ∀ d, d < n → ¬ (sp_cclose n Γ) 0 d 0 = 0 → 0 ≤ ((sp_cclose n Γ) 0 d 2).toInt ∧ ((sp_cclose n Γ) 0 d 2).toInt ≤ 9999) (ht : Γ 5 0 6 = 0) : am_Con l yX4_close (.code yX4_close cX4_close 3 (some .boolean)) 20 8 800 [.ref (L 5 0)] h (fun v h' => ∃ (ord' : List Nat) (L' : Nat → Nat → Nat) (x : Nat → Int) (G : Nat → Nat → Nat → Int32), v = some (.int 1) ∧ ORD (sp_cclose n Γ) n ord' ∧ LE7 L L' ∧ WI N n p ord' L' (cit 9 Fpay ord' ord'.length G) o h' ∧ CST (cit 7 F7u ord' ord'.length (u3 (sp_cclose n Γ) 5 0 5 1)) G p A B ord' x) (fun _ _ => False) := by
  refine am_body hlt (by decide +kernel) (Nat.le_of_ble_eq_true rfl) (fun k hl hR h0 hno => ?_)
  subst hl
  obtain ⟨Qf, hQ⟩ : ∃ Qf, Qf = am_Q k 8 800 (fun v h' => ∃ (ord' : List Nat) (L' : Nat → Nat → Nat) (x : Nat → Int) (G : Nat → Nat → Nat → Int32), v = some (.int 1) ∧ ORD (sp_cclose n Γ) n ord' ∧ LE7 L L' ∧ WI N n p ord' L' (cit 9 Fpay ord' ord'.length G) o h' ∧ CST (cit 7 F7u ord' ord'.length (u3 (sp_cclose n Γ) 5 0 5 1)) G p A B ord' x) (fun _ _ => False) := ⟨_, rfl⟩
  rw [← hQ]
  have hm0 : wdm n p o 3 0 = true := rfl
  have hx0 : wdm n p o 5 0 = true := rfl
  have hn8 : n ≤ 8 := w.1.1
  have hp24 : p ≤ 24 := w.1.2.1
  have ho8 : ord.length ≤ 8 := w.1.2.2.2.2
  refine g_aload_n dX4_close_0 rfl ?_
  refine w_getI w dX4_close_1 fl_X4_33 rfl rfl (by first | rfl | assumption) ?_
  refine g_if_eq 17 dX4_close_4 (by decide) (fun c_4 => ?_) (fun z => absurd hf z)
  refine g_aload_n dX4_close_17 rfl ?_
  refine w_getI w dX4_close_18 fl_X4_37 rfl rfl (by first | rfl | assumption) ?_
  refine g_if_eq 32 dX4_close_21 (by decide) (fun c_21 => ?_) (fun z => absurd ht z)
  refine g_iconst (v := 1) dX4_close_32 (by decide) ?_
  refine g_goto 37 dX4_close_33 (by decide) ?_
  refine g_istore_n dX4_close_37 (by decide) rfl ?_
  refine g_iconst (v := 0) dX4_close_38 (by decide) ?_
  refine g_istore_n dX4_close_39 (by decide) rfl ?_
  have lp_40 : ∀ (f : Nat) (j : Nat) (h' : am_H), j ≤ n → n - j < f → WI N n p ord L (sp_csets j Γ) o h' → am_G k RX4 yX4_close.name cX4_close 3 (some .boolean) 0 0 Qf 40 [(2, .int (nI j)), (1, .int 1), (0, .ref (L 5 0))] [] h' := by
    intro f
    induction f with
    | zero => intro j h' hj hf9 w'; omega
    | succ f ih =>
      intro j h' hj hf9 w'
      refine g_iload_n dX4_close_40 rfl ?_
      refine g_aload_n dX4_close_41 rfl ?_
      refine w_getR w' dX4_close_42 fl_X4_12 rfl rfl (by first | rfl | assumption) rfl ?_
      refine g_callV [] dX4_close_45 mc_X4_57 mi_Jx4a65c_size_8abf5 se_Jx4a65c_size_8abf5 (c_size0 hlt w') (w'.k (by first | rfl | assumption)) rfl rfl (Nat.le_of_ble_eq_true rfl) (am_rm hR (by decide)) (fun _ _ z => z) (fun v hx hq hE => ?_)
      obtain ⟨rfl, rfl⟩ := hq
      refine gN_ge 71 dX4_close_48 (by decide) (by omega) (by omega) (fun c_48 => ?_) (fun c_48 => ?_)
      · skip
        have ej : j = n := by omega
        rw [ej] at w'
        refine g_aload_n dX4_close_71 rfl ?_
        refine g_iconst (v := 0) dX4_close_72 (by decide) ?_
        refine w_putI w' dX4_close_73 fl_X4_37 rfl rfl (by decide) (fun q hq => by cases hq; rfl) (by first | rfl | assumption) rfl rfl (fun h21 w21 => ?_)
        refine g_aload_n dX4_close_76 rfl ?_
        refine g_callV [] dX4_close_77 mc_X4_137 mi_X4_orderBids se_X4_orderBids (c_X4_orderBids hlt w21 hd) (w21.k (by first | rfl | assumption)) rfl rfl (Nat.le_of_ble_eq_true rfl) (am_rm hR (by decide)) (fun _ _ z => z) (fun v hx hq hE => ?_)
        obtain ⟨ord', L', rfl, hO, hle, w22⟩ := hq
        rw [show L 5 0 = L' 5 0 from (hle 5 0 (by decide)).symm]
        refine g_iload_n dX4_close_80 rfl ?_
        refine g_if_eq 91 dX4_close_81 (by decide) (fun z => absurd z (by decide)) (fun _ => ?_)
        refine g_aload_n dX4_close_84 rfl ?_
        refine g_callV [] dX4_close_85 mc_X4_140 mi_X4_beginFlowing se_X4_beginFlowing (c_X4_beginFlowing hlt w22 hs hO.inj (fun i hi => by have q := hO.mem.mp (od_mem hi); exact hcap _ q.1 q.2)) (w22.k (by first | rfl | assumption)) rfl rfl (Nat.le_of_ble_eq_true rfl) (am_rm hR (by decide)) (fun _ _ z => z) (fun v hx hq hE => ?_)
        obtain ⟨x, G, rfl, w23, hcst⟩ := hq
        refine g_goto 101 dX4_close_88 (by decide) ?_
        refine g_iload_n dX4_close_101 rfl ?_
        rw [hQ]
        refine g_iret dX4_close_102 rfl rfl (by decide) (by decide) ?_
        exact ⟨ord', L', x, G, rfl, hO, hle, w23, hcst⟩
      · skip
        have hdj : wdm n p o 2 j = true := decide_eq_true c_48
        refine g_aload_n dX4_close_51 rfl ?_
        refine w_getR w' dX4_close_52 fl_X4_12 rfl rfl (by first | rfl | assumption) rfl ?_
        refine g_iload_n dX4_close_55 rfl ?_
        refine g_callV [_] dX4_close_56 mc_X4_103 mi_Jx4a65c_get_915e3 se_Jx4a65c_get_915e3 (c_get0 hlt w' (by first | assumption | omega)) (w'.k (by first | rfl | assumption)) rfl rfl (Nat.le_of_ble_eq_true rfl) (am_rm hR (by decide)) (fun _ _ z => z) (fun v hx hq hE => ?_)
        obtain ⟨rfl, rfl⟩ := hq
        refine g_castS (q := (RX1, TX1, 14)) dX4_close_59 kl_X4_66 (w'.k (by first | rfl | assumption)) rfl ?_
        refine g_callV [] dX4_close_62 mc_X4_134 mi_X1_settleRound se_X1_settleRound (c_X1_settleRound hlt w' hdj) (w'.k (by first | rfl | assumption)) rfl rfl (Nat.le_of_ble_eq_true rfl) (am_rm hR (by decide)) (fun _ _ z => z) (fun v hx hq hE => ?_)
        obtain ⟨rfl, w24⟩ := hq
        refine g_iinc dX4_close_65 rfl (nI_i1 _) (by decide) rfl ?_
        refine g_goto 40 dX4_close_68 (by decide) ?_
        refine g_ls [(2, .int (nI (j + 1))), (1, .int 1), (0, .ref (L 5 0))] ⟨rfl, rfl, rfl, trivial⟩ ?_
        exact ih (j + 1) _ (by omega) (by omega) w24
  refine g_ls [(2, .int (nI 0)), (1, .int 1), (0, .ref (L 5 0))] ⟨rfl, rfl, rfl, trivial⟩ ?_
  exact lp_40 (n + 1) 0 _ (by omega) (by omega) w
set_option maxRecDepth 100000 in
set_option maxHeartbeats 4000000 in
theorem c_X4_close_0b {l : Launch} (hlt : l.stackTraces = false) {N n p : Nat} {ord : List Nat} {L : Nat → Nat → Nat} {Γ : Nat → Nat → Nat → Int32} {o : Nat} {h : am_H} (w : WI N n p ord L Γ o h) (hf : Γ 5 0 5 = 0) (hd : dst (sp_cclose n Γ) n) {A B : Nat → Nat} (hs : SC (sp_cclose n Γ) n p A B) (hcap : ∀ d, d < n → ¬ (sp_cclose n Γ) 0 d 0 = 0 → 0 ≤ ((sp_cclose n Γ) 0 d 2).toInt ∧ ((sp_cclose n Γ) 0 d 2).toInt ≤ 9999) (ht : ¬ Γ 5 0 6 = 0) (hr : ¬ Γ 5 0 4 < 4) : am_Con l yX4_close (.code yX4_close cX4_close 3 (some .boolean)) 20 8 800 [.ref (L 5 0)] h (fun v h' => ∃ (ord' : List Nat) (L' : Nat → Nat → Nat) (x : Nat → Int) (G : Nat → Nat → Nat → Int32), v = some (.int 1) ∧ ORD (sp_cclose n Γ) n ord' ∧ LE7 L L' ∧ WI N n p ord' L' (cit 9 Fpay ord' ord'.length G) o h' ∧ CST (cit 7 F7u ord' ord'.length (u3 (sp_cclose n Γ) 5 0 5 1)) G p A B ord' x) (fun _ _ => False) := by
  refine am_body hlt (by decide +kernel) (Nat.le_of_ble_eq_true rfl) (fun k hl hR h0 hno => ?_)
  subst hl
  obtain ⟨Qf, hQ⟩ : ∃ Qf, Qf = am_Q k 8 800 (fun v h' => ∃ (ord' : List Nat) (L' : Nat → Nat → Nat) (x : Nat → Int) (G : Nat → Nat → Nat → Int32), v = some (.int 1) ∧ ORD (sp_cclose n Γ) n ord' ∧ LE7 L L' ∧ WI N n p ord' L' (cit 9 Fpay ord' ord'.length G) o h' ∧ CST (cit 7 F7u ord' ord'.length (u3 (sp_cclose n Γ) 5 0 5 1)) G p A B ord' x) (fun _ _ => False) := ⟨_, rfl⟩
  rw [← hQ]
  have hm0 : wdm n p o 3 0 = true := rfl
  have hx0 : wdm n p o 5 0 = true := rfl
  have hn8 : n ≤ 8 := w.1.1
  have hp24 : p ≤ 24 := w.1.2.1
  have ho8 : ord.length ≤ 8 := w.1.2.2.2.2
  refine g_aload_n dX4_close_0 rfl ?_
  refine w_getI w dX4_close_1 fl_X4_33 rfl rfl (by first | rfl | assumption) ?_
  refine g_if_eq 17 dX4_close_4 (by decide) (fun c_4 => ?_) (fun z => absurd hf z)
  refine g_aload_n dX4_close_17 rfl ?_
  refine w_getI w dX4_close_18 fl_X4_37 rfl rfl (by first | rfl | assumption) ?_
  refine g_if_eq 32 dX4_close_21 (by decide) (fun z => absurd z ht) (fun c_21 => ?_)
  refine g_aload_n dX4_close_24 rfl ?_
  refine w_getI w dX4_close_25 fl_X4_30 rfl rfl (by first | rfl | assumption) ?_
  refine g_iconst (v := 4) dX4_close_28 (by decide) ?_
  refine g_icmp_lt 36 dX4_close_29 (by decide) (fun z => absurd z hr) (fun c_29 => ?_)
  refine g_iconst (v := 1) dX4_close_32 (by decide) ?_
  refine g_goto 37 dX4_close_33 (by decide) ?_
  refine g_istore_n dX4_close_37 (by decide) rfl ?_
  refine g_iconst (v := 0) dX4_close_38 (by decide) ?_
  refine g_istore_n dX4_close_39 (by decide) rfl ?_
  have lp_40 : ∀ (f : Nat) (j : Nat) (h' : am_H), j ≤ n → n - j < f → WI N n p ord L (sp_csets j Γ) o h' → am_G k RX4 yX4_close.name cX4_close 3 (some .boolean) 0 0 Qf 40 [(2, .int (nI j)), (1, .int 1), (0, .ref (L 5 0))] [] h' := by
    intro f
    induction f with
    | zero => intro j h' hj hf9 w'; omega
    | succ f ih =>
      intro j h' hj hf9 w'
      refine g_iload_n dX4_close_40 rfl ?_
      refine g_aload_n dX4_close_41 rfl ?_
      refine w_getR w' dX4_close_42 fl_X4_12 rfl rfl (by first | rfl | assumption) rfl ?_
      refine g_callV [] dX4_close_45 mc_X4_57 mi_Jx4a65c_size_8abf5 se_Jx4a65c_size_8abf5 (c_size0 hlt w') (w'.k (by first | rfl | assumption)) rfl rfl (Nat.le_of_ble_eq_true rfl) (am_rm hR (by decide)) (fun _ _ z => z) (fun v hx hq hE => ?_)
      obtain ⟨rfl, rfl⟩ := hq
      refine gN_ge 71 dX4_close_48 (by decide) (by omega) (by omega) (fun c_48 => ?_) (fun c_48 => ?_)
      · skip
        have ej : j = n := by omega
        rw [ej] at w'
        refine g_aload_n dX4_close_71 rfl ?_
        refine g_iconst (v := 0) dX4_close_72 (by decide) ?_
        refine w_putI w' dX4_close_73 fl_X4_37 rfl rfl (by decide) (fun q hq => by cases hq; rfl) (by first | rfl | assumption) rfl rfl (fun h21 w21 => ?_)
        refine g_aload_n dX4_close_76 rfl ?_
        refine g_callV [] dX4_close_77 mc_X4_137 mi_X4_orderBids se_X4_orderBids (c_X4_orderBids hlt w21 hd) (w21.k (by first | rfl | assumption)) rfl rfl (Nat.le_of_ble_eq_true rfl) (am_rm hR (by decide)) (fun _ _ z => z) (fun v hx hq hE => ?_)
        obtain ⟨ord', L', rfl, hO, hle, w22⟩ := hq
        rw [show L 5 0 = L' 5 0 from (hle 5 0 (by decide)).symm]
        refine g_iload_n dX4_close_80 rfl ?_
        refine g_if_eq 91 dX4_close_81 (by decide) (fun z => absurd z (by decide)) (fun _ => ?_)
        refine g_aload_n dX4_close_84 rfl ?_
        refine g_callV [] dX4_close_85 mc_X4_140 mi_X4_beginFlowing se_X4_beginFlowing (c_X4_beginFlowing hlt w22 hs hO.inj (fun i hi => by have q := hO.mem.mp (od_mem hi); exact hcap _ q.1 q.2)) (w22.k (by first | rfl | assumption)) rfl rfl (Nat.le_of_ble_eq_true rfl) (am_rm hR (by decide)) (fun _ _ z => z) (fun v hx hq hE => ?_)
        obtain ⟨x, G, rfl, w23, hcst⟩ := hq
        refine g_goto 101 dX4_close_88 (by decide) ?_
        refine g_iload_n dX4_close_101 rfl ?_
        rw [hQ]
        refine g_iret dX4_close_102 rfl rfl (by decide) (by decide) ?_
        exact ⟨ord', L', x, G, rfl, hO, hle, w23, hcst⟩
      · skip
        have hdj : wdm n p o 2 j = true := decide_eq_true c_48
        refine g_aload_n dX4_close_51 rfl ?_
        refine w_getR w' dX4_close_52 fl_X4_12 rfl rfl (by first | rfl | assumption) rfl ?_
        refine g_iload_n dX4_close_55 rfl ?_
        refine g_callV [_] dX4_close_56 mc_X4_103 mi_Jx4a65c_get_915e3 se_Jx4a65c_get_915e3 (c_get0 hlt w' (by first | assumption | omega)) (w'.k (by first | rfl | assumption)) rfl rfl (Nat.le_of_ble_eq_true rfl) (am_rm hR (by decide)) (fun _ _ z => z) (fun v hx hq hE => ?_)
        obtain ⟨rfl, rfl⟩ := hq
        refine g_castS (q := (RX1, TX1, 14)) dX4_close_59 kl_X4_66 (w'.k (by first | rfl | assumption)) rfl ?_
        refine g_callV [] dX4_close_62 mc_X4_134 mi_X1_settleRound se_X1_settleRound (c_X1_settleRound hlt w' hdj) (w'.k (by first | rfl | assumption)) rfl rfl (Nat.le_of_ble_eq_true rfl) (am_rm hR (by decide)) (fun _ _ z => z) (fun v hx hq hE => ?_)
        obtain ⟨rfl, w24⟩ := hq
        refine g_iinc dX4_close_65 rfl (nI_i1 _) (by decide) rfl ?_
        refine g_goto 40 dX4_close_68 (by decide) ?_
        refine g_ls [(2, .int (nI (j + 1))), (1, .int 1), (0, .ref (L 5 0))] ⟨rfl, rfl, rfl, trivial⟩ ?_
        exact ih (j + 1) _ (by omega) (by omega) w24
  refine g_ls [(2, .int (nI 0)), (1, .int 1), (0, .ref (L 5 0))] ⟨rfl, rfl, rfl, trivial⟩ ?_
  exact lp_40 (n + 1) 0 _ (by omega) (by omega) w
set_option maxRecDepth 100000 in
set_option maxHeartbeats 4000000 in
theorem c_X4_close_0c {l : Launch} (hlt : l.stackTraces = false) {N n p : Nat} {ord : List Nat} {L : Nat → Nat → Nat} {Γ : Nat → Nat → Nat → Int32} {o : Nat} {h : am_H} (w : WI N n p ord L Γ o h) (hf : Γ 5 0 5 = 0) (hd : dst (sp_cclose n Γ) n) (ht : ¬ Γ 5 0 6 = 0) (hr : Γ 5 0 4 < 4) : am_Con l yX4_close (.code yX4_close cX4_close 3 (some .boolean)) 20 8 800 [.ref (L 5 0)] h (fun v h' => ∃ (ord' : List Nat) (L' : Nat → Nat → Nat), v = some (.int 0) ∧ ORD (sp_cclose n Γ) n ord' ∧ LE7 L L' ∧ WI N n p ord' L' (u3 (sp_cclose n Γ) 5 0 4 ((sp_cclose n Γ) 5 0 4 + 1)) o h') (fun _ _ => False) := by
  refine am_body hlt (by decide +kernel) (Nat.le_of_ble_eq_true rfl) (fun k hl hR h0 hno => ?_)
  subst hl
  obtain ⟨Qf, hQ⟩ : ∃ Qf, Qf = am_Q k 8 800 (fun v h' => ∃ (ord' : List Nat) (L' : Nat → Nat → Nat), v = some (.int 0) ∧ ORD (sp_cclose n Γ) n ord' ∧ LE7 L L' ∧ WI N n p ord' L' (u3 (sp_cclose n Γ) 5 0 4 ((sp_cclose n Γ) 5 0 4 + 1)) o h') (fun _ _ => False) := ⟨_, rfl⟩
  rw [← hQ]
  have hm0 : wdm n p o 3 0 = true := rfl
  have hx0 : wdm n p o 5 0 = true := rfl
  have hn8 : n ≤ 8 := w.1.1
  have hp24 : p ≤ 24 := w.1.2.1
  have ho8 : ord.length ≤ 8 := w.1.2.2.2.2
  refine g_aload_n dX4_close_0 rfl ?_
  refine w_getI w dX4_close_1 fl_X4_33 rfl rfl (by first | rfl | assumption) ?_
  refine g_if_eq 17 dX4_close_4 (by decide) (fun c_4 => ?_) (fun z => absurd hf z)
  refine g_aload_n dX4_close_17 rfl ?_
  refine w_getI w dX4_close_18 fl_X4_37 rfl rfl (by first | rfl | assumption) ?_
  refine g_if_eq 32 dX4_close_21 (by decide) (fun z => absurd z ht) (fun c_21 => ?_)
  refine g_aload_n dX4_close_24 rfl ?_
  refine w_getI w dX4_close_25 fl_X4_30 rfl rfl (by first | rfl | assumption) ?_
  refine g_iconst (v := 4) dX4_close_28 (by decide) ?_
  refine g_icmp_lt 36 dX4_close_29 (by decide) (fun c_29 => ?_) (fun z => absurd hr z)
  refine g_iconst (v := 0) dX4_close_36 (by decide) ?_
  refine g_istore_n dX4_close_37 (by decide) rfl ?_
  refine g_iconst (v := 0) dX4_close_38 (by decide) ?_
  refine g_istore_n dX4_close_39 (by decide) rfl ?_
  have lp_40 : ∀ (f : Nat) (j : Nat) (h' : am_H), j ≤ n → n - j < f → WI N n p ord L (sp_csets j Γ) o h' → am_G k RX4 yX4_close.name cX4_close 3 (some .boolean) 0 0 Qf 40 [(2, .int (nI j)), (1, .int 0), (0, .ref (L 5 0))] [] h' := by
    intro f
    induction f with
    | zero => intro j h' hj hf9 w'; omega
    | succ f ih =>
      intro j h' hj hf9 w'
      refine g_iload_n dX4_close_40 rfl ?_
      refine g_aload_n dX4_close_41 rfl ?_
      refine w_getR w' dX4_close_42 fl_X4_12 rfl rfl (by first | rfl | assumption) rfl ?_
      refine g_callV [] dX4_close_45 mc_X4_57 mi_Jx4a65c_size_8abf5 se_Jx4a65c_size_8abf5 (c_size0 hlt w') (w'.k (by first | rfl | assumption)) rfl rfl (Nat.le_of_ble_eq_true rfl) (am_rm hR (by decide)) (fun _ _ z => z) (fun v hx hq hE => ?_)
      obtain ⟨rfl, rfl⟩ := hq
      refine gN_ge 71 dX4_close_48 (by decide) (by omega) (by omega) (fun c_48 => ?_) (fun c_48 => ?_)
      · skip
        have ej : j = n := by omega
        rw [ej] at w'
        refine g_aload_n dX4_close_71 rfl ?_
        refine g_iconst (v := 0) dX4_close_72 (by decide) ?_
        refine w_putI w' dX4_close_73 fl_X4_37 rfl rfl (by decide) (fun q hq => by cases hq; rfl) (by first | rfl | assumption) rfl rfl (fun h21 w21 => ?_)
        refine g_aload_n dX4_close_76 rfl ?_
        refine g_callV [] dX4_close_77 mc_X4_137 mi_X4_orderBids se_X4_orderBids (c_X4_orderBids hlt w21 hd) (w21.k (by first | rfl | assumption)) rfl rfl (Nat.le_of_ble_eq_true rfl) (am_rm hR (by decide)) (fun _ _ z => z) (fun v hx hq hE => ?_)
        obtain ⟨ord', L', rfl, hO, hle, w22⟩ := hq
        rw [show L 5 0 = L' 5 0 from (hle 5 0 (by decide)).symm]
        refine g_iload_n dX4_close_80 rfl ?_
        refine g_if_eq 91 dX4_close_81 (by decide) (fun _ => ?_) (fun z => absurd z (by decide))
        refine g_aload_n dX4_close_91 rfl ?_
        refine g_dup dX4_close_92 rfl ?_
        refine w_getI w22 dX4_close_93 fl_X4_30 rfl rfl (by first | rfl | assumption) ?_
        refine g_iconst (v := 1) dX4_close_96 (by decide) ?_
        refine g_iadd dX4_close_97 ?_
        refine w_putI w22 dX4_close_98 fl_X4_30 rfl rfl (by decide) (fun q hq => by cases hq; rfl) (by first | rfl | assumption) rfl rfl (fun h23 w23 => ?_)
        refine g_iload_n dX4_close_101 rfl ?_
        rw [hQ]
        refine g_iret dX4_close_102 rfl rfl (by decide) (by decide) ?_
        exact ⟨ord', L', rfl, hO, hle, w23⟩
      · skip
        have hdj : wdm n p o 2 j = true := decide_eq_true c_48
        refine g_aload_n dX4_close_51 rfl ?_
        refine w_getR w' dX4_close_52 fl_X4_12 rfl rfl (by first | rfl | assumption) rfl ?_
        refine g_iload_n dX4_close_55 rfl ?_
        refine g_callV [_] dX4_close_56 mc_X4_103 mi_Jx4a65c_get_915e3 se_Jx4a65c_get_915e3 (c_get0 hlt w' (by first | assumption | omega)) (w'.k (by first | rfl | assumption)) rfl rfl (Nat.le_of_ble_eq_true rfl) (am_rm hR (by decide)) (fun _ _ z => z) (fun v hx hq hE => ?_)
        obtain ⟨rfl, rfl⟩ := hq
        refine g_castS (q := (RX1, TX1, 14)) dX4_close_59 kl_X4_66 (w'.k (by first | rfl | assumption)) rfl ?_
        refine g_callV [] dX4_close_62 mc_X4_134 mi_X1_settleRound se_X1_settleRound (c_X1_settleRound hlt w' hdj) (w'.k (by first | rfl | assumption)) rfl rfl (Nat.le_of_ble_eq_true rfl) (am_rm hR (by decide)) (fun _ _ z => z) (fun v hx hq hE => ?_)
        obtain ⟨rfl, w24⟩ := hq
        refine g_iinc dX4_close_65 rfl (nI_i1 _) (by decide) rfl ?_
        refine g_goto 40 dX4_close_68 (by decide) ?_
        refine g_ls [(2, .int (nI (j + 1))), (1, .int 0), (0, .ref (L 5 0))] ⟨rfl, rfl, rfl, trivial⟩ ?_
        exact ih (j + 1) _ (by omega) (by omega) w24
  refine g_ls [(2, .int (nI 0)), (1, .int 0), (0, .ref (L 5 0))] ⟨rfl, rfl, rfl, trivial⟩ ?_
  exact lp_40 (n + 1) 0 _ (by omega) (by omega) w
def sp_cs1 (k : Nat) (Γ : Nat → Nat → Nat → Int32) : Nat → Nat → Nat → Int32 := sp_store (u3 Γ 5 0 8 (Γ 5 0 8 + Γ 2 k 8)) k
def sp_cend (k : Nat) (Γ : Nat → Nat → Nat → Int32) : Nat → Nat → Nat → Int32 := u3 (u3 (sp_take (sp_cs1 k Γ) k) 0 k 0 0) 2 k 8 0
def sp_clk (k : Nat) (Γ : Nat → Nat → Nat → Int32) : Int32 := if sp_cs1 k Γ 2 k 2 - sp_min (sp_cs1 k Γ 2 k 2) (sp_cs1 k Γ 2 k 3) ≤ 0 then 0 else 1
def sp_cends (b : Nat) (Γ : Nat → Nat → Nat → Int32) : Nat → Nat → Nat → Int32 := sp_it sp_cend b Γ
set_option maxRecDepth 100000 in
set_option maxHeartbeats 4000000 in
theorem c_X4_end_1 {l : Launch} (hlt : l.stackTraces = false) {N n p : Nat} {ord : List Nat} {L : Nat → Nat → Nat} {Γ : Nat → Nat → Nat → Int32} {o : Nat} {h : am_H} (w : WI N n p ord L Γ o h) (hf : ¬ Γ 5 0 5 = 0 → ¬ Γ 5 0 3 < 1000) : am_Con l yX4_end (.code yX4_end cX4_end 4 (some .int)) 20 1 6 [.ref (L 5 0)] h (fun v h' => False) (fun E h' => E = "java/lang/IllegalStateException" ∧ h' = h) := by
  refine am_body hlt (by decide +kernel) (Nat.le_of_ble_eq_true rfl) (fun k hl hR h0 hno => ?_)
  subst hl
  obtain ⟨Qf, hQ⟩ : ∃ Qf, Qf = am_Q k 1 6 (fun v h' => False) (fun E h' => E = "java/lang/IllegalStateException" ∧ h' = h) := ⟨_, rfl⟩
  rw [← hQ]
  have hm0 : wdm n p o 3 0 = true := rfl
  have hx0 : wdm n p o 5 0 = true := rfl
  have hn8 : n ≤ 8 := w.1.1
  have hp24 : p ≤ 24 := w.1.2.1
  have ho8 : ord.length ≤ 8 := w.1.2.2.2.2
  refine g_aload_n dX4_end_0 rfl ?_
  refine w_getI w dX4_end_1 fl_X4_33 rfl rfl (by first | rfl | assumption) ?_
  refine g_if_eq 17 dX4_end_4 (by decide) (fun c_4 => ?_) (fun c_4 => ?_)
  · skip
    rw [hQ]
    refine g_throw (text := "there is BIDDING, or the hour would be above 1000") dX4_end_17 dX4_end_20 dX4_end_21 dX4_end_23 dX4_end_26 tw_61 (by simp [am_strs]) hno (by rw [hR]; decide) (by rw [hR]; exact Nat.le_of_ble_eq_true rfl) (by rw [hR]; decide) (by rw [hR]; decide) (by decide) (by decide) ?_
    exact ⟨rfl, rfl⟩
  · skip
    refine g_aload_n dX4_end_7 rfl ?_
    refine w_getI w dX4_end_8 fl_X4_26 rfl rfl (by first | rfl | assumption) ?_
    refine g_sipush (v := 1000) dX4_end_11 (by decide) ?_
    refine g_icmp_lt 27 dX4_end_14 (by decide) (fun z => absurd z (hf c_4)) (fun c_14 => ?_)
    rw [hQ]
    refine g_throw (text := "there is BIDDING, or the hour would be above 1000") dX4_end_17 dX4_end_20 dX4_end_21 dX4_end_23 dX4_end_26 tw_61 (by simp [am_strs]) hno (by rw [hR]; decide) (by rw [hR]; exact Nat.le_of_ble_eq_true rfl) (by rw [hR]; decide) (by rw [hR]; decide) (by decide) (by decide) ?_
    exact ⟨rfl, rfl⟩
set_option maxRecDepth 100000 in
set_option maxHeartbeats 4000000 in
theorem c_X4_end_0 {l : Launch} (hlt : l.stackTraces = false) {N n p : Nat} {ord : List Nat} {L : Nat → Nat → Nat} {Γ : Nat → Nat → Nat → Int32} {o : Nat} {h : am_H} (w : WI N n p ord L Γ o h) (hf : ¬ Γ 5 0 5 = 0) (hh : Γ 5 0 3 < 1000) : am_Con l yX4_end (.code yX4_end cX4_end 4 (some .int)) 20 0 0 [.ref (L 5 0)] h (fun v h' => v = some (.int (sp_sum (fun k => sp_clk k (sp_cends k Γ)) n)) ∧ ∃ L' : Nat → Nat → Nat, LE7 L L' ∧ WI N n p [] L' (u3 (u3 (u3 (sp_cends n Γ) 5 0 5 0) 5 0 4 0) 5 0 3 (sp_cends n Γ 5 0 3 + 1)) o h') (fun _ _ => False) := by
  refine am_body hlt (by decide +kernel) (Nat.le_of_ble_eq_true rfl) (fun k hl hR h0 hno => ?_)
  subst hl
  obtain ⟨Qf, hQ⟩ : ∃ Qf, Qf = am_Q k 0 0 (fun v h' => v = some (.int (sp_sum (fun k => sp_clk k (sp_cends k Γ)) n)) ∧ ∃ L' : Nat → Nat → Nat, LE7 L L' ∧ WI N n p [] L' (u3 (u3 (u3 (sp_cends n Γ) 5 0 5 0) 5 0 4 0) 5 0 3 (sp_cends n Γ 5 0 3 + 1)) o h') (fun _ _ => False) := ⟨_, rfl⟩
  rw [← hQ]
  have hm0 : wdm n p o 3 0 = true := rfl
  have hx0 : wdm n p o 5 0 = true := rfl
  have hn8 : n ≤ 8 := w.1.1
  have hp24 : p ≤ 24 := w.1.2.1
  have ho8 : ord.length ≤ 8 := w.1.2.2.2.2
  refine g_aload_n dX4_end_0 rfl ?_
  refine w_getI w dX4_end_1 fl_X4_33 rfl rfl (by first | rfl | assumption) ?_
  refine g_if_eq 17 dX4_end_4 (by decide) (fun z => absurd z hf) (fun c_4 => ?_)
  refine g_aload_n dX4_end_7 rfl ?_
  refine w_getI w dX4_end_8 fl_X4_26 rfl rfl (by first | rfl | assumption) ?_
  refine g_sipush (v := 1000) dX4_end_11 (by decide) ?_
  refine g_icmp_lt 27 dX4_end_14 (by decide) (fun c_14 => ?_) (fun z => absurd hh z)
  refine g_iconst (v := 0) dX4_end_27 (by decide) ?_
  refine g_istore_n dX4_end_28 (by decide) rfl ?_
  refine g_iconst (v := 0) dX4_end_29 (by decide) ?_
  refine g_istore_n dX4_end_30 (by decide) rfl ?_
  have lp_31 : ∀ (f : Nat) (j : Nat) (x : Int32) (h' : am_H), j ≤ n → n - j < f → x = sp_sum (fun k => sp_clk k (sp_cends k Γ)) j → WI N n p ord L (sp_cends j Γ) o h' → am_G k RX4 yX4_end.name cX4_end 4 (some .int) 0 0 Qf 31 [(2, .int (nI j)), (1, .int x), (0, .ref (L 5 0))] [] h' := by
    intro f
    induction f with
    | zero => intro j x h' hj hf9 ex w'; omega
    | succ f ih =>
      intro j x h' hj hf9 ex w'
      refine g_iload_n dX4_end_31 rfl ?_
      refine g_aload_n dX4_end_32 rfl ?_
      refine w_getR w' dX4_end_33 fl_X4_12 rfl rfl (by first | rfl | assumption) rfl ?_
      refine g_callV [] dX4_end_36 mc_X4_57 mi_Jx4a65c_size_8abf5 se_Jx4a65c_size_8abf5 (c_size0 hlt w') (w'.k (by first | rfl | assumption)) rfl rfl (Nat.le_of_ble_eq_true rfl) (am_rm hR (by decide)) (fun _ _ z => z) (fun v hx hq hE => ?_)
      obtain ⟨rfl, rfl⟩ := hq
      refine gN_ge 91 dX4_end_39 (by decide) (by omega) (by omega) (fun c_39 => ?_) (fun c_39 => ?_)
      · skip
        have ej : j = n := by omega
        rw [ej] at w' ex
        refine g_aload_n dX4_end_91 rfl ?_
        refine w_getR w' dX4_end_92 fl_X4_23 rfl rfl (by first | rfl | assumption) rfl ?_
        refine g_callV [] dX4_end_95 mc_X4_172 mi_Jx4a65c_clear_da8c8 se_Jx4a65c_clear_da8c8 (c_clear hlt (w'.la (t := 1) (by decide))) ((w'.k (c := 6) (i := 1) rfl)) rfl rfl (Nat.le_of_ble_eq_true rfl) (am_rm hR (by decide)) (fun _ _ z => z) (fun v hx hq hE => ?_)
        obtain ⟨rfl, z, g, rfl⟩ := hq
        have w9 := w'.ordU (LU.clear (z := z) (g := g) (g' := fun _ => none) (w'.la (t := 1) (by decide))) (ord' := []) rfl (fun e he => by cases he) (Nat.zero_le _) (fun j hj => absurd hj (Nat.not_lt_zero _))
        obtain ⟨L', eL'⟩ : ∃ L', L' = l7 L 1 (L 7 1) := ⟨_, rfl⟩
        rw [← eL'] at w9
        have hle : LE7 L L' := by rw [eL']; exact l7_le
        rw [show L 5 0 = L' 5 0 from (hle 5 0 (by decide)).symm]
        have w21 := w9
        refine g_aload_n dX4_end_98 rfl ?_
        refine g_iconst (v := 0) dX4_end_99 (by decide) ?_
        refine w_putI w21 dX4_end_100 fl_X4_33 rfl rfl (by decide) (fun q hq => by cases hq; rfl) (by first | rfl | assumption) rfl rfl (fun h22 w22 => ?_)
        refine g_aload_n dX4_end_103 rfl ?_
        refine g_iconst (v := 0) dX4_end_104 (by decide) ?_
        refine w_putI w22 dX4_end_105 fl_X4_30 rfl rfl (by decide) (fun q hq => by cases hq; rfl) (by first | rfl | assumption) rfl rfl (fun h23 w23 => ?_)
        refine g_aload_n dX4_end_108 rfl ?_
        refine g_dup dX4_end_109 rfl ?_
        refine w_getI w23 dX4_end_110 fl_X4_26 rfl rfl (by first | rfl | assumption) ?_
        refine g_iconst (v := 1) dX4_end_113 (by decide) ?_
        refine g_iadd dX4_end_114 ?_
        refine w_putI w23 dX4_end_115 fl_X4_26 rfl rfl (by decide) (fun q hq => by cases hq; rfl) (by first | rfl | assumption) rfl rfl (fun h24 w24 => ?_)
        refine g_iload_n dX4_end_118 rfl ?_
        rw [hQ]
        refine g_iret dX4_end_119 rfl rfl (by decide) (by decide) ?_
        exact ⟨by rw [ex], L', hle, w24⟩
      · skip
        have hdj : wdm n p o 2 j = true := decide_eq_true c_39
        have hdj0 : wdm n p o 0 j = true := decide_eq_true c_39
        refine g_aload_n dX4_end_42 rfl ?_
        refine w_getR w' dX4_end_43 fl_X4_12 rfl rfl (by first | rfl | assumption) rfl ?_
        refine g_iload_n dX4_end_46 rfl ?_
        refine g_callV [_] dX4_end_47 mc_X4_103 mi_Jx4a65c_get_915e3 se_Jx4a65c_get_915e3 (c_get0 hlt w' (by first | assumption | omega)) (w'.k (by first | rfl | assumption)) rfl rfl (Nat.le_of_ble_eq_true rfl) (am_rm hR (by decide)) (fun _ _ z => z) (fun v hx hq hE => ?_)
        obtain ⟨rfl, rfl⟩ := hq
        refine g_castS (q := (RX1, TX1, 14)) dX4_end_50 kl_X4_66 (w'.k (by first | rfl | assumption)) rfl ?_
        refine g_astore_n dX4_end_53 (by decide) rfl ?_
        refine g_aload_n dX4_end_54 rfl ?_
        refine g_dup dX4_end_55 rfl ?_
        refine w_getI w' dX4_end_56 fl_X4_43 rfl rfl (by first | rfl | assumption) ?_
        refine g_aload_n dX4_end_59 rfl ?_
        refine w_getI w' dX4_end_60 fl_X4_160 rfl rfl (by first | rfl | assumption) ?_
        refine g_iadd dX4_end_63 ?_
        refine w_putI w' dX4_end_64 fl_X4_43 rfl rfl (by decide) (fun q hq => by cases hq; rfl) (by first | rfl | assumption) rfl rfl (fun h25 w25 => ?_)
        refine g_aload_n dX4_end_67 rfl ?_
        refine g_callV [] dX4_end_68 mc_X4_163 mi_X1_store se_X1_store (c_X1_store hlt w25 hdj) (w25.k (by first | rfl | assumption)) rfl rfl (Nat.le_of_ble_eq_true rfl) (am_rm hR (by decide)) (fun _ _ z => z) (fun v hx hq hE => ?_)
        obtain ⟨rfl, w26⟩ := hq
        refine g_aload_n dX4_end_71 rfl ?_
        refine g_callV [] dX4_end_72 mc_X4_166 mi_X1_takeNeed se_X1_takeNeed (c_X1_takeNeed hlt w26 hdj) (w26.k (by first | rfl | assumption)) rfl rfl (Nat.le_of_ble_eq_true rfl) (am_rm hR (by decide)) (fun _ _ z => z) (fun v hx hq hE => ?_)
        obtain ⟨rfl, w27⟩ := hq
        refine g_if_le 81 dX4_end_75 (by decide) (fun c_75 => ?_) (fun c_75 => ?_)
        · skip
          refine g_aload_n dX4_end_81 rfl ?_
          refine g_callV [] dX4_end_82 mc_X4_169 mi_X1_beginHour se_X1_beginHour (c_X1_beginHour hlt w27 hdj) (w27.k (by first | rfl | assumption)) rfl rfl (Nat.le_of_ble_eq_true rfl) (am_rm hR (by decide)) (fun _ _ z => z) (fun v hx hq hE => ?_)
          obtain ⟨rfl, w28⟩ := hq
          refine g_iinc dX4_end_85 rfl (nI_i1 _) (by decide) rfl ?_
          refine g_goto 31 dX4_end_88 (by decide) ?_
          refine g_ls [(2, .int (nI (j + 1))), (1, .int x), (0, .ref (L 5 0))] ⟨rfl, rfl, rfl, trivial⟩ ?_
          refine ih (j + 1) _ _ (by omega) (by omega) (by rw [ex]; show _ = sp_sum (fun k => sp_clk k (sp_cends k Γ)) j + sp_clk j (sp_cends j Γ); rw [show sp_clk j (sp_cends j Γ) = 0 from if_pos c_75]; exact (Int32.add_zero _).symm) w28
        · skip
          refine g_iinc dX4_end_78 rfl rfl (by decide) rfl ?_
          refine g_aload_n dX4_end_81 rfl ?_
          refine g_callV [] dX4_end_82 mc_X4_169 mi_X1_beginHour se_X1_beginHour (c_X1_beginHour hlt w27 hdj) (w27.k (by first | rfl | assumption)) rfl rfl (Nat.le_of_ble_eq_true rfl) (am_rm hR (by decide)) (fun _ _ z => z) (fun v hx hq hE => ?_)
          obtain ⟨rfl, w29⟩ := hq
          refine g_iinc dX4_end_85 rfl (nI_i1 _) (by decide) rfl ?_
          refine g_goto 31 dX4_end_88 (by decide) ?_
          refine g_ls [(2, .int (nI (j + 1))), (1, .int _), (0, .ref (L 5 0))] ⟨rfl, rfl, rfl, trivial⟩ ?_
          refine ih (j + 1) _ _ (by omega) (by omega) (by rw [ex]; show _ = sp_sum (fun k => sp_clk k (sp_cends k Γ)) j + sp_clk j (sp_cends j Γ); rw [show sp_clk j (sp_cends j Γ) = 1 from if_neg c_75]; rfl) w29
  refine g_ls [(2, .int (nI 0)), (1, .int 0), (0, .ref (L 5 0))] ⟨rfl, rfl, rfl, trivial⟩ ?_
  exact lp_31 (n + 1) 0 0 _ (by omega) (by omega) rfl w
