section SND
variable {T n p : Nat} {A B : Nat → Nat} {ord : List Nat} {Γ : Nat → Nat → Nat → Int32} {m : Nat} {y : Int32}
theorem plc_nn (hc : CI T n p A B ord Γ) (hn : n ≤ 8) {d : Nat} (hd : d < n) (z : ¬ Γ 0 d 0 = 0) : 0 ≤ plc Γ ord d := by
  have hl := hc.2.2.2.2.1.len
  obtain ⟨t, ht, rfl⟩ := od_ex (hc.2.2.2.2.1.mem.mpr ⟨hd, z⟩)
  rw [plc_od hc ht]
  exact Int32.not_lt.mp (nI_pos (by omega))
theorem plc_st {d : Nat} (h : 0 ≤ plc Γ ord d) : ¬ Γ 0 d 0 = 0 := fun z => by
  rw [plc_no z] at h
  exact absurd h (by decide)
theorem prc_nn (hc : CI T n p A B ord Γ) {d : Nat} (hd : d < n) (z : ¬ Γ 0 d 0 = 0) : prc Γ d = Γ 0 d 1 ∧ 0 ≤ (prc Γ d).toInt ∧ (prc Γ d).toInt ≤ 99 ∧ ¬ prc Γ d = -1 := by
  have e : prc Γ d = Γ 0 d 1 := if_neg z
  have q := ((hc.2.1 d hd).2.1 z).1
  refine ⟨e, by rw [e]; exact q.1, by rw [e]; exact q.2, fun y => ?_⟩
  rw [← e, y, I_m1] at q
  omega
theorem unt_nn (hc : CI T n p A B ord Γ) {d : Nat} (hd : d < n) (z : ¬ Γ 0 d 0 = 0) : unt Γ d = Γ 0 d 2 ∧ ¬ unt Γ d = -1 := by
  have e : unt Γ d = Γ 0 d 2 := if_neg z
  have q := ((hc.2.1 d hd).2.1 z).2.1
  refine ⟨e, fun y => ?_⟩
  rw [← e, y, I_m1] at q
  omega
theorem two_pl (hc : CI T n p A B ord Γ) {i j : Nat} (hi : i < n) (hj : j < n) (hij : ¬ i = j) (zi : ¬ Γ 0 i 0 = 0) (zj : ¬ Γ 0 j 0 = 0) : ∃ a b, a < ord.length ∧ b < ord.length ∧ od ord a = i ∧ od ord b = j ∧ plc Γ ord i = nI a ∧ plc Γ ord j = nI b ∧ ¬ a = b := by
  obtain ⟨a, ha, rfl⟩ := od_ex (hc.2.2.2.2.1.mem.mpr ⟨hi, zi⟩)
  obtain ⟨b, hb, rfl⟩ := od_ex (hc.2.2.2.2.1.mem.mpr ⟨hj, zj⟩)
  exact ⟨a, b, ha, hb, rfl, rfl, plc_od hc ha, plc_od hc hb, fun e => hij (by rw [e])⟩
theorem by_I (hc : CI T n p A B ord Γ) {i j : Nat} (hi : i < n) (hj : j < n) (zi : ¬ Γ 0 i 0 = 0) (zj : ¬ Γ 0 j 0 = 0) : (prc Γ i - prc Γ j).toInt = (Γ 0 i 1).toInt - (Γ 0 j 1).toInt := by
  obtain ⟨e1, a1, a2, -⟩ := prc_nn hc hi zi
  obtain ⟨e2, b1, b2, -⟩ := prc_nn hc hj zj
  rw [tI_sub (by omega) (by omega), e1, e2]
/-- those ahead don't bid less, those behind no more -/
theorem snd_by (hc : CI T n p A B ord Γ) (hn : n ≤ 8) {i j : Nat} (hi : i < n) (hj : j < n) (hij : ¬ i = j) (zi : ¬ Γ 0 i 0 = 0) (zj : ¬ Γ 0 j 0 = 0) : (plc Γ ord i < plc Γ ord j → ¬ prc Γ i - prc Γ j < 0) ∧ (¬ plc Γ ord i < plc Γ ord j → ¬ plc Γ ord i ≤ plc Γ ord j ∧ ¬ 0 < prc Γ i - prc Γ j) := by
  have hl := hc.2.2.2.2.1.len
  obtain ⟨a, b, ha, hb, ea, eb, pa, pb, hab⟩ := two_pl hc hi hj hij zi zj
  have hby := by_I hc hi hj zi zj
  rw [pa, pb]
  refine ⟨fun z => ?_, fun z => ⟨fun y => ?_, fun y => ?_⟩⟩
  · have := (nI_ltI (by omega) (by omega)).mp z
    have q := hc.2.2.2.2.1.2.1 a b this hb
    unfold ahd at q
    rw [ea, eb] at q
    intro y
    have := Int32.lt_iff_toInt_lt.mp y
    rw [tI_0] at this
    omega
  · have h1 : ¬ a < b := fun q => z ((nI_ltI (by omega) (by omega)).mpr q)
    have h2 := (nI_leI (by omega) (by omega)).mp y
    omega
  · have h1 : ¬ a < b := fun q => z ((nI_ltI (by omega) (by omega)).mpr q)
    have q := hc.2.2.2.2.1.2.1 b a (by omega) ha
    unfold ahd at q
    rw [ea, eb] at q
    have := Int32.lt_iff_toInt_lt.mp y
    rw [tI_0] at this
    omega
theorem got_one (hc : CI T n p A B ord Γ) (hn : n ≤ 8) {d : Nat} (hd : d < n) (hm : MO n p A B Γ (2 ^ d) y) : ¬ y < Γ 2 d 8 := fun q => by
  have := Int32.lt_iff_toInt_lt.mp q
  by_cases z : Γ 0 d 0 = 0
  · rw [(hc.2.1 d hd).2.2.2.1 z, tI_0] at this
    have := hm.nn hc
    omega
  · obtain ⟨t, ht, rfl⟩ := od_ex (hc.2.2.2.2.1.mem.mpr ⟨hd, z⟩)
    have h1 := hm.one hc hn ht ((od_bit _).mpr rfl)
    unfold gotI at h1
    omega
theorem got_sum (hc : CI T n p A B ord Γ) : ∀ k, k ≤ ord.length → k ≤ 8 → (sp_sum (fun i => Γ 2 (od ord i) 8) k).toInt = zs (gotI Γ ord) k ∧ 0 ≤ zs (gotI Γ ord) k ∧ zs (gotI Γ ord) k ≤ 999 * k
  | 0, _, _ => ⟨tI_0, Int.le_refl _, Int.le_refl _⟩
  | k + 1, h1, h2 => by
    obtain ⟨a, b, c⟩ := got_sum hc k (by omega) (by omega)
    have q := (hc.2.1 _ (hc.st (show k < ord.length by omega)).1).2.2.2.2.1
    have e : zs (gotI Γ ord) (k + 1) = zs (gotI Γ ord) k + (Γ 2 (od ord k) 8).toInt := rfl
    refine ⟨?_, by omega, by omega⟩
    show (sp_sum (fun i => Γ 2 (od ord i) 8) k + Γ 2 (od ord k) 8).toInt = _
    rw [tI_add (by omega) (by omega), a, e]
theorem got_all (hc : CI T n p A B ord Γ) (hn : n ≤ 8) (hm : MO n p A B Γ (2 ^ n - 1) y) : ¬ y < sp_sum (fun d => Γ 2 d 8) n := fun q => by
  have hl := hc.2.2.2.2.1.len
  have := Int32.lt_iff_toInt_lt.mp q
  rw [← sum_od (f := fun d => Γ 2 d 8) (fun i hi => (hc.st hi).1) hc.2.2.2.2.1.inj (fun d hd hne => ?_), (got_sum hc ord.length (Nat.le_refl _) (by omega)).1] at this
  · have h1 := hm.pre hc hn (t := ord.length) (Nat.le_refl _) (fun i hi => by
      rw [Nat.testBit_two_pow_sub_one]
      exact decide_eq_true (hc.st hi).1)
    omega
  · refine (hc.2.1 d hd).2.2.2.1 ?_
    by_cases z : Γ 0 d 0 = 0
    · exact z
    · obtain ⟨t, ht, e⟩ := od_ex (hc.2.2.2.2.1.mem.mpr ⟨hd, z⟩)
      exact absurd e.symm (hne t ht)
theorem most_0 (hc : CI T n p A B ord Γ) (hm : MO n p A B Γ 0 y) : y = 0 := by
  obtain ⟨x, e, hs⟩ := hm
  refine Int32.toInt_inj.mp ?_
  rw [e, tI_0]
  refine (zs_congr n fun i hi => ?_).trans (zs_0 n)
  have q := (SEQ.pos hc.1.2.2.2.2.1.1 n hs).1 i hi
  have c0 : (if (0 : Nat).testBit i = true then (9999 : Int) else 0) = 0 := by rw [Nat.zero_testBit]; rfl
  have q2 : x i ≤ (if (0 : Nat).testBit i = true then (9999 : Int) else 0) := q.2
  rw [c0] at q2
  omega
theorem stand_n (hc : CI T n p A B ord Γ) : nI ord.length = sp_sum (fun d => if Γ 0 d 0 = 0 then (0 : Int32) else 1) n := by
  have h1 := hc.2.2.2.2.1.1 (fun _ => true)
  rw [List.countP_true] at h1
  rw [h1]
  refine (sp_sum_cnt n fun j hj => ?_).symm
  by_cases c : Γ 0 j 0 = 0
  · rw [if_pos c, if_neg]
    unfold stB
    simp [c]
  · rw [if_neg c, if_pos]
    unfold stB
    simp [c]
theorem I_pow : ∀ n, n < 9 → nI (2 ^ n) - nI 1 = nI (2 ^ n - 1) := by decide +kernel
end SND
set_option maxRecDepth 100000 in
set_option maxHeartbeats 4000000 in
theorem c_isSound {l : Launch} (hlt : l.stackTraces = false) {N n p : Nat} {ord : List Nat} {L : Nat → Nat → Nat} {Γ : Nat → Nat → Nat → Int32} {h : am_H} (w : VW N n p ord L Γ 4 h) {T : Nat} {A B : Nat → Nat} (hc : CI T n p A B ord Γ) (la : LT n p Γ) : am_Con l yL_isSound (.code yL_isSound cL_isSound 17 (some .boolean)) 30 1 6 [.ref (L 5 0), .ref (L 13 0), .ref (L 13 1), .ref (L 13 2), .ref (L 13 3)] h (fun v h' => v = some (.int 1) ∧ VW N n p ord L Γ 4 h') (fun _ _ => False) := by
  refine am_body hlt (by decide +kernel) (Nat.le_of_ble_eq_true rfl) (fun k hl hR h0 hno => ?_)
  subst hl
  obtain ⟨Qf, hQ⟩ : ∃ Qf, Qf = am_Q k 1 6 (fun v h' => v = some (.int 1) ∧ VW N n p ord L Γ 4 h') (fun _ _ => False) := ⟨_, rfl⟩
  rw [← hQ]
  obtain ⟨la0, la1, la2, la3, la4, lad, lap, lan, lapn⟩ := id la
  have hn8 := w.w0.1
  have hp24 := w.w0.2.1
  have f01 : Γ 5 0 5 = 0 ∨ Γ 5 0 5 = 1 := hc.1.2.2.1
  have r04 := hc.1.2.1
  have rest : am_G k RL yL_isSound.name cL_isSound 17 (some .boolean) 0 0 Qf 53 [(9, .int 0), (8, .int 0), (7, .int 0), (6, .int 0), (5, .int 0), (0, .ref (L 5 0)), (1, .ref (L 13 0)), (2, .ref (L 13 1)), (3, .ref (L 13 2)), (4, .ref (L 13 3))] [] h := by
    refine g_aload_n dL_isSound_53 rfl ?_
    refine g_callV [] dL_isSound_54 mc_L_63 mi_X4_round se_X4_round (q_round hlt w) (w.k (by first | rfl | assumption)) rfl rfl (Nat.le_of_ble_eq_true rfl) (am_rm hR (by decide)) (fun _ _ z => z) (fun v hx hq hE => ?_)
    obtain ⟨rfl, rfl⟩ := hq
    refine g_iconst (v := 5) dL_isSound_57 (by decide) ?_
    refine g_icmp_ge 103 dL_isSound_58 (by decide) (fun z => absurd z (fun q => by have h5 := Int32.le_iff_toInt_le.mp q; have e5 : (5 : Int32).toInt = 5 := (by decide); have e1 := I_m1; split at h5 <;> omega)) (fun c_58 => ?_)
    refine g_aload_n dL_isSound_61 rfl ?_
    refine g_iconst (v := nI 0) dL_isSound_62 (by decide) ?_
    refine g_callV [_] dL_isSound_63 mc_L_66 mi_X4_count se_X4_count (q_count_0 hlt w) (w.k (by first | rfl | assumption)) rfl rfl (Nat.le_of_ble_eq_true rfl) (am_rm hR (by decide)) (fun _ _ z => z) (fun v hx hq hE => ?_)
    obtain ⟨rfl, rfl⟩ := hq
    refine g_aload_n dL_isSound_66 rfl ?_
    refine g_iconst (v := nI 0) dL_isSound_67 (by decide) ?_
    refine v_ald w dL_isSound_68 (by first | rfl | assumption) (by first | assumption | omega | (show _ < 8; omega) | (show _ < 24; omega) | (show _ < 5; omega) | (show _ < 16; omega) | (show _ < 9; omega)) ?_
    rw [la0]
    refine g_icmp_ne 103 dL_isSound_69 (by decide) (fun z => absurd rfl z) (fun c_69 => ?_)
    refine g_aload_n dL_isSound_72 rfl ?_
    refine g_iconst (v := nI 1) dL_isSound_73 (by decide) ?_
    refine g_callV [_] dL_isSound_74 mc_L_66 mi_X4_count se_X4_count (q_count_1 hlt w) (w.k (by first | rfl | assumption)) rfl rfl (Nat.le_of_ble_eq_true rfl) (am_rm hR (by decide)) (fun _ _ z => z) (fun v hx hq hE => ?_)
    obtain ⟨rfl, rfl⟩ := hq
    refine g_aload_n dL_isSound_77 rfl ?_
    refine g_iconst (v := nI 1) dL_isSound_78 (by decide) ?_
    refine v_ald w dL_isSound_79 (by first | rfl | assumption) (by first | assumption | omega | (show _ < 8; omega) | (show _ < 24; omega) | (show _ < 5; omega) | (show _ < 16; omega) | (show _ < 9; omega)) ?_
    rw [la1]
    refine g_icmp_ne 103 dL_isSound_80 (by decide) (fun z => absurd rfl z) (fun c_80 => ?_)
    refine g_aload_n dL_isSound_83 rfl ?_
    refine g_bipush (v := 8) dL_isSound_84 (by decide) ?_
    refine g_aload_n dL_isSound_86 rfl ?_
    refine g_iconst (v := nI 0) dL_isSound_87 (by decide) ?_
    refine v_ald w dL_isSound_88 (by first | rfl | assumption) (by first | assumption | omega | (show _ < 8; omega) | (show _ < 24; omega) | (show _ < 5; omega) | (show _ < 16; omega) | (show _ < 9; omega)) ?_
    rw [la0]
    refine g_iconst (v := 0) dL_isSound_89 (by decide) ?_
    refine g_iconst (v := 0) dL_isSound_90 (by decide) ?_
    refine g_callSX [_, _, _, _, _] dL_isSound_91 mcw_asks (ka_of hlt w) rfl (Nat.le_of_ble_eq_true rfl) (am_rm hR (by decide)) (fun _ _ z => z) (fun v hx hq hE => ?_)
    obtain ⟨rfl, w1⟩ := hq
    refine g_ldc dL_isSound_94 cn_L_53 ?_
    refine g_icmp_ne 103 dL_isSound_96 (by decide) (fun z => absurd rfl z) (fun c_96 => ?_)
    refine g_iconst (v := 1) dL_isSound_99 (by decide) ?_
    refine g_goto 104 dL_isSound_100 (by decide) ?_
    refine g_istore dL_isSound_104 (by decide) rfl ?_
    refine g_iconst (v := nI 0) dL_isSound_106 (by decide) ?_
    refine g_istore dL_isSound_107 (by decide) rfl ?_
    have lp_109 : ∀ (f : Nat) (j : Nat) (sx gx ix mx : Int32) (h' : am_H), j ≤ n → n - j < f → VW N n p ord L Γ 4 h' → sx = sp_sum (fun d => if Γ 0 d 0 = 0 then (0 : Int32) else 1) j → gx = sp_sum (fun d => Γ 2 d 8) j → ix = sp_sum (fun d => Γ 2 d 3) j → mx = sp_sum (fun d => Γ 2 d 9 - Γ 2 d 10) j → am_G k RL yL_isSound.name cL_isSound 17 (some .boolean) 1 6 Qf 109 [(11, .int (nI j)), (10, .int 1), (9, .int 0), (8, .int mx), (7, .int ix), (6, .int gx), (5, .int sx), (0, .ref (L 5 0)), (1, .ref (L 13 0)), (2, .ref (L 13 1)), (3, .ref (L 13 2)), (4, .ref (L 13 3))] [] h' := by
      intro f
      induction f with
      | zero => intro j sx gx ix mx h' hj hf w' es eg ei em; omega
      | succ f ih =>
        intro j sx gx ix mx h' hj hf w' es eg ei em
        refine g_iload dL_isSound_109 rfl ?_
        refine g_aload_n dL_isSound_111 rfl ?_
        refine g_iconst (v := nI 0) dL_isSound_112 (by decide) ?_
        refine v_ald w' dL_isSound_113 (by first | rfl | assumption) (by first | assumption | omega | (show _ < 8; omega) | (show _ < 24; omega) | (show _ < 5; omega) | (show _ < 16; omega) | (show _ < 9; omega)) ?_
        rw [la0]
        refine gN_ge 475 dL_isSound_114 (by decide) (by omega) (by omega) (fun c_114 => ?_) (fun c_114 => ?_)
        · skip
          have ejn : j = n := by omega
          rw [ejn] at es eg ei em
          refine g_iconst (v := nI 0) dL_isSound_475 (by decide) ?_
          refine g_istore dL_isSound_476 (by decide) rfl ?_
          have lp_478 : ∀ (f3 : Nat) (j : Nat) (bx : Int32) (h' : am_H), j ≤ p → p - j < f3 → VW N n p ord L Γ 4 h' → bx = sp_sum (fun q => Γ 4 q 3) j → am_G k RL yL_isSound.name cL_isSound 17 (some .boolean) 1 6 Qf 478 [(11, .int (nI j)), (10, .int 1), (9, .int bx), (8, .int mx), (7, .int ix), (6, .int gx), (5, .int sx), (0, .ref (L 5 0)), (1, .ref (L 13 0)), (2, .ref (L 13 1)), (3, .ref (L 13 2)), (4, .ref (L 13 3))] [] h' := by
            intro f3
            induction f3 with
            | zero => intro j bx h' hj hf w' eb; omega
            | succ f3 ih3 =>
              intro j bx h' hj hf w' eb
              refine g_iload dL_isSound_478 rfl ?_
              refine g_aload_n dL_isSound_480 rfl ?_
              refine g_iconst (v := nI 1) dL_isSound_481 (by decide) ?_
              refine v_ald w' dL_isSound_482 (by first | rfl | assumption) (by first | assumption | omega | (show _ < 8; omega) | (show _ < 24; omega) | (show _ < 5; omega) | (show _ < 16; omega) | (show _ < 9; omega)) ?_
              rw [la1]
              refine gN_ge 502 dL_isSound_483 (by decide) (by omega) (by omega) (fun c_483 => ?_) (fun c_483 => ?_)
              · skip
                have ejp : j = p := by omega
                rw [ejp] at eb
                refine g_iload dL_isSound_502 rfl ?_
                refine g_if_eq 574 dL_isSound_504 (by decide) (fun z => absurd z (by decide)) (fun _ => ?_)
                refine g_aload_n dL_isSound_507 rfl ?_
                refine g_iconst (v := nI 2) dL_isSound_508 (by decide) ?_
                refine g_callV [_] dL_isSound_509 mc_L_66 mi_X4_count se_X4_count (q_count_2 hlt w') (w'.k (by first | rfl | assumption)) rfl rfl (Nat.le_of_ble_eq_true rfl) (am_rm hR (by decide)) (fun _ _ z => z) (fun v hx hq hE => ?_)
                obtain ⟨rfl, rfl⟩ := hq
                refine g_iload dL_isSound_512 rfl ?_
                refine g_icmp_ne 574 dL_isSound_514 (by decide) (fun z => absurd (by rw [eb]; exact sp_sum_congr p fun q hq => by rcases (hc.2.2.2.1 q hq).2.2.2.2.2 with e | e <;> rw [e] <;> rfl) z) (fun c_514 => ?_)
                refine g_aload_n dL_isSound_517 rfl ?_
                refine g_iconst (v := nI 3) dL_isSound_518 (by decide) ?_
                refine g_callV [_] dL_isSound_519 mc_L_66 mi_X4_count se_X4_count (q_count_3 hlt w') (w'.k (by first | rfl | assumption)) rfl rfl (Nat.le_of_ble_eq_true rfl) (am_rm hR (by decide)) (fun _ _ z => z) (fun v hx hq hE => ?_)
                obtain ⟨rfl, rfl⟩ := hq
                refine g_iload dL_isSound_522 rfl ?_
                refine g_icmp_ne 574 dL_isSound_524 (by decide) (fun z => absurd (by rw [es]; exact stand_n hc) z) (fun c_524 => ?_)
                refine g_aload_n dL_isSound_527 rfl ?_
                refine g_iconst (v := nI 4) dL_isSound_528 (by decide) ?_
                refine g_callV [_] dL_isSound_529 mc_L_66 mi_X4_count se_X4_count (q_count_4 hlt w') (w'.k (by first | rfl | assumption)) rfl rfl (Nat.le_of_ble_eq_true rfl) (am_rm hR (by decide)) (fun _ _ z => z) (fun v hx hq hE => ?_)
                obtain ⟨rfl, rfl⟩ := hq
                refine g_iload dL_isSound_532 rfl ?_
                refine g_icmp_ne 574 dL_isSound_534 (by decide) (fun z => absurd eg.symm z) (fun c_534 => ?_)
                refine g_aload_n dL_isSound_537 rfl ?_
                refine g_iconst (v := nI 5) dL_isSound_538 (by decide) ?_
                refine g_callV [_] dL_isSound_539 mc_L_66 mi_X4_count se_X4_count (q_count_5 hlt w') (w'.k (by first | rfl | assumption)) rfl rfl (Nat.le_of_ble_eq_true rfl) (am_rm hR (by decide)) (fun _ _ z => z) (fun v hx hq hE => ?_)
                obtain ⟨rfl, rfl⟩ := hq
                refine g_iload dL_isSound_542 rfl ?_
                refine g_icmp_ne 574 dL_isSound_544 (by decide) (fun z => absurd ei.symm z) (fun c_544 => ?_)
                refine g_aload_n dL_isSound_547 rfl ?_
                refine g_bipush (v := nI 6) dL_isSound_548 (by decide) ?_
                refine g_callV [_] dL_isSound_550 mc_L_66 mi_X4_count se_X4_count (q_count_6 hlt w') (w'.k (by first | rfl | assumption)) rfl rfl (Nat.le_of_ble_eq_true rfl) (am_rm hR (by decide)) (fun _ _ z => z) (fun v hx hq hE => ?_)
                obtain ⟨rfl, rfl⟩ := hq
                refine g_iload dL_isSound_553 rfl ?_
                refine g_icmp_ne 574 dL_isSound_555 (by decide) (fun z => absurd em.symm z) (fun c_555 => ?_)
                refine g_aload_n dL_isSound_558 rfl ?_
                refine g_bipush (v := nI 7) dL_isSound_559 (by decide) ?_
                refine g_callV [_] dL_isSound_561 mc_L_66 mi_X4_count se_X4_count (q_count_7 hlt w') (w'.k (by first | rfl | assumption)) rfl rfl (Nat.le_of_ble_eq_true rfl) (am_rm hR (by decide)) (fun _ _ z => z) (fun v hx hq hE => ?_)
                obtain ⟨rfl, rfl⟩ := hq
                refine g_aload_n dL_isSound_564 rfl ?_
                refine g_iconst (v := nI 4) dL_isSound_565 (by decide) ?_
                refine v_ald w' dL_isSound_566 (by first | rfl | assumption) (by first | assumption | omega | (show _ < 8; omega) | (show _ < 24; omega) | (show _ < 5; omega) | (show _ < 16; omega) | (show _ < 9; omega)) ?_
                rw [la4]
                refine g_icmp_ne 574 dL_isSound_567 (by decide) (fun z => absurd rfl z) (fun c_567 => ?_)
                refine g_iconst (v := 1) dL_isSound_570 (by decide) ?_
                refine g_goto 575 dL_isSound_571 (by decide) ?_
                refine g_istore dL_isSound_575 (by decide) rfl ?_
                refine g_iload dL_isSound_577 rfl ?_
                refine g_if_eq 610 dL_isSound_579 (by decide) (fun z => absurd z (by decide)) (fun _ => ?_)
                refine g_iload dL_isSound_582 rfl ?_
                refine g_aload_n dL_isSound_584 rfl ?_
                refine g_iconst (v := 1) dL_isSound_585 (by decide) ?_
                refine g_aload_n dL_isSound_586 rfl ?_
                refine g_iconst (v := nI 0) dL_isSound_587 (by decide) ?_
                refine v_ald w' dL_isSound_588 (by first | rfl | assumption) (by first | assumption | omega | (show _ < 8; omega) | (show _ < 24; omega) | (show _ < 5; omega) | (show _ < 16; omega) | (show _ < 9; omega)) ?_
                rw [la0]
                refine g_ishl dL_isSound_589 ?_
                rw [m_sh n (by omega)]
                refine g_iconst (v := nI 1) dL_isSound_590 (by decide) ?_
                refine g_isub dL_isSound_591 ?_
                rw [I_pow n (by omega)]
                refine g_callV [_] dL_isSound_592 mc_L_79 mi_X4_most se_X4_most (q_most hlt w' hc (m := 2 ^ n - 1) (by have := Nat.two_pow_pos n; omega)) (w'.k (by first | rfl | assumption)) rfl rfl (Nat.le_of_ble_eq_true rfl) (am_rm hR (by decide)) (fun _ _ z => z) (fun v hx hq hE => ?_)
                obtain ⟨y1, rfl, w42, hm1⟩ := hq
                refine g_icmp_gt 610 dL_isSound_595 (by decide) (fun z => absurd z (by rw [eg]; exact got_all hc hn8 hm1)) (fun c_595 => ?_)
                refine g_aload_n dL_isSound_598 rfl ?_
                refine g_iconst (v := nI 0) dL_isSound_599 (by decide) ?_
                refine g_callV [_] dL_isSound_600 mc_L_79 mi_X4_most se_X4_most (q_most hlt w42 hc (m := 0) (Nat.two_pow_pos n)) (w42.k (by first | rfl | assumption)) rfl rfl (Nat.le_of_ble_eq_true rfl) (am_rm hR (by decide)) (fun _ _ z => z) (fun v hx hq hE => ?_)
                obtain ⟨y0, rfl, w43, hm0⟩ := hq
                refine g_if_ne 610 dL_isSound_603 (by decide) (fun z => absurd (most_0 hc hm0) z) (fun c_603 => ?_)
                refine g_iconst (v := 1) dL_isSound_606 (by decide) ?_
                refine g_goto 611 dL_isSound_607 (by decide) ?_
                rw [hQ]
                refine g_iret dL_isSound_611 rfl rfl (by decide) (by decide) ?_
                exact ⟨rfl, w43⟩
              · skip
                refine g_iload dL_isSound_486 rfl ?_
                refine g_aload dL_isSound_488 rfl ?_
                refine g_iload dL_isSound_490 rfl ?_
                refine v_ald w' dL_isSound_492 (by first | rfl | assumption) (by first | assumption | omega | (show _ < 8; omega) | (show _ < 24; omega) | (show _ < 5; omega) | (show _ < 16; omega) | (show _ < 9; omega)) ?_
                rw [lap j c_483]
                refine g_iadd dL_isSound_493 ?_
                refine g_istore dL_isSound_494 (by decide) rfl ?_
                refine g_iinc dL_isSound_496 rfl (nI_i1 _) (by decide) rfl ?_
                refine g_goto 478 dL_isSound_499 (by decide) ?_
                refine g_ls [(11, .int (nI (j + 1))), (10, .int 1), (9, .int (bx + Γ 4 j 3)), (8, .int mx), (7, .int ix), (6, .int gx), (5, .int sx), (0, .ref (L 5 0)), (1, .ref (L 13 0)), (2, .ref (L 13 1)), (3, .ref (L 13 2)), (4, .ref (L 13 3))] ⟨rfl, rfl, rfl, rfl, rfl, rfl, rfl, rfl, rfl, rfl, rfl, rfl, trivial⟩ ?_
                exact ih3 (j + 1) _ _ (by omega) (by omega) w' (by rw [eb]; rfl)
          refine g_ls [(11, .int (nI 0)), (10, .int 1), (9, .int 0), (8, .int mx), (7, .int ix), (6, .int gx), (5, .int sx), (0, .ref (L 5 0)), (1, .ref (L 13 0)), (2, .ref (L 13 1)), (3, .ref (L 13 2)), (4, .ref (L 13 3))] ⟨rfl, rfl, rfl, rfl, rfl, rfl, rfl, rfl, rfl, rfl, rfl, rfl, trivial⟩ ?_
          exact lp_478 (p + 1) 0 0 _ (by omega) (by omega) w' rfl
        · skip
          refine g_iload dL_isSound_117 rfl ?_
          refine g_if_eq 475 dL_isSound_119 (by decide) (fun z => absurd z (by decide)) (fun _ => ?_)
          refine g_aload_n dL_isSound_122 rfl ?_
          refine g_iload dL_isSound_123 rfl ?_
          refine g_callV [_] dL_isSound_125 mc_L_73 mi_X4_place se_X4_place (q_place hlt w' c_114) (w'.k (by first | rfl | assumption)) rfl rfl (Nat.le_of_ble_eq_true rfl) (am_rm hR (by decide)) (fun _ _ z => z) (fun v hx hq hE => ?_)
          obtain ⟨rfl, rfl⟩ := hq
          refine g_istore dL_isSound_128 (by decide) rfl ?_
          refine g_aload_n dL_isSound_130 rfl ?_
          refine g_iload dL_isSound_131 rfl ?_
          refine g_iconst (v := nI 3) dL_isSound_133 (by decide) ?_
          refine g_callV [_, _] dL_isSound_134 mc_L_48 mi_X4_ofDistrict se_X4_ofDistrict (q_of_3 hlt w' c_114) (w'.k (by first | rfl | assumption)) rfl rfl (Nat.le_of_ble_eq_true rfl) (am_rm hR (by decide)) (fun _ _ z => z) (fun v hx hq hE => ?_)
          obtain ⟨rfl, rfl⟩ := hq
          refine g_istore dL_isSound_137 (by decide) rfl ?_
          refine g_iload dL_isSound_139 rfl ?_
          refine g_iload dL_isSound_141 rfl ?_
          refine g_if_ge 150 dL_isSound_143 (by decide) (fun c_143 => ?_) (fun c_143 => ?_)
          · skip
            refine g_iconst (v := 1) dL_isSound_150 (by decide) ?_
            refine g_iadd dL_isSound_151 ?_
            refine g_istore dL_isSound_152 (by decide) rfl ?_
            refine g_iload dL_isSound_154 rfl ?_
            refine g_iload dL_isSound_156 rfl ?_
            refine g_iadd dL_isSound_158 ?_
            refine g_istore dL_isSound_159 (by decide) rfl ?_
            refine g_iload dL_isSound_161 rfl ?_
            refine g_aload_n dL_isSound_163 rfl ?_
            refine g_iload dL_isSound_164 rfl ?_
            refine g_iconst (v := nI 0) dL_isSound_166 (by decide) ?_
            refine g_callV [_, _] dL_isSound_167 mc_L_48 mi_X4_ofDistrict se_X4_ofDistrict (q_of_0 hlt w' c_114) (w'.k (by first | rfl | assumption)) rfl rfl (Nat.le_of_ble_eq_true rfl) (am_rm hR (by decide)) (fun _ _ z => z) (fun v hx hq hE => ?_)
            obtain ⟨rfl, rfl⟩ := hq
            refine g_iadd dL_isSound_170 ?_
            refine g_istore dL_isSound_171 (by decide) rfl ?_
            refine g_iload dL_isSound_173 rfl ?_
            refine g_aload_n dL_isSound_175 rfl ?_
            refine g_iload dL_isSound_176 rfl ?_
            refine g_iconst (v := nI 4) dL_isSound_178 (by decide) ?_
            refine g_callV [_, _] dL_isSound_179 mc_L_48 mi_X4_ofDistrict se_X4_ofDistrict (q_of_4 hlt w' c_114) (w'.k (by first | rfl | assumption)) rfl rfl (Nat.le_of_ble_eq_true rfl) (am_rm hR (by decide)) (fun _ _ z => z) (fun v hx hq hE => ?_)
            obtain ⟨rfl, rfl⟩ := hq
            refine g_aload_n dL_isSound_182 rfl ?_
            refine g_iload dL_isSound_183 rfl ?_
            refine g_iconst (v := nI 5) dL_isSound_185 (by decide) ?_
            refine g_callV [_, _] dL_isSound_186 mc_L_48 mi_X4_ofDistrict se_X4_ofDistrict (q_of_5 hlt w' c_114) (w'.k (by first | rfl | assumption)) rfl rfl (Nat.le_of_ble_eq_true rfl) (am_rm hR (by decide)) (fun _ _ z => z) (fun v hx hq hE => ?_)
            obtain ⟨rfl, rfl⟩ := hq
            refine g_isub dL_isSound_189 ?_
            refine g_iadd dL_isSound_190 ?_
            refine g_istore dL_isSound_191 (by decide) rfl ?_
            refine g_iload dL_isSound_193 rfl ?_
            skip
            refine g_if_ge 202 dL_isSound_195 (by decide) (fun c_195 => ?_) (fun z => absurd c_143 z)
            refine g_iconst (v := 0) dL_isSound_202 (by decide) ?_
            refine g_aload_n dL_isSound_203 rfl ?_
            refine g_iload dL_isSound_204 rfl ?_
            refine g_iconst (v := nI 1) dL_isSound_206 (by decide) ?_
            refine g_callV [_, _] dL_isSound_207 mc_L_48 mi_X4_ofDistrict se_X4_ofDistrict (q_of_1 hlt w' c_114) (w'.k (by first | rfl | assumption)) rfl rfl (Nat.le_of_ble_eq_true rfl) (am_rm hR (by decide)) (fun _ _ z => z) (fun v hx hq hE => ?_)
            obtain ⟨rfl, rfl⟩ := hq
            refine g_iconst (v := (-1)) dL_isSound_210 (by decide) ?_
            refine g_icmp_ne 218 dL_isSound_211 (by decide) (fun c_211 => ?_) (fun z => absurd z (prc_nn hc c_114 (plc_st c_143)).2.2.2)
            refine g_iconst (v := 0) dL_isSound_218 (by decide) ?_
            refine g_icmp_ne 368 dL_isSound_219 (by decide) (fun z => absurd z (by decide)) (fun _ => ?_)
            refine g_iload dL_isSound_222 rfl ?_
            refine g_if_ge 231 dL_isSound_224 (by decide) (fun c_224 => ?_) (fun z => absurd c_143 z)
            refine g_iconst (v := 0) dL_isSound_231 (by decide) ?_
            refine g_aload_n dL_isSound_232 rfl ?_
            refine g_iload dL_isSound_233 rfl ?_
            refine g_iconst (v := nI 2) dL_isSound_235 (by decide) ?_
            refine g_callV [_, _] dL_isSound_236 mc_L_48 mi_X4_ofDistrict se_X4_ofDistrict (q_of_2 hlt w' c_114) (w'.k (by first | rfl | assumption)) rfl rfl (Nat.le_of_ble_eq_true rfl) (am_rm hR (by decide)) (fun _ _ z => z) (fun v hx hq hE => ?_)
            obtain ⟨rfl, rfl⟩ := hq
            refine g_iconst (v := (-1)) dL_isSound_239 (by decide) ?_
            refine g_icmp_ne 247 dL_isSound_240 (by decide) (fun c_240 => ?_) (fun z => absurd z (unt_nn hc c_114 (plc_st c_143)).2)
            refine g_iconst (v := 0) dL_isSound_247 (by decide) ?_
            refine g_icmp_ne 368 dL_isSound_248 (by decide) (fun z => absurd z (by decide)) (fun _ => ?_)
            refine g_aload_n dL_isSound_251 rfl ?_
            refine g_iload dL_isSound_252 rfl ?_
            refine g_iconst (v := nI 0) dL_isSound_254 (by decide) ?_
            refine g_callV [_, _] dL_isSound_255 mc_L_48 mi_X4_ofDistrict se_X4_ofDistrict (q_of_0 hlt w' c_114) (w'.k (by first | rfl | assumption)) rfl rfl (Nat.le_of_ble_eq_true rfl) (am_rm hR (by decide)) (fun _ _ z => z) (fun v hx hq hE => ?_)
            obtain ⟨rfl, rfl⟩ := hq
            refine g_if_lt 368 dL_isSound_258 (by decide) (fun z => absurd z (fun q => by have := Int32.lt_iff_toInt_lt.mp q; rw [tI_0] at this; have := (hc.2.1 j c_114).2.2.2.2.2.2.1.1; omega)) (fun c_258 => ?_)
            refine g_aload_n dL_isSound_261 rfl ?_
            refine g_iload dL_isSound_262 rfl ?_
            refine g_iconst (v := nI 0) dL_isSound_264 (by decide) ?_
            refine g_callV [_, _] dL_isSound_265 mc_L_48 mi_X4_ofDistrict se_X4_ofDistrict (q_of_0 hlt w' c_114) (w'.k (by first | rfl | assumption)) rfl rfl (Nat.le_of_ble_eq_true rfl) (am_rm hR (by decide)) (fun _ _ z => z) (fun v hx hq hE => ?_)
            obtain ⟨rfl, rfl⟩ := hq
            refine g_aload_n dL_isSound_268 rfl ?_
            refine g_iconst (v := nI 2) dL_isSound_269 (by decide) ?_
            refine g_iload dL_isSound_270 rfl ?_
            refine g_imul dL_isSound_272 ?_
            rw [pk_mul]
            refine v_ald w' dL_isSound_273 (by first | rfl | assumption) (by first | assumption | omega | (show _ < 8; omega) | (show _ < 24; omega) | (show _ < 5; omega) | (show _ < 16; omega) | (show _ < 9; omega)) ?_
            rw [(lad j c_114).1]
            refine g_icmp_gt 368 dL_isSound_274 (by decide) (fun z => absurd z (fun q => by have := Int32.lt_iff_toInt_lt.mp q; have := (hc.2.1 j c_114).2.2.2.2.2.2.1.2; omega)) (fun c_274 => ?_)
            refine g_iload dL_isSound_277 rfl ?_
            refine g_if_lt 368 dL_isSound_279 (by decide) (fun z => absurd z (fun q => by have := Int32.lt_iff_toInt_lt.mp q; rw [tI_0] at this; have := (hc.2.1 j c_114).2.2.2.2.1.1; omega)) (fun c_279 => ?_)
            refine g_iload dL_isSound_282 rfl ?_
            refine g_if_eq 306 dL_isSound_284 (by decide) (fun c_284 => ?_) (fun c_284 => ?_)
            · skip
              refine g_aload_n dL_isSound_306 rfl ?_
              refine g_iload dL_isSound_307 rfl ?_
              refine g_callV [_] dL_isSound_309 mc_L_76 mi_X4_flowAnew se_X4_flowAnew (q_flow hlt w' hc c_114) (w'.k (by first | rfl | assumption)) rfl rfl (Nat.le_of_ble_eq_true rfl) (am_rm hR (by decide)) (fun _ _ z => z) (fun v hx hq hE => ?_)
              obtain ⟨rfl, w22⟩ := hq
              refine g_iload dL_isSound_312 rfl ?_
              refine g_icmp_ne 368 dL_isSound_314 (by decide) (fun z => absurd rfl z) (fun c_314 => ?_)
              refine g_aload_n dL_isSound_317 rfl ?_
              refine g_iload dL_isSound_318 rfl ?_
              refine g_iconst (v := nI 4) dL_isSound_320 (by decide) ?_
              refine g_callV [_, _] dL_isSound_321 mc_L_48 mi_X4_ofDistrict se_X4_ofDistrict (q_of_4 hlt w22 c_114) (w22.k (by first | rfl | assumption)) rfl rfl (Nat.le_of_ble_eq_true rfl) (am_rm hR (by decide)) (fun _ _ z => z) (fun v hx hq hE => ?_)
              obtain ⟨rfl, rfl⟩ := hq
              refine g_aload_n dL_isSound_324 rfl ?_
              refine g_iconst (v := nI 2) dL_isSound_325 (by decide) ?_
              refine g_iload dL_isSound_326 rfl ?_
              refine g_imul dL_isSound_328 ?_
              rw [pk_mul]
              refine v_ald w22 dL_isSound_329 (by first | rfl | assumption) (by first | assumption | omega | (show _ < 8; omega) | (show _ < 24; omega) | (show _ < 5; omega) | (show _ < 16; omega) | (show _ < 9; omega)) ?_
              rw [(lad j c_114).2.2.1]
              refine g_icmp_ne 368 dL_isSound_330 (by decide) (fun z => absurd rfl z) (fun c_330 => ?_)
              refine g_aload_n dL_isSound_333 rfl ?_
              refine g_iload dL_isSound_334 rfl ?_
              refine g_iconst (v := nI 5) dL_isSound_336 (by decide) ?_
              refine g_callV [_, _] dL_isSound_337 mc_L_48 mi_X4_ofDistrict se_X4_ofDistrict (q_of_5 hlt w22 c_114) (w22.k (by first | rfl | assumption)) rfl rfl (Nat.le_of_ble_eq_true rfl) (am_rm hR (by decide)) (fun _ _ z => z) (fun v hx hq hE => ?_)
              obtain ⟨rfl, rfl⟩ := hq
              refine g_aload_n dL_isSound_340 rfl ?_
              refine g_iconst (v := nI 2) dL_isSound_341 (by decide) ?_
              refine g_iload dL_isSound_342 rfl ?_
              refine g_imul dL_isSound_344 ?_
              rw [pk_mul]
              refine g_iconst (v := nI 1) dL_isSound_345 (by decide) ?_
              refine g_iadd dL_isSound_346 ?_
              rw [nI_add]
              refine v_ald w22 dL_isSound_347 (by first | rfl | assumption) (by first | assumption | omega | (show _ < 8; omega) | (show _ < 24; omega) | (show _ < 5; omega) | (show _ < 16; omega) | (show _ < 9; omega)) ?_
              rw [(lad j c_114).2.2.2]
              refine g_icmp_ne 368 dL_isSound_348 (by decide) (fun z => absurd rfl z) (fun c_348 => ?_)
              refine g_iload dL_isSound_351 rfl ?_
              refine g_aload_n dL_isSound_353 rfl ?_
              refine g_iconst (v := 1) dL_isSound_354 (by decide) ?_
              refine g_iload dL_isSound_355 rfl ?_
              refine g_ishl dL_isSound_357 ?_
              rw [m_sh j (by omega)]
              refine g_callV [_] dL_isSound_358 mc_L_79 mi_X4_most se_X4_most (q_most hlt w22 hc (m := 2 ^ j) (Nat.pow_lt_pow_right (by decide) c_114)) (w22.k (by first | rfl | assumption)) rfl rfl (Nat.le_of_ble_eq_true rfl) (am_rm hR (by decide)) (fun _ _ z => z) (fun v hx hq hE => ?_)
              obtain ⟨y1, rfl, w23, hm1⟩ := hq
              refine g_icmp_gt 368 dL_isSound_361 (by decide) (fun z => absurd z (got_one hc hn8 c_114 hm1)) (fun c_361 => ?_)
              refine g_iconst (v := 1) dL_isSound_364 (by decide) ?_
              refine g_goto 369 dL_isSound_365 (by decide) ?_
              refine g_istore dL_isSound_369 (by decide) rfl ?_
              refine g_iconst (v := nI 0) dL_isSound_371 (by decide) ?_
              refine g_istore dL_isSound_372 (by decide) rfl ?_
              have lp_374 : ∀ (f2 : Nat) (i2 : Nat) (h' : am_H), i2 ≤ n → n - i2 < f2 → VW N n p ord L Γ 4 h' → am_G k RL yL_isSound.name cL_isSound 17 (some .boolean) 1 6 Qf 374 [(14, .int (nI i2)), (12, .int (plc Γ ord j)), (11, .int (nI j)), (10, .int 1), (9, .int 0), (8, .int (mx + (Γ 2 j 9 - Γ 2 j 10))), (7, .int (ix + Γ 2 j 3)), (6, .int (gx + Γ 2 j 8)), (5, .int (sx + 1)), (0, .ref (L 5 0)), (1, .ref (L 13 0)), (2, .ref (L 13 1)), (3, .ref (L 13 2)), (4, .ref (L 13 3))] [] h' := by
                intro f2
                induction f2 with
                | zero => intro i2 h' hi2 hf2 w'; omega
                | succ f2 ih2 =>
                  intro i2 h' hi2 hf2 w'
                  refine g_iload dL_isSound_374 rfl ?_
                  refine g_aload_n dL_isSound_376 rfl ?_
                  refine g_iconst (v := nI 0) dL_isSound_377 (by decide) ?_
                  refine v_ald w' dL_isSound_378 (by first | rfl | assumption) (by first | assumption | omega | (show _ < 8; omega) | (show _ < 24; omega) | (show _ < 5; omega) | (show _ < 16; omega) | (show _ < 9; omega)) ?_
                  rw [la0]
                  refine gN_ge 469 dL_isSound_379 (by decide) (by omega) (by omega) (fun c_379 => ?_) (fun c_379 => ?_)
                  · skip
                    refine g_iinc dL_isSound_469 rfl (nI_i1 _) (by decide) rfl ?_
                    refine g_goto 109 dL_isSound_472 (by decide) ?_
                    refine g_ls [(11, .int (nI (j + 1))), (10, .int 1), (9, .int 0), (8, .int (mx + (Γ 2 j 9 - Γ 2 j 10))), (7, .int (ix + Γ 2 j 3)), (6, .int (gx + Γ 2 j 8)), (5, .int (sx + 1)), (0, .ref (L 5 0)), (1, .ref (L 13 0)), (2, .ref (L 13 1)), (3, .ref (L 13 2)), (4, .ref (L 13 3))] ⟨rfl, rfl, rfl, rfl, rfl, rfl, rfl, rfl, rfl, rfl, rfl, rfl, trivial⟩ ?_
                    refine ih (j + 1) _ _ _ _ _ (by omega) (by omega) w' ?_ (by rw [eg]; rfl) (by rw [ei]; rfl) (by rw [em]; rfl)
                    rw [es]
                    show _ = sp_sum (fun d => if Γ 0 d 0 = 0 then (0 : Int32) else 1) j + (if Γ 0 j 0 = 0 then (0 : Int32) else 1)
                    rw [if_neg (plc_st c_143)]
                  · skip
                    refine g_iload dL_isSound_382 rfl ?_
                    refine g_if_eq 469 dL_isSound_384 (by decide) (fun z => absurd z (by decide)) (fun _ => ?_)
                    refine g_iload dL_isSound_387 rfl ?_
                    refine g_if_lt 469 dL_isSound_389 (by decide) (fun z => absurd z (Int32.not_lt.mpr c_143)) (fun c_389 => ?_)
                    refine g_aload_n dL_isSound_392 rfl ?_
                    refine g_iload dL_isSound_393 rfl ?_
                    refine g_callV [_] dL_isSound_395 mc_L_73 mi_X4_place se_X4_place (q_place hlt w' c_379) (w'.k (by first | rfl | assumption)) rfl rfl (Nat.le_of_ble_eq_true rfl) (am_rm hR (by decide)) (fun _ _ z => z) (fun v hx hq hE => ?_)
                    obtain ⟨rfl, rfl⟩ := hq
                    refine g_istore dL_isSound_398 (by decide) rfl ?_
                    refine g_aload_n dL_isSound_400 rfl ?_
                    refine g_iload dL_isSound_401 rfl ?_
                    refine g_iconst (v := nI 1) dL_isSound_403 (by decide) ?_
                    refine g_callV [_, _] dL_isSound_404 mc_L_48 mi_X4_ofDistrict se_X4_ofDistrict (q_of_1 hlt w' c_379) (w'.k (by first | rfl | assumption)) rfl rfl (Nat.le_of_ble_eq_true rfl) (am_rm hR (by decide)) (fun _ _ z => z) (fun v hx hq hE => ?_)
                    obtain ⟨rfl, rfl⟩ := hq
                    refine g_aload_n dL_isSound_407 rfl ?_
                    refine g_iload dL_isSound_408 rfl ?_
                    refine g_iconst (v := nI 1) dL_isSound_410 (by decide) ?_
                    refine g_callV [_, _] dL_isSound_411 mc_L_48 mi_X4_ofDistrict se_X4_ofDistrict (q_of_1 hlt w' c_114) (w'.k (by first | rfl | assumption)) rfl rfl (Nat.le_of_ble_eq_true rfl) (am_rm hR (by decide)) (fun _ _ z => z) (fun v hx hq hE => ?_)
                    obtain ⟨rfl, rfl⟩ := hq
                    refine g_isub dL_isSound_414 ?_
                    refine g_istore dL_isSound_415 (by decide) rfl ?_
                    refine g_iload dL_isSound_417 rfl ?_
                    refine g_if_lt 456 dL_isSound_419 (by decide) (fun c_419 => ?_) (fun c_419 => ?_)
                    · skip
                      refine g_iconst (v := 1) dL_isSound_456 (by decide) ?_
                      refine g_goto 461 dL_isSound_457 (by decide) ?_
                      refine g_istore dL_isSound_461 (by decide) rfl ?_
                      refine g_iinc dL_isSound_463 rfl (nI_i1 _) (by decide) rfl ?_
                      refine g_goto 374 dL_isSound_466 (by decide) ?_
                      refine g_ls [(14, .int (nI (i2 + 1))), (12, .int (plc Γ ord j)), (11, .int (nI j)), (10, .int 1), (9, .int 0), (8, .int (mx + (Γ 2 j 9 - Γ 2 j 10))), (7, .int (ix + Γ 2 j 3)), (6, .int (gx + Γ 2 j 8)), (5, .int (sx + 1)), (0, .ref (L 5 0)), (1, .ref (L 13 0)), (2, .ref (L 13 1)), (3, .ref (L 13 2)), (4, .ref (L 13 3))] ⟨rfl, rfl, rfl, rfl, rfl, rfl, rfl, rfl, rfl, rfl, rfl, rfl, rfl, rfl, trivial⟩ ?_
                      exact ih2 (i2 + 1) _ (by omega) (by omega) w'
                    · skip
                      refine g_iload dL_isSound_422 rfl ?_
                      refine g_iload dL_isSound_424 rfl ?_
                      refine gN_eq 456 dL_isSound_426 (by decide) (by omega) (by omega) (fun c_426 => ?_) (fun c_426 => ?_)
                      · skip
                        refine g_iconst (v := 1) dL_isSound_456 (by decide) ?_
                        refine g_goto 461 dL_isSound_457 (by decide) ?_
                        refine g_istore dL_isSound_461 (by decide) rfl ?_
                        refine g_iinc dL_isSound_463 rfl (nI_i1 _) (by decide) rfl ?_
                        refine g_goto 374 dL_isSound_466 (by decide) ?_
                        refine g_ls [(14, .int (nI (i2 + 1))), (12, .int (plc Γ ord j)), (11, .int (nI j)), (10, .int 1), (9, .int 0), (8, .int (mx + (Γ 2 j 9 - Γ 2 j 10))), (7, .int (ix + Γ 2 j 3)), (6, .int (gx + Γ 2 j 8)), (5, .int (sx + 1)), (0, .ref (L 5 0)), (1, .ref (L 13 0)), (2, .ref (L 13 1)), (3, .ref (L 13 2)), (4, .ref (L 13 3))] ⟨rfl, rfl, rfl, rfl, rfl, rfl, rfl, rfl, rfl, rfl, rfl, rfl, rfl, rfl, trivial⟩ ?_
                        exact ih2 (i2 + 1) _ (by omega) (by omega) w'
                      · skip
                        refine g_iload dL_isSound_429 rfl ?_
                        refine g_iload dL_isSound_431 rfl ?_
                        refine g_icmp_ge 444 dL_isSound_433 (by decide) (fun c_433 => ?_) (fun c_433 => ?_)
                        · skip
                          refine g_iload dL_isSound_444 rfl ?_
                          refine g_iload dL_isSound_446 rfl ?_
                          refine g_icmp_le 460 dL_isSound_448 (by decide) (fun z => absurd z ((snd_by hc hn8 c_379 c_114 c_426 (plc_st (Int32.not_lt.mp c_419)) (plc_st c_143)).2 (Int32.not_lt.mpr c_433)).1) (fun c_448 => ?_)
                          refine g_iload dL_isSound_451 rfl ?_
                          refine g_if_gt 460 dL_isSound_453 (by decide) (fun z => absurd z ((snd_by hc hn8 c_379 c_114 c_426 (plc_st (Int32.not_lt.mp c_419)) (plc_st c_143)).2 (Int32.not_lt.mpr c_433)).2) (fun c_453 => ?_)
                          refine g_iconst (v := 1) dL_isSound_456 (by decide) ?_
                          refine g_goto 461 dL_isSound_457 (by decide) ?_
                          refine g_istore dL_isSound_461 (by decide) rfl ?_
                          refine g_iinc dL_isSound_463 rfl (nI_i1 _) (by decide) rfl ?_
                          refine g_goto 374 dL_isSound_466 (by decide) ?_
                          refine g_ls [(14, .int (nI (i2 + 1))), (12, .int (plc Γ ord j)), (11, .int (nI j)), (10, .int 1), (9, .int 0), (8, .int (mx + (Γ 2 j 9 - Γ 2 j 10))), (7, .int (ix + Γ 2 j 3)), (6, .int (gx + Γ 2 j 8)), (5, .int (sx + 1)), (0, .ref (L 5 0)), (1, .ref (L 13 0)), (2, .ref (L 13 1)), (3, .ref (L 13 2)), (4, .ref (L 13 3))] ⟨rfl, rfl, rfl, rfl, rfl, rfl, rfl, rfl, rfl, rfl, rfl, rfl, rfl, rfl, trivial⟩ ?_
                          exact ih2 (i2 + 1) _ (by omega) (by omega) w'
                        · skip
                          refine g_iload dL_isSound_436 rfl ?_
                          refine g_if_lt 460 dL_isSound_438 (by decide) (fun z => absurd z ((snd_by hc hn8 c_379 c_114 c_426 (plc_st (Int32.not_lt.mp c_419)) (plc_st c_143)).1 (Int32.not_le.mp c_433))) (fun c_438 => ?_)
                          refine g_goto 456 dL_isSound_441 (by decide) ?_
                          refine g_iconst (v := 1) dL_isSound_456 (by decide) ?_
                          refine g_goto 461 dL_isSound_457 (by decide) ?_
                          refine g_istore dL_isSound_461 (by decide) rfl ?_
                          refine g_iinc dL_isSound_463 rfl (nI_i1 _) (by decide) rfl ?_
                          refine g_goto 374 dL_isSound_466 (by decide) ?_
                          refine g_ls [(14, .int (nI (i2 + 1))), (12, .int (plc Γ ord j)), (11, .int (nI j)), (10, .int 1), (9, .int 0), (8, .int (mx + (Γ 2 j 9 - Γ 2 j 10))), (7, .int (ix + Γ 2 j 3)), (6, .int (gx + Γ 2 j 8)), (5, .int (sx + 1)), (0, .ref (L 5 0)), (1, .ref (L 13 0)), (2, .ref (L 13 1)), (3, .ref (L 13 2)), (4, .ref (L 13 3))] ⟨rfl, rfl, rfl, rfl, rfl, rfl, rfl, rfl, rfl, rfl, rfl, rfl, rfl, rfl, trivial⟩ ?_
                          exact ih2 (i2 + 1) _ (by omega) (by omega) w'
              refine g_ls [(14, .int (nI 0)), (12, .int (plc Γ ord j)), (11, .int (nI j)), (10, .int 1), (9, .int 0), (8, .int (mx + (Γ 2 j 9 - Γ 2 j 10))), (7, .int (ix + Γ 2 j 3)), (6, .int (gx + Γ 2 j 8)), (5, .int (sx + 1)), (0, .ref (L 5 0)), (1, .ref (L 13 0)), (2, .ref (L 13 1)), (3, .ref (L 13 2)), (4, .ref (L 13 3))] ⟨rfl, rfl, rfl, rfl, rfl, rfl, rfl, rfl, rfl, rfl, rfl, rfl, rfl, rfl, trivial⟩ ?_
              exact lp_374 (n + 1) 0 _ (by omega) (by omega) w23
            · skip
              refine g_aload_n dL_isSound_287 rfl ?_
              refine g_iconst (v := nI 3) dL_isSound_288 (by decide) ?_
              refine v_ald w' dL_isSound_289 (by first | rfl | assumption) (by first | assumption | omega | (show _ < 8; omega) | (show _ < 24; omega) | (show _ < 5; omega) | (show _ < 16; omega) | (show _ < 9; omega)) ?_
              rw [la3]
              refine g_iconst (v := 1) dL_isSound_290 (by decide) ?_
              refine g_icmp_ne 368 dL_isSound_291 (by decide) (fun z => absurd (f01.resolve_left (fun q => c_284 (hc.2.2.2.2.2.1 q j c_114))) z) (fun c_291 => ?_)
              refine g_iload dL_isSound_294 rfl ?_
              refine g_aload_n dL_isSound_296 rfl ?_
              refine g_iload dL_isSound_297 rfl ?_
              refine g_iconst (v := nI 2) dL_isSound_299 (by decide) ?_
              refine g_callV [_, _] dL_isSound_300 mc_L_48 mi_X4_ofDistrict se_X4_ofDistrict (q_of_2 hlt w' c_114) (w'.k (by first | rfl | assumption)) rfl rfl (Nat.le_of_ble_eq_true rfl) (am_rm hR (by decide)) (fun _ _ z => z) (fun v hx hq hE => ?_)
              obtain ⟨rfl, rfl⟩ := hq
              refine g_icmp_gt 368 dL_isSound_303 (by decide) (fun z => absurd z (fun q => by have hs : ¬ Γ 0 j 0 = 0 := fun y => c_284 ((hc.2.1 j c_114).2.2.2.1 y); rw [(unt_nn hc c_114 hs).1] at q; have := Int32.lt_iff_toInt_lt.mp q; have := (hc.2.1 j c_114).2.2.2.2.2.2.2.2 hs; omega)) (fun c_303 => ?_)
              refine g_aload_n dL_isSound_306 rfl ?_
              refine g_iload dL_isSound_307 rfl ?_
              refine g_callV [_] dL_isSound_309 mc_L_76 mi_X4_flowAnew se_X4_flowAnew (q_flow hlt w' hc c_114) (w'.k (by first | rfl | assumption)) rfl rfl (Nat.le_of_ble_eq_true rfl) (am_rm hR (by decide)) (fun _ _ z => z) (fun v hx hq hE => ?_)
              obtain ⟨rfl, w24⟩ := hq
              refine g_iload dL_isSound_312 rfl ?_
              refine g_icmp_ne 368 dL_isSound_314 (by decide) (fun z => absurd rfl z) (fun c_314 => ?_)
              refine g_aload_n dL_isSound_317 rfl ?_
              refine g_iload dL_isSound_318 rfl ?_
              refine g_iconst (v := nI 4) dL_isSound_320 (by decide) ?_
              refine g_callV [_, _] dL_isSound_321 mc_L_48 mi_X4_ofDistrict se_X4_ofDistrict (q_of_4 hlt w24 c_114) (w24.k (by first | rfl | assumption)) rfl rfl (Nat.le_of_ble_eq_true rfl) (am_rm hR (by decide)) (fun _ _ z => z) (fun v hx hq hE => ?_)
              obtain ⟨rfl, rfl⟩ := hq
              refine g_aload_n dL_isSound_324 rfl ?_
              refine g_iconst (v := nI 2) dL_isSound_325 (by decide) ?_
              refine g_iload dL_isSound_326 rfl ?_
              refine g_imul dL_isSound_328 ?_
              rw [pk_mul]
              refine v_ald w24 dL_isSound_329 (by first | rfl | assumption) (by first | assumption | omega | (show _ < 8; omega) | (show _ < 24; omega) | (show _ < 5; omega) | (show _ < 16; omega) | (show _ < 9; omega)) ?_
              rw [(lad j c_114).2.2.1]
              refine g_icmp_ne 368 dL_isSound_330 (by decide) (fun z => absurd rfl z) (fun c_330 => ?_)
              refine g_aload_n dL_isSound_333 rfl ?_
              refine g_iload dL_isSound_334 rfl ?_
              refine g_iconst (v := nI 5) dL_isSound_336 (by decide) ?_
              refine g_callV [_, _] dL_isSound_337 mc_L_48 mi_X4_ofDistrict se_X4_ofDistrict (q_of_5 hlt w24 c_114) (w24.k (by first | rfl | assumption)) rfl rfl (Nat.le_of_ble_eq_true rfl) (am_rm hR (by decide)) (fun _ _ z => z) (fun v hx hq hE => ?_)
              obtain ⟨rfl, rfl⟩ := hq
              refine g_aload_n dL_isSound_340 rfl ?_
              refine g_iconst (v := nI 2) dL_isSound_341 (by decide) ?_
              refine g_iload dL_isSound_342 rfl ?_
              refine g_imul dL_isSound_344 ?_
              rw [pk_mul]
              refine g_iconst (v := nI 1) dL_isSound_345 (by decide) ?_
              refine g_iadd dL_isSound_346 ?_
              rw [nI_add]
              refine v_ald w24 dL_isSound_347 (by first | rfl | assumption) (by first | assumption | omega | (show _ < 8; omega) | (show _ < 24; omega) | (show _ < 5; omega) | (show _ < 16; omega) | (show _ < 9; omega)) ?_
              rw [(lad j c_114).2.2.2]
              refine g_icmp_ne 368 dL_isSound_348 (by decide) (fun z => absurd rfl z) (fun c_348 => ?_)
              refine g_iload dL_isSound_351 rfl ?_
              refine g_aload_n dL_isSound_353 rfl ?_
              refine g_iconst (v := 1) dL_isSound_354 (by decide) ?_
              refine g_iload dL_isSound_355 rfl ?_
              refine g_ishl dL_isSound_357 ?_
              rw [m_sh j (by omega)]
              refine g_callV [_] dL_isSound_358 mc_L_79 mi_X4_most se_X4_most (q_most hlt w24 hc (m := 2 ^ j) (Nat.pow_lt_pow_right (by decide) c_114)) (w24.k (by first | rfl | assumption)) rfl rfl (Nat.le_of_ble_eq_true rfl) (am_rm hR (by decide)) (fun _ _ z => z) (fun v hx hq hE => ?_)
              obtain ⟨y1, rfl, w25, hm1⟩ := hq
              refine g_icmp_gt 368 dL_isSound_361 (by decide) (fun z => absurd z (got_one hc hn8 c_114 hm1)) (fun c_361 => ?_)
              refine g_iconst (v := 1) dL_isSound_364 (by decide) ?_
              refine g_goto 369 dL_isSound_365 (by decide) ?_
              refine g_istore dL_isSound_369 (by decide) rfl ?_
              refine g_iconst (v := nI 0) dL_isSound_371 (by decide) ?_
              refine g_istore dL_isSound_372 (by decide) rfl ?_
              have lp_374 : ∀ (f2 : Nat) (i2 : Nat) (h' : am_H), i2 ≤ n → n - i2 < f2 → VW N n p ord L Γ 4 h' → am_G k RL yL_isSound.name cL_isSound 17 (some .boolean) 1 6 Qf 374 [(14, .int (nI i2)), (12, .int (plc Γ ord j)), (11, .int (nI j)), (10, .int 1), (9, .int 0), (8, .int (mx + (Γ 2 j 9 - Γ 2 j 10))), (7, .int (ix + Γ 2 j 3)), (6, .int (gx + Γ 2 j 8)), (5, .int (sx + 1)), (0, .ref (L 5 0)), (1, .ref (L 13 0)), (2, .ref (L 13 1)), (3, .ref (L 13 2)), (4, .ref (L 13 3))] [] h' := by
                intro f2
                induction f2 with
                | zero => intro i2 h' hi2 hf2 w'; omega
                | succ f2 ih2 =>
                  intro i2 h' hi2 hf2 w'
                  refine g_iload dL_isSound_374 rfl ?_
                  refine g_aload_n dL_isSound_376 rfl ?_
                  refine g_iconst (v := nI 0) dL_isSound_377 (by decide) ?_
                  refine v_ald w' dL_isSound_378 (by first | rfl | assumption) (by first | assumption | omega | (show _ < 8; omega) | (show _ < 24; omega) | (show _ < 5; omega) | (show _ < 16; omega) | (show _ < 9; omega)) ?_
                  rw [la0]
                  refine gN_ge 469 dL_isSound_379 (by decide) (by omega) (by omega) (fun c_379 => ?_) (fun c_379 => ?_)
                  · skip
                    refine g_iinc dL_isSound_469 rfl (nI_i1 _) (by decide) rfl ?_
                    refine g_goto 109 dL_isSound_472 (by decide) ?_
                    refine g_ls [(11, .int (nI (j + 1))), (10, .int 1), (9, .int 0), (8, .int (mx + (Γ 2 j 9 - Γ 2 j 10))), (7, .int (ix + Γ 2 j 3)), (6, .int (gx + Γ 2 j 8)), (5, .int (sx + 1)), (0, .ref (L 5 0)), (1, .ref (L 13 0)), (2, .ref (L 13 1)), (3, .ref (L 13 2)), (4, .ref (L 13 3))] ⟨rfl, rfl, rfl, rfl, rfl, rfl, rfl, rfl, rfl, rfl, rfl, rfl, trivial⟩ ?_
                    refine ih (j + 1) _ _ _ _ _ (by omega) (by omega) w' ?_ (by rw [eg]; rfl) (by rw [ei]; rfl) (by rw [em]; rfl)
                    rw [es]
                    show _ = sp_sum (fun d => if Γ 0 d 0 = 0 then (0 : Int32) else 1) j + (if Γ 0 j 0 = 0 then (0 : Int32) else 1)
                    rw [if_neg (plc_st c_143)]
                  · skip
                    refine g_iload dL_isSound_382 rfl ?_
                    refine g_if_eq 469 dL_isSound_384 (by decide) (fun z => absurd z (by decide)) (fun _ => ?_)
                    refine g_iload dL_isSound_387 rfl ?_
                    refine g_if_lt 469 dL_isSound_389 (by decide) (fun z => absurd z (Int32.not_lt.mpr c_143)) (fun c_389 => ?_)
                    refine g_aload_n dL_isSound_392 rfl ?_
                    refine g_iload dL_isSound_393 rfl ?_
                    refine g_callV [_] dL_isSound_395 mc_L_73 mi_X4_place se_X4_place (q_place hlt w' c_379) (w'.k (by first | rfl | assumption)) rfl rfl (Nat.le_of_ble_eq_true rfl) (am_rm hR (by decide)) (fun _ _ z => z) (fun v hx hq hE => ?_)
                    obtain ⟨rfl, rfl⟩ := hq
                    refine g_istore dL_isSound_398 (by decide) rfl ?_
                    refine g_aload_n dL_isSound_400 rfl ?_
                    refine g_iload dL_isSound_401 rfl ?_
                    refine g_iconst (v := nI 1) dL_isSound_403 (by decide) ?_
                    refine g_callV [_, _] dL_isSound_404 mc_L_48 mi_X4_ofDistrict se_X4_ofDistrict (q_of_1 hlt w' c_379) (w'.k (by first | rfl | assumption)) rfl rfl (Nat.le_of_ble_eq_true rfl) (am_rm hR (by decide)) (fun _ _ z => z) (fun v hx hq hE => ?_)
                    obtain ⟨rfl, rfl⟩ := hq
                    refine g_aload_n dL_isSound_407 rfl ?_
                    refine g_iload dL_isSound_408 rfl ?_
                    refine g_iconst (v := nI 1) dL_isSound_410 (by decide) ?_
                    refine g_callV [_, _] dL_isSound_411 mc_L_48 mi_X4_ofDistrict se_X4_ofDistrict (q_of_1 hlt w' c_114) (w'.k (by first | rfl | assumption)) rfl rfl (Nat.le_of_ble_eq_true rfl) (am_rm hR (by decide)) (fun _ _ z => z) (fun v hx hq hE => ?_)
                    obtain ⟨rfl, rfl⟩ := hq
                    refine g_isub dL_isSound_414 ?_
                    refine g_istore dL_isSound_415 (by decide) rfl ?_
                    refine g_iload dL_isSound_417 rfl ?_
                    refine g_if_lt 456 dL_isSound_419 (by decide) (fun c_419 => ?_) (fun c_419 => ?_)
                    · skip
                      refine g_iconst (v := 1) dL_isSound_456 (by decide) ?_
                      refine g_goto 461 dL_isSound_457 (by decide) ?_
                      refine g_istore dL_isSound_461 (by decide) rfl ?_
                      refine g_iinc dL_isSound_463 rfl (nI_i1 _) (by decide) rfl ?_
                      refine g_goto 374 dL_isSound_466 (by decide) ?_
                      refine g_ls [(14, .int (nI (i2 + 1))), (12, .int (plc Γ ord j)), (11, .int (nI j)), (10, .int 1), (9, .int 0), (8, .int (mx + (Γ 2 j 9 - Γ 2 j 10))), (7, .int (ix + Γ 2 j 3)), (6, .int (gx + Γ 2 j 8)), (5, .int (sx + 1)), (0, .ref (L 5 0)), (1, .ref (L 13 0)), (2, .ref (L 13 1)), (3, .ref (L 13 2)), (4, .ref (L 13 3))] ⟨rfl, rfl, rfl, rfl, rfl, rfl, rfl, rfl, rfl, rfl, rfl, rfl, rfl, rfl, trivial⟩ ?_
                      exact ih2 (i2 + 1) _ (by omega) (by omega) w'
                    · skip
                      refine g_iload dL_isSound_422 rfl ?_
                      refine g_iload dL_isSound_424 rfl ?_
                      refine gN_eq 456 dL_isSound_426 (by decide) (by omega) (by omega) (fun c_426 => ?_) (fun c_426 => ?_)
                      · skip
                        refine g_iconst (v := 1) dL_isSound_456 (by decide) ?_
                        refine g_goto 461 dL_isSound_457 (by decide) ?_
                        refine g_istore dL_isSound_461 (by decide) rfl ?_
                        refine g_iinc dL_isSound_463 rfl (nI_i1 _) (by decide) rfl ?_
                        refine g_goto 374 dL_isSound_466 (by decide) ?_
                        refine g_ls [(14, .int (nI (i2 + 1))), (12, .int (plc Γ ord j)), (11, .int (nI j)), (10, .int 1), (9, .int 0), (8, .int (mx + (Γ 2 j 9 - Γ 2 j 10))), (7, .int (ix + Γ 2 j 3)), (6, .int (gx + Γ 2 j 8)), (5, .int (sx + 1)), (0, .ref (L 5 0)), (1, .ref (L 13 0)), (2, .ref (L 13 1)), (3, .ref (L 13 2)), (4, .ref (L 13 3))] ⟨rfl, rfl, rfl, rfl, rfl, rfl, rfl, rfl, rfl, rfl, rfl, rfl, rfl, rfl, trivial⟩ ?_
                        exact ih2 (i2 + 1) _ (by omega) (by omega) w'
                      · skip
                        refine g_iload dL_isSound_429 rfl ?_
                        refine g_iload dL_isSound_431 rfl ?_
                        refine g_icmp_ge 444 dL_isSound_433 (by decide) (fun c_433 => ?_) (fun c_433 => ?_)
                        · skip
                          refine g_iload dL_isSound_444 rfl ?_
                          refine g_iload dL_isSound_446 rfl ?_
                          refine g_icmp_le 460 dL_isSound_448 (by decide) (fun z => absurd z ((snd_by hc hn8 c_379 c_114 c_426 (plc_st (Int32.not_lt.mp c_419)) (plc_st c_143)).2 (Int32.not_lt.mpr c_433)).1) (fun c_448 => ?_)
                          refine g_iload dL_isSound_451 rfl ?_
                          refine g_if_gt 460 dL_isSound_453 (by decide) (fun z => absurd z ((snd_by hc hn8 c_379 c_114 c_426 (plc_st (Int32.not_lt.mp c_419)) (plc_st c_143)).2 (Int32.not_lt.mpr c_433)).2) (fun c_453 => ?_)
                          refine g_iconst (v := 1) dL_isSound_456 (by decide) ?_
                          refine g_goto 461 dL_isSound_457 (by decide) ?_
                          refine g_istore dL_isSound_461 (by decide) rfl ?_
                          refine g_iinc dL_isSound_463 rfl (nI_i1 _) (by decide) rfl ?_
                          refine g_goto 374 dL_isSound_466 (by decide) ?_
                          refine g_ls [(14, .int (nI (i2 + 1))), (12, .int (plc Γ ord j)), (11, .int (nI j)), (10, .int 1), (9, .int 0), (8, .int (mx + (Γ 2 j 9 - Γ 2 j 10))), (7, .int (ix + Γ 2 j 3)), (6, .int (gx + Γ 2 j 8)), (5, .int (sx + 1)), (0, .ref (L 5 0)), (1, .ref (L 13 0)), (2, .ref (L 13 1)), (3, .ref (L 13 2)), (4, .ref (L 13 3))] ⟨rfl, rfl, rfl, rfl, rfl, rfl, rfl, rfl, rfl, rfl, rfl, rfl, rfl, rfl, trivial⟩ ?_
                          exact ih2 (i2 + 1) _ (by omega) (by omega) w'
                        · skip
                          refine g_iload dL_isSound_436 rfl ?_
                          refine g_if_lt 460 dL_isSound_438 (by decide) (fun z => absurd z ((snd_by hc hn8 c_379 c_114 c_426 (plc_st (Int32.not_lt.mp c_419)) (plc_st c_143)).1 (Int32.not_le.mp c_433))) (fun c_438 => ?_)
                          refine g_goto 456 dL_isSound_441 (by decide) ?_
                          refine g_iconst (v := 1) dL_isSound_456 (by decide) ?_
                          refine g_goto 461 dL_isSound_457 (by decide) ?_
                          refine g_istore dL_isSound_461 (by decide) rfl ?_
                          refine g_iinc dL_isSound_463 rfl (nI_i1 _) (by decide) rfl ?_
                          refine g_goto 374 dL_isSound_466 (by decide) ?_
                          refine g_ls [(14, .int (nI (i2 + 1))), (12, .int (plc Γ ord j)), (11, .int (nI j)), (10, .int 1), (9, .int 0), (8, .int (mx + (Γ 2 j 9 - Γ 2 j 10))), (7, .int (ix + Γ 2 j 3)), (6, .int (gx + Γ 2 j 8)), (5, .int (sx + 1)), (0, .ref (L 5 0)), (1, .ref (L 13 0)), (2, .ref (L 13 1)), (3, .ref (L 13 2)), (4, .ref (L 13 3))] ⟨rfl, rfl, rfl, rfl, rfl, rfl, rfl, rfl, rfl, rfl, rfl, rfl, rfl, rfl, trivial⟩ ?_
                          exact ih2 (i2 + 1) _ (by omega) (by omega) w'
              refine g_ls [(14, .int (nI 0)), (12, .int (plc Γ ord j)), (11, .int (nI j)), (10, .int 1), (9, .int 0), (8, .int (mx + (Γ 2 j 9 - Γ 2 j 10))), (7, .int (ix + Γ 2 j 3)), (6, .int (gx + Γ 2 j 8)), (5, .int (sx + 1)), (0, .ref (L 5 0)), (1, .ref (L 13 0)), (2, .ref (L 13 1)), (3, .ref (L 13 2)), (4, .ref (L 13 3))] ⟨rfl, rfl, rfl, rfl, rfl, rfl, rfl, rfl, rfl, rfl, rfl, rfl, rfl, rfl, trivial⟩ ?_
              exact lp_374 (n + 1) 0 _ (by omega) (by omega) w25
          · skip
            refine g_iconst (v := 0) dL_isSound_146 (by decide) ?_
            refine g_goto 151 dL_isSound_147 (by decide) ?_
            refine g_iadd dL_isSound_151 ?_
            refine g_istore dL_isSound_152 (by decide) rfl ?_
            refine g_iload dL_isSound_154 rfl ?_
            refine g_iload dL_isSound_156 rfl ?_
            refine g_iadd dL_isSound_158 ?_
            refine g_istore dL_isSound_159 (by decide) rfl ?_
            refine g_iload dL_isSound_161 rfl ?_
            refine g_aload_n dL_isSound_163 rfl ?_
            refine g_iload dL_isSound_164 rfl ?_
            refine g_iconst (v := nI 0) dL_isSound_166 (by decide) ?_
            refine g_callV [_, _] dL_isSound_167 mc_L_48 mi_X4_ofDistrict se_X4_ofDistrict (q_of_0 hlt w' c_114) (w'.k (by first | rfl | assumption)) rfl rfl (Nat.le_of_ble_eq_true rfl) (am_rm hR (by decide)) (fun _ _ z => z) (fun v hx hq hE => ?_)
            obtain ⟨rfl, rfl⟩ := hq
            refine g_iadd dL_isSound_170 ?_
            refine g_istore dL_isSound_171 (by decide) rfl ?_
            refine g_iload dL_isSound_173 rfl ?_
            refine g_aload_n dL_isSound_175 rfl ?_
            refine g_iload dL_isSound_176 rfl ?_
            refine g_iconst (v := nI 4) dL_isSound_178 (by decide) ?_
            refine g_callV [_, _] dL_isSound_179 mc_L_48 mi_X4_ofDistrict se_X4_ofDistrict (q_of_4 hlt w' c_114) (w'.k (by first | rfl | assumption)) rfl rfl (Nat.le_of_ble_eq_true rfl) (am_rm hR (by decide)) (fun _ _ z => z) (fun v hx hq hE => ?_)
            obtain ⟨rfl, rfl⟩ := hq
            refine g_aload_n dL_isSound_182 rfl ?_
            refine g_iload dL_isSound_183 rfl ?_
            refine g_iconst (v := nI 5) dL_isSound_185 (by decide) ?_
            refine g_callV [_, _] dL_isSound_186 mc_L_48 mi_X4_ofDistrict se_X4_ofDistrict (q_of_5 hlt w' c_114) (w'.k (by first | rfl | assumption)) rfl rfl (Nat.le_of_ble_eq_true rfl) (am_rm hR (by decide)) (fun _ _ z => z) (fun v hx hq hE => ?_)
            obtain ⟨rfl, rfl⟩ := hq
            refine g_isub dL_isSound_189 ?_
            refine g_iadd dL_isSound_190 ?_
            refine g_istore dL_isSound_191 (by decide) rfl ?_
            refine g_iload dL_isSound_193 rfl ?_
            have hz0 : Γ 0 j 0 = 0 := by
              by_cases z : Γ 0 j 0 = 0
              · exact z
              · exact absurd (plc_nn hc hn8 c_114 z) c_143
            refine g_if_ge 202 dL_isSound_195 (by decide) (fun z => absurd z c_143) (fun c_195 => ?_)
            refine g_iconst (v := 1) dL_isSound_198 (by decide) ?_
            refine g_goto 203 dL_isSound_199 (by decide) ?_
            refine g_aload_n dL_isSound_203 rfl ?_
            refine g_iload dL_isSound_204 rfl ?_
            refine g_iconst (v := nI 1) dL_isSound_206 (by decide) ?_
            refine g_callV [_, _] dL_isSound_207 mc_L_48 mi_X4_ofDistrict se_X4_ofDistrict (q_of_1 hlt w' c_114) (w'.k (by first | rfl | assumption)) rfl rfl (Nat.le_of_ble_eq_true rfl) (am_rm hR (by decide)) (fun _ _ z => z) (fun v hx hq hE => ?_)
            obtain ⟨rfl, rfl⟩ := hq
            refine g_iconst (v := (-1)) dL_isSound_210 (by decide) ?_
            refine g_icmp_ne 218 dL_isSound_211 (by decide) (fun z => absurd (if_pos hz0) z) (fun c_211 => ?_)
            refine g_iconst (v := 1) dL_isSound_214 (by decide) ?_
            refine g_goto 219 dL_isSound_215 (by decide) ?_
            refine g_icmp_ne 368 dL_isSound_219 (by decide) (fun z => absurd z (by decide)) (fun _ => ?_)
            refine g_iload dL_isSound_222 rfl ?_
            refine g_if_ge 231 dL_isSound_224 (by decide) (fun z => absurd z c_143) (fun c_224 => ?_)
            refine g_iconst (v := 1) dL_isSound_227 (by decide) ?_
            refine g_goto 232 dL_isSound_228 (by decide) ?_
            refine g_aload_n dL_isSound_232 rfl ?_
            refine g_iload dL_isSound_233 rfl ?_
            refine g_iconst (v := nI 2) dL_isSound_235 (by decide) ?_
            refine g_callV [_, _] dL_isSound_236 mc_L_48 mi_X4_ofDistrict se_X4_ofDistrict (q_of_2 hlt w' c_114) (w'.k (by first | rfl | assumption)) rfl rfl (Nat.le_of_ble_eq_true rfl) (am_rm hR (by decide)) (fun _ _ z => z) (fun v hx hq hE => ?_)
            obtain ⟨rfl, rfl⟩ := hq
            refine g_iconst (v := (-1)) dL_isSound_239 (by decide) ?_
            refine g_icmp_ne 247 dL_isSound_240 (by decide) (fun z => absurd (if_pos hz0) z) (fun c_240 => ?_)
            refine g_iconst (v := 1) dL_isSound_243 (by decide) ?_
            refine g_goto 248 dL_isSound_244 (by decide) ?_
            refine g_icmp_ne 368 dL_isSound_248 (by decide) (fun z => absurd z (by decide)) (fun _ => ?_)
            refine g_aload_n dL_isSound_251 rfl ?_
            refine g_iload dL_isSound_252 rfl ?_
            refine g_iconst (v := nI 0) dL_isSound_254 (by decide) ?_
            refine g_callV [_, _] dL_isSound_255 mc_L_48 mi_X4_ofDistrict se_X4_ofDistrict (q_of_0 hlt w' c_114) (w'.k (by first | rfl | assumption)) rfl rfl (Nat.le_of_ble_eq_true rfl) (am_rm hR (by decide)) (fun _ _ z => z) (fun v hx hq hE => ?_)
            obtain ⟨rfl, rfl⟩ := hq
            refine g_if_lt 368 dL_isSound_258 (by decide) (fun z => absurd z (fun q => by have := Int32.lt_iff_toInt_lt.mp q; rw [tI_0] at this; have := (hc.2.1 j c_114).2.2.2.2.2.2.1.1; omega)) (fun c_258 => ?_)
            refine g_aload_n dL_isSound_261 rfl ?_
            refine g_iload dL_isSound_262 rfl ?_
            refine g_iconst (v := nI 0) dL_isSound_264 (by decide) ?_
            refine g_callV [_, _] dL_isSound_265 mc_L_48 mi_X4_ofDistrict se_X4_ofDistrict (q_of_0 hlt w' c_114) (w'.k (by first | rfl | assumption)) rfl rfl (Nat.le_of_ble_eq_true rfl) (am_rm hR (by decide)) (fun _ _ z => z) (fun v hx hq hE => ?_)
            obtain ⟨rfl, rfl⟩ := hq
            refine g_aload_n dL_isSound_268 rfl ?_
            refine g_iconst (v := nI 2) dL_isSound_269 (by decide) ?_
            refine g_iload dL_isSound_270 rfl ?_
            refine g_imul dL_isSound_272 ?_
            rw [pk_mul]
            refine v_ald w' dL_isSound_273 (by first | rfl | assumption) (by first | assumption | omega | (show _ < 8; omega) | (show _ < 24; omega) | (show _ < 5; omega) | (show _ < 16; omega) | (show _ < 9; omega)) ?_
            rw [(lad j c_114).1]
            refine g_icmp_gt 368 dL_isSound_274 (by decide) (fun z => absurd z (fun q => by have := Int32.lt_iff_toInt_lt.mp q; have := (hc.2.1 j c_114).2.2.2.2.2.2.1.2; omega)) (fun c_274 => ?_)
            refine g_iload dL_isSound_277 rfl ?_
            refine g_if_lt 368 dL_isSound_279 (by decide) (fun z => absurd z (fun q => by have := Int32.lt_iff_toInt_lt.mp q; rw [tI_0] at this; have := (hc.2.1 j c_114).2.2.2.2.1.1; omega)) (fun c_279 => ?_)
            refine g_iload dL_isSound_282 rfl ?_
            refine g_if_eq 306 dL_isSound_284 (by decide) (fun c_284 => ?_) (fun c_284 => ?_)
            · skip
              refine g_aload_n dL_isSound_306 rfl ?_
              refine g_iload dL_isSound_307 rfl ?_
              refine g_callV [_] dL_isSound_309 mc_L_76 mi_X4_flowAnew se_X4_flowAnew (q_flow hlt w' hc c_114) (w'.k (by first | rfl | assumption)) rfl rfl (Nat.le_of_ble_eq_true rfl) (am_rm hR (by decide)) (fun _ _ z => z) (fun v hx hq hE => ?_)
              obtain ⟨rfl, w26⟩ := hq
              refine g_iload dL_isSound_312 rfl ?_
              refine g_icmp_ne 368 dL_isSound_314 (by decide) (fun z => absurd rfl z) (fun c_314 => ?_)
              refine g_aload_n dL_isSound_317 rfl ?_
              refine g_iload dL_isSound_318 rfl ?_
              refine g_iconst (v := nI 4) dL_isSound_320 (by decide) ?_
              refine g_callV [_, _] dL_isSound_321 mc_L_48 mi_X4_ofDistrict se_X4_ofDistrict (q_of_4 hlt w26 c_114) (w26.k (by first | rfl | assumption)) rfl rfl (Nat.le_of_ble_eq_true rfl) (am_rm hR (by decide)) (fun _ _ z => z) (fun v hx hq hE => ?_)
              obtain ⟨rfl, rfl⟩ := hq
              refine g_aload_n dL_isSound_324 rfl ?_
              refine g_iconst (v := nI 2) dL_isSound_325 (by decide) ?_
              refine g_iload dL_isSound_326 rfl ?_
              refine g_imul dL_isSound_328 ?_
              rw [pk_mul]
              refine v_ald w26 dL_isSound_329 (by first | rfl | assumption) (by first | assumption | omega | (show _ < 8; omega) | (show _ < 24; omega) | (show _ < 5; omega) | (show _ < 16; omega) | (show _ < 9; omega)) ?_
              rw [(lad j c_114).2.2.1]
              refine g_icmp_ne 368 dL_isSound_330 (by decide) (fun z => absurd rfl z) (fun c_330 => ?_)
              refine g_aload_n dL_isSound_333 rfl ?_
              refine g_iload dL_isSound_334 rfl ?_
              refine g_iconst (v := nI 5) dL_isSound_336 (by decide) ?_
              refine g_callV [_, _] dL_isSound_337 mc_L_48 mi_X4_ofDistrict se_X4_ofDistrict (q_of_5 hlt w26 c_114) (w26.k (by first | rfl | assumption)) rfl rfl (Nat.le_of_ble_eq_true rfl) (am_rm hR (by decide)) (fun _ _ z => z) (fun v hx hq hE => ?_)
              obtain ⟨rfl, rfl⟩ := hq
              refine g_aload_n dL_isSound_340 rfl ?_
              refine g_iconst (v := nI 2) dL_isSound_341 (by decide) ?_
              refine g_iload dL_isSound_342 rfl ?_
              refine g_imul dL_isSound_344 ?_
              rw [pk_mul]
              refine g_iconst (v := nI 1) dL_isSound_345 (by decide) ?_
              refine g_iadd dL_isSound_346 ?_
              rw [nI_add]
              refine v_ald w26 dL_isSound_347 (by first | rfl | assumption) (by first | assumption | omega | (show _ < 8; omega) | (show _ < 24; omega) | (show _ < 5; omega) | (show _ < 16; omega) | (show _ < 9; omega)) ?_
              rw [(lad j c_114).2.2.2]
              refine g_icmp_ne 368 dL_isSound_348 (by decide) (fun z => absurd rfl z) (fun c_348 => ?_)
              refine g_iload dL_isSound_351 rfl ?_
              refine g_aload_n dL_isSound_353 rfl ?_
              refine g_iconst (v := 1) dL_isSound_354 (by decide) ?_
              refine g_iload dL_isSound_355 rfl ?_
              refine g_ishl dL_isSound_357 ?_
              rw [m_sh j (by omega)]
              refine g_callV [_] dL_isSound_358 mc_L_79 mi_X4_most se_X4_most (q_most hlt w26 hc (m := 2 ^ j) (Nat.pow_lt_pow_right (by decide) c_114)) (w26.k (by first | rfl | assumption)) rfl rfl (Nat.le_of_ble_eq_true rfl) (am_rm hR (by decide)) (fun _ _ z => z) (fun v hx hq hE => ?_)
              obtain ⟨y1, rfl, w27, hm1⟩ := hq
              refine g_icmp_gt 368 dL_isSound_361 (by decide) (fun z => absurd z (got_one hc hn8 c_114 hm1)) (fun c_361 => ?_)
              refine g_iconst (v := 1) dL_isSound_364 (by decide) ?_
              refine g_goto 369 dL_isSound_365 (by decide) ?_
              refine g_istore dL_isSound_369 (by decide) rfl ?_
              refine g_iconst (v := nI 0) dL_isSound_371 (by decide) ?_
              refine g_istore dL_isSound_372 (by decide) rfl ?_
              have lp_374 : ∀ (f2 : Nat) (i2 : Nat) (h' : am_H), i2 ≤ n → n - i2 < f2 → VW N n p ord L Γ 4 h' → am_G k RL yL_isSound.name cL_isSound 17 (some .boolean) 1 6 Qf 374 [(14, .int (nI i2)), (12, .int (plc Γ ord j)), (11, .int (nI j)), (10, .int 1), (9, .int 0), (8, .int (mx + (Γ 2 j 9 - Γ 2 j 10))), (7, .int (ix + Γ 2 j 3)), (6, .int (gx + Γ 2 j 8)), (5, .int (sx + 0)), (0, .ref (L 5 0)), (1, .ref (L 13 0)), (2, .ref (L 13 1)), (3, .ref (L 13 2)), (4, .ref (L 13 3))] [] h' := by
                intro f2
                induction f2 with
                | zero => intro i2 h' hi2 hf2 w'; omega
                | succ f2 ih2 =>
                  intro i2 h' hi2 hf2 w'
                  refine g_iload dL_isSound_374 rfl ?_
                  refine g_aload_n dL_isSound_376 rfl ?_
                  refine g_iconst (v := nI 0) dL_isSound_377 (by decide) ?_
                  refine v_ald w' dL_isSound_378 (by first | rfl | assumption) (by first | assumption | omega | (show _ < 8; omega) | (show _ < 24; omega) | (show _ < 5; omega) | (show _ < 16; omega) | (show _ < 9; omega)) ?_
                  rw [la0]
                  refine gN_ge 469 dL_isSound_379 (by decide) (by omega) (by omega) (fun c_379 => ?_) (fun c_379 => ?_)
                  · skip
                    refine g_iinc dL_isSound_469 rfl (nI_i1 _) (by decide) rfl ?_
                    refine g_goto 109 dL_isSound_472 (by decide) ?_
                    refine g_ls [(11, .int (nI (j + 1))), (10, .int 1), (9, .int 0), (8, .int (mx + (Γ 2 j 9 - Γ 2 j 10))), (7, .int (ix + Γ 2 j 3)), (6, .int (gx + Γ 2 j 8)), (5, .int (sx + 0)), (0, .ref (L 5 0)), (1, .ref (L 13 0)), (2, .ref (L 13 1)), (3, .ref (L 13 2)), (4, .ref (L 13 3))] ⟨rfl, rfl, rfl, rfl, rfl, rfl, rfl, rfl, rfl, rfl, rfl, rfl, trivial⟩ ?_
                    refine ih (j + 1) _ _ _ _ _ (by omega) (by omega) w' ?_ (by rw [eg]; rfl) (by rw [ei]; rfl) (by rw [em]; rfl)
                    rw [es]
                    show _ = sp_sum (fun d => if Γ 0 d 0 = 0 then (0 : Int32) else 1) j + (if Γ 0 j 0 = 0 then (0 : Int32) else 1)
                    rw [if_pos hz0]
                  · skip
                    refine g_iload dL_isSound_382 rfl ?_
                    refine g_if_eq 469 dL_isSound_384 (by decide) (fun z => absurd z (by decide)) (fun _ => ?_)
                    refine g_iload dL_isSound_387 rfl ?_
                    refine g_if_lt 469 dL_isSound_389 (by decide) (fun c_389 => ?_) (fun z => absurd (Int32.not_le.mp c_143) z)
                    refine g_iinc dL_isSound_469 rfl (nI_i1 _) (by decide) rfl ?_
                    refine g_goto 109 dL_isSound_472 (by decide) ?_
                    refine g_ls [(11, .int (nI (j + 1))), (10, .int 1), (9, .int 0), (8, .int (mx + (Γ 2 j 9 - Γ 2 j 10))), (7, .int (ix + Γ 2 j 3)), (6, .int (gx + Γ 2 j 8)), (5, .int (sx + 0)), (0, .ref (L 5 0)), (1, .ref (L 13 0)), (2, .ref (L 13 1)), (3, .ref (L 13 2)), (4, .ref (L 13 3))] ⟨rfl, rfl, rfl, rfl, rfl, rfl, rfl, rfl, rfl, rfl, rfl, rfl, trivial⟩ ?_
                    refine ih (j + 1) _ _ _ _ _ (by omega) (by omega) w' ?_ (by rw [eg]; rfl) (by rw [ei]; rfl) (by rw [em]; rfl)
                    rw [es]
                    show _ = sp_sum (fun d => if Γ 0 d 0 = 0 then (0 : Int32) else 1) j + (if Γ 0 j 0 = 0 then (0 : Int32) else 1)
                    rw [if_pos hz0]
              refine g_ls [(14, .int (nI 0)), (12, .int (plc Γ ord j)), (11, .int (nI j)), (10, .int 1), (9, .int 0), (8, .int (mx + (Γ 2 j 9 - Γ 2 j 10))), (7, .int (ix + Γ 2 j 3)), (6, .int (gx + Γ 2 j 8)), (5, .int (sx + 0)), (0, .ref (L 5 0)), (1, .ref (L 13 0)), (2, .ref (L 13 1)), (3, .ref (L 13 2)), (4, .ref (L 13 3))] ⟨rfl, rfl, rfl, rfl, rfl, rfl, rfl, rfl, rfl, rfl, rfl, rfl, rfl, rfl, trivial⟩ ?_
              exact lp_374 (n + 1) 0 _ (by omega) (by omega) w27
            · skip
              refine g_aload_n dL_isSound_287 rfl ?_
              refine g_iconst (v := nI 3) dL_isSound_288 (by decide) ?_
              refine v_ald w' dL_isSound_289 (by first | rfl | assumption) (by first | assumption | omega | (show _ < 8; omega) | (show _ < 24; omega) | (show _ < 5; omega) | (show _ < 16; omega) | (show _ < 9; omega)) ?_
              rw [la3]
              refine g_iconst (v := 1) dL_isSound_290 (by decide) ?_
              refine g_icmp_ne 368 dL_isSound_291 (by decide) (fun z => absurd (f01.resolve_left (fun q => c_284 (hc.2.2.2.2.2.1 q j c_114))) z) (fun c_291 => ?_)
              refine g_iload dL_isSound_294 rfl ?_
              refine g_aload_n dL_isSound_296 rfl ?_
              refine g_iload dL_isSound_297 rfl ?_
              refine g_iconst (v := nI 2) dL_isSound_299 (by decide) ?_
              refine g_callV [_, _] dL_isSound_300 mc_L_48 mi_X4_ofDistrict se_X4_ofDistrict (q_of_2 hlt w' c_114) (w'.k (by first | rfl | assumption)) rfl rfl (Nat.le_of_ble_eq_true rfl) (am_rm hR (by decide)) (fun _ _ z => z) (fun v hx hq hE => ?_)
              obtain ⟨rfl, rfl⟩ := hq
              refine g_icmp_gt 368 dL_isSound_303 (by decide) (fun z => absurd z (fun q => by have hs : ¬ Γ 0 j 0 = 0 := fun y => c_284 ((hc.2.1 j c_114).2.2.2.1 y); rw [(unt_nn hc c_114 hs).1] at q; have := Int32.lt_iff_toInt_lt.mp q; have := (hc.2.1 j c_114).2.2.2.2.2.2.2.2 hs; omega)) (fun c_303 => ?_)
              refine g_aload_n dL_isSound_306 rfl ?_
              refine g_iload dL_isSound_307 rfl ?_
              refine g_callV [_] dL_isSound_309 mc_L_76 mi_X4_flowAnew se_X4_flowAnew (q_flow hlt w' hc c_114) (w'.k (by first | rfl | assumption)) rfl rfl (Nat.le_of_ble_eq_true rfl) (am_rm hR (by decide)) (fun _ _ z => z) (fun v hx hq hE => ?_)
              obtain ⟨rfl, w28⟩ := hq
              refine g_iload dL_isSound_312 rfl ?_
              refine g_icmp_ne 368 dL_isSound_314 (by decide) (fun z => absurd rfl z) (fun c_314 => ?_)
              refine g_aload_n dL_isSound_317 rfl ?_
              refine g_iload dL_isSound_318 rfl ?_
              refine g_iconst (v := nI 4) dL_isSound_320 (by decide) ?_
              refine g_callV [_, _] dL_isSound_321 mc_L_48 mi_X4_ofDistrict se_X4_ofDistrict (q_of_4 hlt w28 c_114) (w28.k (by first | rfl | assumption)) rfl rfl (Nat.le_of_ble_eq_true rfl) (am_rm hR (by decide)) (fun _ _ z => z) (fun v hx hq hE => ?_)
              obtain ⟨rfl, rfl⟩ := hq
              refine g_aload_n dL_isSound_324 rfl ?_
              refine g_iconst (v := nI 2) dL_isSound_325 (by decide) ?_
              refine g_iload dL_isSound_326 rfl ?_
              refine g_imul dL_isSound_328 ?_
              rw [pk_mul]
              refine v_ald w28 dL_isSound_329 (by first | rfl | assumption) (by first | assumption | omega | (show _ < 8; omega) | (show _ < 24; omega) | (show _ < 5; omega) | (show _ < 16; omega) | (show _ < 9; omega)) ?_
              rw [(lad j c_114).2.2.1]
              refine g_icmp_ne 368 dL_isSound_330 (by decide) (fun z => absurd rfl z) (fun c_330 => ?_)
              refine g_aload_n dL_isSound_333 rfl ?_
              refine g_iload dL_isSound_334 rfl ?_
              refine g_iconst (v := nI 5) dL_isSound_336 (by decide) ?_
              refine g_callV [_, _] dL_isSound_337 mc_L_48 mi_X4_ofDistrict se_X4_ofDistrict (q_of_5 hlt w28 c_114) (w28.k (by first | rfl | assumption)) rfl rfl (Nat.le_of_ble_eq_true rfl) (am_rm hR (by decide)) (fun _ _ z => z) (fun v hx hq hE => ?_)
              obtain ⟨rfl, rfl⟩ := hq
              refine g_aload_n dL_isSound_340 rfl ?_
              refine g_iconst (v := nI 2) dL_isSound_341 (by decide) ?_
              refine g_iload dL_isSound_342 rfl ?_
              refine g_imul dL_isSound_344 ?_
              rw [pk_mul]
              refine g_iconst (v := nI 1) dL_isSound_345 (by decide) ?_
              refine g_iadd dL_isSound_346 ?_
              rw [nI_add]
              refine v_ald w28 dL_isSound_347 (by first | rfl | assumption) (by first | assumption | omega | (show _ < 8; omega) | (show _ < 24; omega) | (show _ < 5; omega) | (show _ < 16; omega) | (show _ < 9; omega)) ?_
              rw [(lad j c_114).2.2.2]
              refine g_icmp_ne 368 dL_isSound_348 (by decide) (fun z => absurd rfl z) (fun c_348 => ?_)
              refine g_iload dL_isSound_351 rfl ?_
              refine g_aload_n dL_isSound_353 rfl ?_
              refine g_iconst (v := 1) dL_isSound_354 (by decide) ?_
              refine g_iload dL_isSound_355 rfl ?_
              refine g_ishl dL_isSound_357 ?_
              rw [m_sh j (by omega)]
              refine g_callV [_] dL_isSound_358 mc_L_79 mi_X4_most se_X4_most (q_most hlt w28 hc (m := 2 ^ j) (Nat.pow_lt_pow_right (by decide) c_114)) (w28.k (by first | rfl | assumption)) rfl rfl (Nat.le_of_ble_eq_true rfl) (am_rm hR (by decide)) (fun _ _ z => z) (fun v hx hq hE => ?_)
              obtain ⟨y1, rfl, w29, hm1⟩ := hq
              refine g_icmp_gt 368 dL_isSound_361 (by decide) (fun z => absurd z (got_one hc hn8 c_114 hm1)) (fun c_361 => ?_)
              refine g_iconst (v := 1) dL_isSound_364 (by decide) ?_
              refine g_goto 369 dL_isSound_365 (by decide) ?_
              refine g_istore dL_isSound_369 (by decide) rfl ?_
              refine g_iconst (v := nI 0) dL_isSound_371 (by decide) ?_
              refine g_istore dL_isSound_372 (by decide) rfl ?_
              have lp_374 : ∀ (f2 : Nat) (i2 : Nat) (h' : am_H), i2 ≤ n → n - i2 < f2 → VW N n p ord L Γ 4 h' → am_G k RL yL_isSound.name cL_isSound 17 (some .boolean) 1 6 Qf 374 [(14, .int (nI i2)), (12, .int (plc Γ ord j)), (11, .int (nI j)), (10, .int 1), (9, .int 0), (8, .int (mx + (Γ 2 j 9 - Γ 2 j 10))), (7, .int (ix + Γ 2 j 3)), (6, .int (gx + Γ 2 j 8)), (5, .int (sx + 0)), (0, .ref (L 5 0)), (1, .ref (L 13 0)), (2, .ref (L 13 1)), (3, .ref (L 13 2)), (4, .ref (L 13 3))] [] h' := by
                intro f2
                induction f2 with
                | zero => intro i2 h' hi2 hf2 w'; omega
                | succ f2 ih2 =>
                  intro i2 h' hi2 hf2 w'
                  refine g_iload dL_isSound_374 rfl ?_
                  refine g_aload_n dL_isSound_376 rfl ?_
                  refine g_iconst (v := nI 0) dL_isSound_377 (by decide) ?_
                  refine v_ald w' dL_isSound_378 (by first | rfl | assumption) (by first | assumption | omega | (show _ < 8; omega) | (show _ < 24; omega) | (show _ < 5; omega) | (show _ < 16; omega) | (show _ < 9; omega)) ?_
                  rw [la0]
                  refine gN_ge 469 dL_isSound_379 (by decide) (by omega) (by omega) (fun c_379 => ?_) (fun c_379 => ?_)
                  · skip
                    refine g_iinc dL_isSound_469 rfl (nI_i1 _) (by decide) rfl ?_
                    refine g_goto 109 dL_isSound_472 (by decide) ?_
                    refine g_ls [(11, .int (nI (j + 1))), (10, .int 1), (9, .int 0), (8, .int (mx + (Γ 2 j 9 - Γ 2 j 10))), (7, .int (ix + Γ 2 j 3)), (6, .int (gx + Γ 2 j 8)), (5, .int (sx + 0)), (0, .ref (L 5 0)), (1, .ref (L 13 0)), (2, .ref (L 13 1)), (3, .ref (L 13 2)), (4, .ref (L 13 3))] ⟨rfl, rfl, rfl, rfl, rfl, rfl, rfl, rfl, rfl, rfl, rfl, rfl, trivial⟩ ?_
                    refine ih (j + 1) _ _ _ _ _ (by omega) (by omega) w' ?_ (by rw [eg]; rfl) (by rw [ei]; rfl) (by rw [em]; rfl)
                    rw [es]
                    show _ = sp_sum (fun d => if Γ 0 d 0 = 0 then (0 : Int32) else 1) j + (if Γ 0 j 0 = 0 then (0 : Int32) else 1)
                    rw [if_pos hz0]
                  · skip
                    refine g_iload dL_isSound_382 rfl ?_
                    refine g_if_eq 469 dL_isSound_384 (by decide) (fun z => absurd z (by decide)) (fun _ => ?_)
                    refine g_iload dL_isSound_387 rfl ?_
                    refine g_if_lt 469 dL_isSound_389 (by decide) (fun c_389 => ?_) (fun z => absurd (Int32.not_le.mp c_143) z)
                    refine g_iinc dL_isSound_469 rfl (nI_i1 _) (by decide) rfl ?_
                    refine g_goto 109 dL_isSound_472 (by decide) ?_
                    refine g_ls [(11, .int (nI (j + 1))), (10, .int 1), (9, .int 0), (8, .int (mx + (Γ 2 j 9 - Γ 2 j 10))), (7, .int (ix + Γ 2 j 3)), (6, .int (gx + Γ 2 j 8)), (5, .int (sx + 0)), (0, .ref (L 5 0)), (1, .ref (L 13 0)), (2, .ref (L 13 1)), (3, .ref (L 13 2)), (4, .ref (L 13 3))] ⟨rfl, rfl, rfl, rfl, rfl, rfl, rfl, rfl, rfl, rfl, rfl, rfl, trivial⟩ ?_
                    refine ih (j + 1) _ _ _ _ _ (by omega) (by omega) w' ?_ (by rw [eg]; rfl) (by rw [ei]; rfl) (by rw [em]; rfl)
                    rw [es]
                    show _ = sp_sum (fun d => if Γ 0 d 0 = 0 then (0 : Int32) else 1) j + (if Γ 0 j 0 = 0 then (0 : Int32) else 1)
                    rw [if_pos hz0]
              refine g_ls [(14, .int (nI 0)), (12, .int (plc Γ ord j)), (11, .int (nI j)), (10, .int 1), (9, .int 0), (8, .int (mx + (Γ 2 j 9 - Γ 2 j 10))), (7, .int (ix + Γ 2 j 3)), (6, .int (gx + Γ 2 j 8)), (5, .int (sx + 0)), (0, .ref (L 5 0)), (1, .ref (L 13 0)), (2, .ref (L 13 1)), (3, .ref (L 13 2)), (4, .ref (L 13 3))] ⟨rfl, rfl, rfl, rfl, rfl, rfl, rfl, rfl, rfl, rfl, rfl, rfl, rfl, rfl, trivial⟩ ?_
              exact lp_374 (n + 1) 0 _ (by omega) (by omega) w29
    refine g_ls [(11, .int (nI 0)), (10, .int 1), (9, .int 0), (8, .int 0), (7, .int 0), (6, .int 0), (5, .int 0), (0, .ref (L 5 0)), (1, .ref (L 13 0)), (2, .ref (L 13 1)), (3, .ref (L 13 2)), (4, .ref (L 13 3))] ⟨rfl, rfl, rfl, rfl, rfl, rfl, rfl, rfl, rfl, rfl, rfl, rfl, trivial⟩ ?_
    exact lp_109 (n + 1) 0 0 0 0 0 _ (by omega) (by omega) w1 rfl rfl rfl rfl
  refine g_iconst (v := 0) dL_isSound_0 (by decide) ?_
  refine g_istore dL_isSound_1 (by decide) rfl ?_
  refine g_iconst (v := 0) dL_isSound_3 (by decide) ?_
  refine g_istore dL_isSound_4 (by decide) rfl ?_
  refine g_iconst (v := 0) dL_isSound_6 (by decide) ?_
  refine g_istore dL_isSound_7 (by decide) rfl ?_
  refine g_iconst (v := 0) dL_isSound_9 (by decide) ?_
  refine g_istore dL_isSound_10 (by decide) rfl ?_
  refine g_iconst (v := 0) dL_isSound_12 (by decide) ?_
  refine g_istore dL_isSound_13 (by decide) rfl ?_
  refine g_aload_n dL_isSound_15 rfl ?_
  refine g_callV [] dL_isSound_16 mc_L_60 mi_X4_hour se_X4_hour (q_hour hlt w) (w.k (by first | rfl | assumption)) rfl rfl (Nat.le_of_ble_eq_true rfl) (am_rm hR (by decide)) (fun _ _ z => z) (fun v hx hq hE => ?_)
  obtain ⟨rfl, rfl⟩ := hq
  refine g_aload_n dL_isSound_19 rfl ?_
  refine g_iconst (v := nI 2) dL_isSound_20 (by decide) ?_
  refine v_ald w dL_isSound_21 (by first | rfl | assumption) (by first | assumption | omega | (show _ < 8; omega) | (show _ < 24; omega) | (show _ < 5; omega) | (show _ < 16; omega) | (show _ < 9; omega)) ?_
  rw [la2]
  refine g_icmp_ne 103 dL_isSound_22 (by decide) (fun z => absurd rfl z) (fun c_22 => ?_)
  refine g_aload_n dL_isSound_25 rfl ?_
  refine g_callV [] dL_isSound_26 mc_L_63 mi_X4_round se_X4_round (q_round hlt w) (w.k (by first | rfl | assumption)) rfl rfl (Nat.le_of_ble_eq_true rfl) (am_rm hR (by decide)) (fun _ _ z => z) (fun v hx hq hE => ?_)
  obtain ⟨rfl, rfl⟩ := hq
  refine g_iconst (v := (-1)) dL_isSound_29 (by decide) ?_
  refine g_icmp_ne 37 dL_isSound_30 (by decide) (fun c_30 => ?_) (fun c_30 => ?_)
  · skip
    refine g_iconst (v := 0) dL_isSound_37 (by decide) ?_
    refine g_aload_n dL_isSound_38 rfl ?_
    refine g_iconst (v := nI 3) dL_isSound_39 (by decide) ?_
    refine v_ald w dL_isSound_40 (by first | rfl | assumption) (by first | assumption | omega | (show _ < 8; omega) | (show _ < 24; omega) | (show _ < 5; omega) | (show _ < 16; omega) | (show _ < 9; omega)) ?_
    rw [la3]
    refine g_iconst (v := 1) dL_isSound_41 (by decide) ?_
    refine g_icmp_ne 49 dL_isSound_42 (by decide) (fun c_42 => ?_) (fun z => absurd (if_neg (by rw [z]; decide)) c_30)
    refine g_iconst (v := 0) dL_isSound_49 (by decide) ?_
    refine g_icmp_ne 103 dL_isSound_50 (by decide) (fun z => absurd z (by decide)) (fun _ => ?_)
    refine g_ls [(9, .int 0), (8, .int 0), (7, .int 0), (6, .int 0), (5, .int 0), (0, .ref (L 5 0)), (1, .ref (L 13 0)), (2, .ref (L 13 1)), (3, .ref (L 13 2)), (4, .ref (L 13 3))] ⟨rfl, rfl, rfl, rfl, rfl, rfl, rfl, rfl, rfl, rfl, trivial⟩ ?_
    exact rest
  · skip
    refine g_iconst (v := 1) dL_isSound_33 (by decide) ?_
    refine g_goto 38 dL_isSound_34 (by decide) ?_
    refine g_aload_n dL_isSound_38 rfl ?_
    refine g_iconst (v := nI 3) dL_isSound_39 (by decide) ?_
    refine v_ald w dL_isSound_40 (by first | rfl | assumption) (by first | assumption | omega | (show _ < 8; omega) | (show _ < 24; omega) | (show _ < 5; omega) | (show _ < 16; omega) | (show _ < 9; omega)) ?_
    rw [la3]
    refine g_iconst (v := 1) dL_isSound_41 (by decide) ?_
    refine g_icmp_ne 49 dL_isSound_42 (by decide) (fun z => absurd (f01.resolve_left (fun q => by rw [if_pos q] at c_30; rw [c_30, I_m1] at r04; omega)) z) (fun c_42 => ?_)
    refine g_iconst (v := 1) dL_isSound_45 (by decide) ?_
    refine g_goto 50 dL_isSound_46 (by decide) ?_
    refine g_icmp_ne 103 dL_isSound_50 (by decide) (fun z => absurd z (by decide)) (fun _ => ?_)
    refine g_ls [(9, .int 0), (8, .int 0), (7, .int 0), (6, .int 0), (5, .int 0), (0, .ref (L 5 0)), (1, .ref (L 13 0)), (2, .ref (L 13 1)), (3, .ref (L 13 2)), (4, .ref (L 13 3))] ⟨rfl, rfl, rfl, rfl, rfl, rfl, rfl, rfl, rfl, rfl, trivial⟩ ?_
    exact rest
