theorem I_1s (n : Nat) : nI (n + 1) - nI 1 = nI n := by rw [← nI_add, Int32.add_sub_cancel]
theorem I_from {q n : Nat} (h : q ≤ n) (hn : n ≤ 8) {fv : Int32} (e : fv = nI q - nI 1) : (fv = -1 ∧ q = 0) ∨ ∃ i, i < n ∧ fv = nI i ∧ q = i + 1 := by
  rcases q with _ | i
  · left
    rw [e]
    exact ⟨by decide, rfl⟩
  · right
    rw [I_1s] at e
    exact ⟨i, by omega, e, rfl⟩
theorem LT.c0 {n p : Nat} {Γ : Nat → Nat → Nat → Int32} (q : LT n p Γ) : Γ 13 0 0 = nI n := q.1
set_option maxRecDepth 100000 in
set_option maxHeartbeats 4000000 in
theorem c_others {l : Launch} (hlt : l.stackTraces = false) {N n p : Nat} {ord : List Nat} {L : Nat → Nat → Nat} {Γ : Nat → Nat → Nat → Int32} {h : am_H} (w : VW N n p ord L Γ 4 h) {T : Nat} {A B : Nat → Nat} (hc : CI T n p A B ord Γ) (la : LT n p Γ) (h3 : 3 ≤ n ∧ 3 ≤ p) {x y : Nat} (hx : x < 2 ^ 31) (hy : y < 2 ^ 31) : am_Con l yL_others (.code yL_others cL_others 10 (some .boolean)) 30 4 130 [.ref (L 5 0), .int (nI x), .int (nI y), .ref (L 13 0), .ref (L 13 1), .ref (L 13 3)] h (fun v h' => v = some (.int 1) ∧ SS (T + 1) N L Γ h') (fun _ _ => False) := by
  refine am_body hlt (by decide +kernel) (Nat.le_of_ble_eq_true rfl) (fun k hl hR h0 hno => ?_)
  subst hl
  obtain ⟨Qf, hQ⟩ : ∃ Qf, Qf = am_Q k 4 130 (fun v h' => v = some (.int 1) ∧ SS (T + 1) N L Γ h') (fun _ _ => False) := ⟨_, rfl⟩
  rw [← hQ]
  obtain ⟨la0, la1, la2, la3, la4, lad, lap, lan, lapn⟩ := id la
  have hn8 := w.w0.1
  have hp24 := w.w0.2.1
  have f01 : Γ 5 0 5 = 0 ∨ Γ 5 0 5 = 1 := hc.1.2.2.1
  refine g_iload_n dL_others_0 rfl ?_
  refine g_iconst (v := nI 4) dL_others_1 (by decide) ?_
  refine g_irem dL_others_2 (by decide) ?_
  rw [pk_rem hx (by decide) (by decide)]
  refine g_istore dL_others_3 (by decide) rfl ?_
  refine g_iload dL_others_5 rfl ?_
  refine g_if_ne 106 dL_others_7 (by decide) (fun c_7 => ?_) (fun c_7 => ?_)
  · skip
    refine g_iload dL_others_106 rfl ?_
    refine g_iconst (v := 1) dL_others_108 (by decide) ?_
    refine g_icmp_ne 225 dL_others_109 (by decide) (fun c_109 => ?_) (fun c_109 => ?_)
    · skip
      refine g_iload dL_others_225 rfl ?_
      refine g_iconst (v := 2) dL_others_227 (by decide) ?_
      refine g_icmp_ne 313 dL_others_228 (by decide) (fun c_228 => ?_) (fun c_228 => ?_)
      · skip
        refine g_iload_n dL_others_313 rfl ?_
        refine g_aload_n dL_others_314 rfl ?_
        refine g_iconst (v := nI 0) dL_others_315 (by decide) ?_
        refine v_ald w dL_others_316 (by first | rfl | assumption) (by first | assumption | omega | (show _ < 8; omega) | (show _ < 24; omega) | (show _ < 5; omega) | (show _ < 16; omega) | (show _ < 9; omega)) ?_
        rw [la0]
        refine g_irem dL_others_317 (nz_I (by omega) (by omega)) ?_
        rw [pk_rem hy (by omega) (by omega)]
        obtain ⟨kd, ek⟩ : ∃ kd, kd = y % n := ⟨_, rfl⟩
        have hk : kd < n := by rw [ek]; exact Nat.mod_lt _ (by omega)
        rw [← ek]
        refine g_istore dL_others_318 (by decide) rfl ?_
        refine g_aload dL_others_320 rfl ?_
        refine g_iconst (v := nI 2) dL_others_322 (by decide) ?_
        refine g_iload dL_others_323 rfl ?_
        refine g_imul dL_others_325 ?_
        rw [pk_mul]
        refine g_iconst (v := nI 1) dL_others_326 (by decide) ?_
        refine g_iadd dL_others_327 ?_
        rw [nI_add]
        refine v_ald w dL_others_328 (by first | rfl | assumption) (by first | assumption | omega | (show _ < 8; omega) | (show _ < 24; omega) | (show _ < 5; omega) | (show _ < 16; omega) | (show _ < 9; omega)) ?_
        rw [(lad kd hk).2.1]
        refine g_istore dL_others_329 (by decide) rfl ?_
        refine g_aload dL_others_331 rfl ?_
        refine g_iconst (v := nI 2) dL_others_333 (by decide) ?_
        refine g_iload dL_others_334 rfl ?_
        refine g_imul dL_others_336 ?_
        rw [pk_mul]
        refine g_iconst (v := nI 1) dL_others_337 (by decide) ?_
        refine g_iadd dL_others_338 ?_
        rw [nI_add]
        refine g_iload_n dL_others_339 rfl ?_
        refine g_bipush (v := nI 8) dL_others_340 (by decide) ?_
        refine g_idiv dL_others_342 (by decide) ?_
        rw [pk_div hy (by decide) (by decide)]
        refine g_bipush (v := nI 90) dL_others_343 (by decide) ?_
        refine g_irem dL_others_345 (by decide) ?_
        rw [pk_rem (by omega) (by decide) (by decide)]
        obtain ⟨nd, end_⟩ : ∃ nd, nd = y / 8 % 90 := ⟨_, rfl⟩
        have hnd : nd ≤ 999 := by omega
        rw [← end_]
        refine v_ast w dL_others_346 (by first | rfl | assumption) (by first | assumption | omega | (show _ < 8; omega) | (show _ < 24; omega) | (show _ < 5; omega) | (show _ < 16; omega) | (show _ < 9; omega)) (fun h1 w1 => ?_)
        refine g_aload_n dL_others_347 rfl ?_
        refine g_iload dL_others_348 rfl ?_
        refine g_iload_n dL_others_350 rfl ?_
        refine g_bipush (v := nI 8) dL_others_351 (by decide) ?_
        refine g_idiv dL_others_353 (by decide) ?_
        rw [pk_div hy (by decide) (by decide)]
        refine g_bipush (v := nI 90) dL_others_354 (by decide) ?_
        refine g_irem dL_others_356 (by decide) ?_
        rw [pk_rem (by omega) (by decide) (by decide)]
        rw [← end_]
        refine g_callV [_, _] dL_others_357 mc_L_86 mi_X4_need se_X4_need (k_need hlt w1 hk hnd) (w1.k (by first | rfl | assumption)) rfl rfl (Nat.le_of_ble_eq_true rfl) (am_rm hR (by decide)) (fun _ _ z => z) (fun v hx hq hE => ?_)
        obtain ⟨rfl, w2⟩ := hq
        rw [u3_n (by omega)]
        refine g_iload dL_others_360 rfl ?_
        refine g_icmp_ne 407 dL_others_362 (by decide) (fun z => absurd rfl z) (fun c_362 => ?_)
        refine g_aload_n dL_others_365 rfl ?_
        refine g_iconst (v := 2) dL_others_366 (by decide) ?_
        refine g_iload_n dL_others_367 rfl ?_
        refine g_sipush (v := nI 720) dL_others_368 (by decide) ?_
        refine g_idiv dL_others_371 (by decide) ?_
        rw [pk_div hy (by decide) (by decide)]
        refine g_sipush (v := nI 600) dL_others_372 (by decide) ?_
        refine g_irem dL_others_375 (by decide) ?_
        rw [pk_rem (by omega) (by decide) (by decide)]
        refine g_iconst (v := 0) dL_others_376 (by decide) ?_
        refine g_iconst (v := 0) dL_others_377 (by decide) ?_
        by_cases hf : Γ 5 0 5 = 0
        · skip
          refine g_callSX [_, _, _, _, _] dL_others_378 mcw_asks (ka_source_0 hlt w2 (by omega) (by rw [u3_n (by omega), u3_n (by omega)]; exact hf)) rfl (Nat.le_of_ble_eq_true rfl) (am_rm hR (by decide)) (fun _ _ z => z) (fun v hx hq hE => ?_)
          obtain ⟨rfl, w3⟩ := hq
          rw [u3_n (by omega), u3_n (by omega)]
          obtain ⟨G, eG⟩ : ∃ G, G = u3 (u3 (u3 Γ 13 1 (2 * kd + 1) (nI nd)) 2 kd 2 (nI nd)) 3 0 1 (nI (y / 720 % 600)) := ⟨_, rfl⟩
          rw [← eG] at w3
          have g3 : G 13 0 3 = Γ 5 0 5 := by rw [eG, u3_n (by omega), u3_n (by omega), u3_n (by omega)]; exact la3
          refine g_if_lt 388 dL_others_381 (by decide) (fun z => absurd z (fun q1 => by have h1 := hc.1.2.2.2.2.1.1; have := Int32.lt_iff_toInt_lt.mp q1; rw [tI_0] at this; omega)) (fun c_381 => ?_)
          refine g_iconst (v := 1) dL_others_384 (by decide) ?_
          refine g_goto 389 dL_others_385 (by decide) ?_
          refine g_aload_n dL_others_389 rfl ?_
          refine g_iconst (v := nI 3) dL_others_390 (by decide) ?_
          refine v_ald w3 dL_others_391 (by first | rfl | assumption) (by first | assumption | omega | (show _ < 8; omega) | (show _ < 24; omega) | (show _ < 5; omega) | (show _ < 16; omega) | (show _ < 9; omega)) ?_
          rw [g3]
          refine g_if_ne 399 dL_others_392 (by decide) (fun z => absurd hf z) (fun c_392 => ?_)
          refine g_iconst (v := 1) dL_others_395 (by decide) ?_
          refine g_goto 400 dL_others_396 (by decide) ?_
          refine g_icmp_ne 407 dL_others_400 (by decide) (fun z => absurd z (by decide)) (fun _ => ?_)
          refine g_iconst (v := 1) dL_others_403 (by decide) ?_
          refine g_goto 408 dL_others_404 (by decide) ?_
          rw [hQ]
          refine g_iret dL_others_408 rfl rfl (by decide) (by decide) ?_
          have k1 : CI T n p A B ord (u3 Γ 2 kd 2 (nI nd)) := keep_need hc (by rw [nI_toInt (by omega)]; omega) (by rw [nI_toInt (by omega)]; omega)
          have k2 : CI T n p A B ord (u3 (u3 Γ 2 kd 2 (nI nd)) 3 0 1 (nI (y / 720 % 600))) := keep_source k1 (by rw [u3_n (by omega)]; exact hf) (by rw [nI_toInt (by omega)]; omega) (by rw [nI_toInt (by omega)]; omega)
          have kG : CI T n p A B ord G := k2.congr (fun c a b z => by
            have z13 : ¬ c = 13 := fun y => z (by unfold irr; omega)
            rw [eG]
            show _ = u3 (u3 Γ 2 kd 2 (nI nd)) 3 0 1 (nI (y / 720 % 600)) c a b
            rw [u3_ap, u3_ap, u3_ap, u3_ap, u3_ap, if_neg (show ¬ (c = 13 ∧ a = 1 ∧ b = 2 * kd + 1) from fun y => z13 y.1)])
          have hG : ∀ c a b, ¬ (c = 13 ∧ a = 1 ∧ b = 2 * kd + 1) → ¬ (c = 2 ∧ a = kd ∧ b = 2) → ¬ c = 3 → G c a b = Γ c a b := fun c a b z1 z2 z3 => by rw [eG, u3_n (by omega), u3_n (by omega), u3_n (by omega)]
          have t1 : G 13 1 (2 * kd + 1) = nI nd := by rw [eG, u3_n (by omega), u3_n (by omega), u3_s]
          have t2 : G 2 kd 2 = nI nd := by rw [eG, u3_n (by omega), u3_s]
          refine ⟨rfl, n, p, A, B, ord, L, G, w3, kG.mono (Nat.le_succ T), ⟨(hG 13 0 0 (by omega) (by omega) (by omega)).trans la0, (hG 13 0 1 (by omega) (by omega) (by omega)).trans la1, ?_, ?_, ?_, fun d hd => ?_, fun q hq => ?_, fun d hd => ?_, fun q hq => (hG 13 3 q (by omega) (by omega) (by omega)).trans (lapn q hq)⟩, h3, LK.rf, fun q => hG 15 0 q (by omega) (by omega) (by omega)⟩
          · rw [hG 13 0 2 (by omega) (by omega) (by omega), hG 5 0 3 (by omega) (by omega) (by omega)]; exact la2
          · rw [hG 13 0 3 (by omega) (by omega) (by omega), hG 5 0 5 (by omega) (by omega) (by omega)]; exact la3
          · rw [hG 13 0 4 (by omega) (by omega) (by omega), hG 5 0 8 (by omega) (by omega) (by omega)]; exact la4
          · obtain ⟨d1, d2, d3, d4⟩ := lad d hd
            rw [hG 13 1 (2 * d) (by omega) (by omega) (by omega), hG 13 2 (2 * d) (by omega) (by omega) (by omega), hG 13 2 (2 * d + 1) (by omega) (by omega) (by omega), hG 2 d 1 (by omega) (by omega) (by omega), hG 2 d 9 (by omega) (by omega) (by omega), hG 2 d 10 (by omega) (by omega) (by omega)]
            refine ⟨d1, ?_, d3, d4⟩
            by_cases e : d = kd
            · rw [e, t1, t2]
            · rw [hG 13 1 (2 * d + 1) (by omega) (by omega) (by omega), hG 2 d 2 (by omega) (by omega) (by omega)]
              exact d2
          · rw [hG 13 3 q (by omega) (by omega) (by omega), hG 4 q 3 (by omega) (by omega) (by omega)]
            exact lap q hq
          · rw [hG 13 2 _ (by omega) (by omega) (by omega), hG 13 2 _ (by omega) (by omega) (by omega)]
            exact lan d hd
        · skip
          refine g_callSX [_, _, _, _, _] dL_others_378 mcw_asks (ka_source_8 hlt w2 (by omega) (by rw [u3_n (by omega), u3_n (by omega)]; exact hf)) rfl (Nat.le_of_ble_eq_true rfl) (am_rm hR (by decide)) (fun _ _ z => z) (fun v hx hq hE => ?_)
          obtain ⟨rfl, w4⟩ := hq
          obtain ⟨G, eG⟩ : ∃ G, G = u3 (u3 Γ 13 1 (2 * kd + 1) (nI nd)) 2 kd 2 (nI nd) := ⟨_, rfl⟩
          rw [← eG] at w4
          have g3 : G 13 0 3 = Γ 5 0 5 := by rw [eG, u3_n (by omega), u3_n (by omega)]; exact la3
          refine g_if_lt 388 dL_others_381 (by decide) (fun c_381 => ?_) (fun z => absurd (by decide) z)
          refine g_iconst (v := 0) dL_others_388 (by decide) ?_
          refine g_aload_n dL_others_389 rfl ?_
          refine g_iconst (v := nI 3) dL_others_390 (by decide) ?_
          refine v_ald w4 dL_others_391 (by first | rfl | assumption) (by first | assumption | omega | (show _ < 8; omega) | (show _ < 24; omega) | (show _ < 5; omega) | (show _ < 16; omega) | (show _ < 9; omega)) ?_
          rw [g3]
          refine g_if_ne 399 dL_others_392 (by decide) (fun c_392 => ?_) (fun z => absurd z hf)
          refine g_iconst (v := 0) dL_others_399 (by decide) ?_
          refine g_icmp_ne 407 dL_others_400 (by decide) (fun z => absurd z (by decide)) (fun _ => ?_)
          refine g_iconst (v := 1) dL_others_403 (by decide) ?_
          refine g_goto 408 dL_others_404 (by decide) ?_
          rw [hQ]
          refine g_iret dL_others_408 rfl rfl (by decide) (by decide) ?_
          have k1 : CI T n p A B ord (u3 Γ 2 kd 2 (nI nd)) := keep_need hc (by rw [nI_toInt (by omega)]; omega) (by rw [nI_toInt (by omega)]; omega)
          have kG : CI T n p A B ord G := k1.congr (fun c a b z => by
            have z13 : ¬ c = 13 := fun y => z (by unfold irr; omega)
            rw [eG]
            show _ = u3 Γ 2 kd 2 (nI nd) c a b
            rw [u3_ap, u3_ap, u3_ap, if_neg (show ¬ (c = 13 ∧ a = 1 ∧ b = 2 * kd + 1) from fun y => z13 y.1)])
          have hG : ∀ c a b, ¬ (c = 13 ∧ a = 1 ∧ b = 2 * kd + 1) → ¬ (c = 2 ∧ a = kd ∧ b = 2) → ¬ c = 3 → G c a b = Γ c a b := fun c a b z1 z2 z3 => by rw [eG, u3_n (by omega), u3_n (by omega)]
          have t1 : G 13 1 (2 * kd + 1) = nI nd := by rw [eG, u3_n (by omega), u3_s]
          have t2 : G 2 kd 2 = nI nd := by rw [eG, u3_s]
          refine ⟨rfl, n, p, A, B, ord, L, G, w4, kG.mono (Nat.le_succ T), ⟨(hG 13 0 0 (by omega) (by omega) (by omega)).trans la0, (hG 13 0 1 (by omega) (by omega) (by omega)).trans la1, ?_, ?_, ?_, fun d hd => ?_, fun q hq => ?_, fun d hd => ?_, fun q hq => (hG 13 3 q (by omega) (by omega) (by omega)).trans (lapn q hq)⟩, h3, LK.rf, fun q => hG 15 0 q (by omega) (by omega) (by omega)⟩
          · rw [hG 13 0 2 (by omega) (by omega) (by omega), hG 5 0 3 (by omega) (by omega) (by omega)]; exact la2
          · rw [hG 13 0 3 (by omega) (by omega) (by omega), hG 5 0 5 (by omega) (by omega) (by omega)]; exact la3
          · rw [hG 13 0 4 (by omega) (by omega) (by omega), hG 5 0 8 (by omega) (by omega) (by omega)]; exact la4
          · obtain ⟨d1, d2, d3, d4⟩ := lad d hd
            rw [hG 13 1 (2 * d) (by omega) (by omega) (by omega), hG 13 2 (2 * d) (by omega) (by omega) (by omega), hG 13 2 (2 * d + 1) (by omega) (by omega) (by omega), hG 2 d 1 (by omega) (by omega) (by omega), hG 2 d 9 (by omega) (by omega) (by omega), hG 2 d 10 (by omega) (by omega) (by omega)]
            refine ⟨d1, ?_, d3, d4⟩
            by_cases e : d = kd
            · rw [e, t1, t2]
            · rw [hG 13 1 (2 * d + 1) (by omega) (by omega) (by omega), hG 2 d 2 (by omega) (by omega) (by omega)]
              exact d2
          · rw [hG 13 3 q (by omega) (by omega) (by omega), hG 4 q 3 (by omega) (by omega) (by omega)]
            exact lap q hq
          · rw [hG 13 2 _ (by omega) (by omega) (by omega), hG 13 2 _ (by omega) (by omega) (by omega)]
            exact lan d hd
        
      · skip
        refine g_iload_n dL_others_231 rfl ?_
        refine g_aload_n dL_others_232 rfl ?_
        refine g_iconst (v := nI 1) dL_others_233 (by decide) ?_
        refine v_ald w dL_others_234 (by first | rfl | assumption) (by first | assumption | omega | (show _ < 8; omega) | (show _ < 24; omega) | (show _ < 5; omega) | (show _ < 16; omega) | (show _ < 9; omega)) ?_
        rw [la1]
        refine g_irem dL_others_235 (nz_I (by omega) (by omega)) ?_
        rw [pk_rem hy (by omega) (by omega)]
        obtain ⟨kd, ek⟩ : ∃ kd, kd = y % p := ⟨_, rfl⟩
        have hk : kd < p := by rw [ek]; exact Nat.mod_lt _ (by omega)
        rw [← ek]
        have b01 : Γ 4 kd 3 = 0 ∨ Γ 4 kd 3 = 1 := (hc.2.2.2.1 kd hk).2.2.2.2.2
        refine g_istore dL_others_236 (by decide) rfl ?_
        refine g_aload_n dL_others_238 rfl ?_
        refine g_bipush (v := 6) dL_others_239 (by decide) ?_
        refine g_iload dL_others_241 rfl ?_
        refine g_iconst (v := 0) dL_others_243 (by decide) ?_
        refine g_iconst (v := 0) dL_others_244 (by decide) ?_
        by_cases hm : ¬ Γ 4 kd 3 = 0 ∧ Γ 5 0 5 = 0
        · skip
          refine g_callSX [_, _, _, _, _] dL_others_245 mcw_asks (ka_mends_0 hlt w hk hm.1 hm.2) rfl (Nat.le_of_ble_eq_true rfl) (am_rm hR (by decide)) (fun _ _ z => z) (fun v hx hq hE => ?_)
          obtain ⟨rfl, w5⟩ := hq
          have g3k : u3 Γ 4 kd 3 0 13 3 kd = Γ 4 kd 3 := (u3_n (by omega)).trans (lap kd hk)
          have g3 : u3 Γ 4 kd 3 0 13 0 3 = Γ 5 0 5 := (u3_n (by omega)).trans la3
          refine g_istore dL_others_248 (by decide) rfl ?_
          refine g_aload dL_others_250 rfl ?_
          refine g_iload dL_others_252 rfl ?_
          refine v_ald w5 dL_others_254 (by first | rfl | assumption) (by first | assumption | omega | (show _ < 8; omega) | (show _ < 24; omega) | (show _ < 5; omega) | (show _ < 16; omega) | (show _ < 9; omega)) ?_
          rw [g3k]
          refine g_iconst (v := 1) dL_others_255 (by decide) ?_
          refine g_icmp_ne 269 dL_others_256 (by decide) (fun z => absurd (b01.resolve_left hm.1) z) (fun c_256 => ?_)
          refine g_aload_n dL_others_259 rfl ?_
          refine g_iconst (v := nI 3) dL_others_260 (by decide) ?_
          refine v_ald w5 dL_others_261 (by first | rfl | assumption) (by first | assumption | omega | (show _ < 8; omega) | (show _ < 24; omega) | (show _ < 5; omega) | (show _ < 16; omega) | (show _ < 9; omega)) ?_
          rw [g3]
          refine g_if_ne 269 dL_others_262 (by decide) (fun z => absurd hm.2 z) (fun c_262 => ?_)
          refine g_iconst (v := 1) dL_others_265 (by decide) ?_
          refine g_goto 270 dL_others_266 (by decide) ?_
          refine g_istore dL_others_270 (by decide) rfl ?_
          refine g_aload dL_others_272 rfl ?_
          refine g_iload dL_others_274 rfl ?_
          refine g_iload dL_others_276 rfl ?_
          refine g_if_eq 285 dL_others_278 (by decide) (fun z => absurd z (by decide)) (fun _ => ?_)
          refine g_iconst (v := 0) dL_others_281 (by decide) ?_
          refine g_goto 290 dL_others_282 (by decide) ?_
          refine v_ast w5 dL_others_290 (by first | rfl | assumption) (by first | assumption | omega | (show _ < 8; omega) | (show _ < 24; omega) | (show _ < 5; omega) | (show _ < 16; omega) | (show _ < 9; omega)) (fun h6 w6 => ?_)
          refine g_iload dL_others_291 rfl ?_
          refine g_iload dL_others_293 rfl ?_
          refine g_if_eq 302 dL_others_295 (by decide) (fun z => absurd z (by decide)) (fun _ => ?_)
          refine g_iconst (v := 0) dL_others_298 (by decide) ?_
          refine g_goto 304 dL_others_299 (by decide) ?_
          refine g_icmp_ne 311 dL_others_304 (by decide) (fun z => absurd rfl z) (fun c_304 => ?_)
          refine g_iconst (v := 1) dL_others_307 (by decide) ?_
          refine g_goto 312 dL_others_308 (by decide) ?_
          rw [hQ]
          refine g_iret dL_others_312 rfl rfl (by decide) (by decide) ?_
          refine ⟨rfl, n, p, A, B, ord, L, _, w6, ((keep_pipeflag hc hm.2 (Or.inl rfl)).congr (fun c a b z => u3_n (fun y => z (by unfold irr; omega)))).mono (Nat.le_succ T), ⟨?_, ?_, ?_, ?_, ?_, fun d hd => ?_, fun q hq => ?_, fun d hd => ?_, fun q hq => ?_⟩, h3, LK.rf, fun q => by rw [u3_n (by omega), u3_n (by omega)]⟩
          · rw [u3_n (by omega), u3_n (by omega)]; exact la0
          · rw [u3_n (by omega), u3_n (by omega)]; exact la1
          · rw [u3_n (by omega), u3_n (by omega), u3_n (by omega), u3_n (by omega)]; exact la2
          · rw [u3_n (by omega), u3_n (by omega), u3_n (by omega), u3_n (by omega)]; exact la3
          · rw [u3_n (by omega), u3_n (by omega), u3_n (by omega), u3_n (by omega)]; exact la4
          · have F : ∀ c a b, c = 2 ∨ (c = 13 ∧ a < 3) → u3 (u3 Γ 4 kd 3 0) 13 3 kd 0 c a b = Γ c a b := fun c a b z => by rw [u3_n (by omega), u3_n (by omega)]
            rw [F _ _ _ (by omega), F _ _ _ (by omega), F _ _ _ (by omega), F _ _ _ (by omega), F _ _ _ (by omega), F _ _ _ (by omega), F _ _ _ (by omega), F _ _ _ (by omega)]
            exact lad d hd
          · by_cases e : q = kd
            · rw [e, u3_s, u3_n (by omega), u3_s]
            · rw [u3_n (by omega), u3_n (by omega), u3_n (by omega), u3_n (by omega)]
              exact lap q hq
          · rw [u3_n (by omega), u3_n (by omega), u3_n (by omega), u3_n (by omega)]
            exact lan d hd
          · rw [u3_n (by omega), u3_n (by omega)]
            exact lapn q hq
        · skip
          refine g_callSX [_, _, _, _, _] dL_others_245 mcw_asks (ka_mends_8 hlt w hk (by
            by_cases z : Γ 4 kd 3 = 0
            · exact Or.inl z
            · exact Or.inr (fun y => hm ⟨z, y⟩))) rfl (Nat.le_of_ble_eq_true rfl) (am_rm hR (by decide)) (fun _ _ z => z) (fun v hx hq hE => ?_)
          obtain ⟨rfl, w7⟩ := hq
          have g3k := lap kd hk
          have g3 := la3
          refine g_istore dL_others_248 (by decide) rfl ?_
          refine g_aload dL_others_250 rfl ?_
          refine g_iload dL_others_252 rfl ?_
          refine v_ald w7 dL_others_254 (by first | rfl | assumption) (by first | assumption | omega | (show _ < 8; omega) | (show _ < 24; omega) | (show _ < 5; omega) | (show _ < 16; omega) | (show _ < 9; omega)) ?_
          rw [g3k]
          refine g_iconst (v := 1) dL_others_255 (by decide) ?_
          refine g_icmp_ne 269 dL_others_256 (by decide) (fun c_256 => ?_) (fun c_256 => ?_)
          · skip
            refine g_iconst (v := 0) dL_others_269 (by decide) ?_
            refine g_istore dL_others_270 (by decide) rfl ?_
            refine g_aload dL_others_272 rfl ?_
            refine g_iload dL_others_274 rfl ?_
            refine g_iload dL_others_276 rfl ?_
            refine g_if_eq 285 dL_others_278 (by decide) (fun _ => ?_) (fun z => absurd z (by decide))
            refine g_aload dL_others_285 rfl ?_
            refine g_iload dL_others_287 rfl ?_
            refine v_ald w7 dL_others_289 (by first | rfl | assumption) (by first | assumption | omega | (show _ < 8; omega) | (show _ < 24; omega) | (show _ < 5; omega) | (show _ < 16; omega) | (show _ < 9; omega)) ?_
            refine v_ast w7 dL_others_290 (by first | rfl | assumption) (by first | assumption | omega | (show _ < 8; omega) | (show _ < 24; omega) | (show _ < 5; omega) | (show _ < 16; omega) | (show _ < 9; omega)) (fun h8 w8 => ?_)
            refine g_iload dL_others_291 rfl ?_
            refine g_iload dL_others_293 rfl ?_
            refine g_if_eq 302 dL_others_295 (by decide) (fun _ => ?_) (fun z => absurd z (by decide))
            refine g_ldc dL_others_302 cn_L_59 ?_
            refine g_icmp_ne 311 dL_others_304 (by decide) (fun z => absurd rfl z) (fun c_304 => ?_)
            refine g_iconst (v := 1) dL_others_307 (by decide) ?_
            refine g_goto 312 dL_others_308 (by decide) ?_
            rw [hQ]
            refine g_iret dL_others_312 rfl rfl (by decide) (by decide) ?_
            have eG : u3 Γ 13 3 kd (Γ 13 3 kd) = Γ := by
              funext c a b
              rw [u3_ap]
              by_cases z : c = 13 ∧ a = 3 ∧ b = kd
              · obtain ⟨rfl, rfl, rfl⟩ := z
                exact if_pos ⟨rfl, rfl, rfl⟩
              · exact if_neg z
            rw [eG] at w8
            exact ⟨rfl, n, p, A, B, ord, L, Γ, w8, hc.mono (Nat.le_succ T), la, h3, LK.rf, fun _ => rfl⟩
          · skip
            refine g_aload_n dL_others_259 rfl ?_
            refine g_iconst (v := nI 3) dL_others_260 (by decide) ?_
            refine v_ald w7 dL_others_261 (by first | rfl | assumption) (by first | assumption | omega | (show _ < 8; omega) | (show _ < 24; omega) | (show _ < 5; omega) | (show _ < 16; omega) | (show _ < 9; omega)) ?_
            rw [g3]
            refine g_if_ne 269 dL_others_262 (by decide) (fun c_262 => ?_) (fun z => absurd (show ¬ Γ 4 kd 3 = 0 ∧ Γ 5 0 5 = 0 from ⟨by rw [c_256]; decide, z⟩) hm)
            refine g_iconst (v := 0) dL_others_269 (by decide) ?_
            refine g_istore dL_others_270 (by decide) rfl ?_
            refine g_aload dL_others_272 rfl ?_
            refine g_iload dL_others_274 rfl ?_
            refine g_iload dL_others_276 rfl ?_
            refine g_if_eq 285 dL_others_278 (by decide) (fun _ => ?_) (fun z => absurd z (by decide))
            refine g_aload dL_others_285 rfl ?_
            refine g_iload dL_others_287 rfl ?_
            refine v_ald w7 dL_others_289 (by first | rfl | assumption) (by first | assumption | omega | (show _ < 8; omega) | (show _ < 24; omega) | (show _ < 5; omega) | (show _ < 16; omega) | (show _ < 9; omega)) ?_
            refine v_ast w7 dL_others_290 (by first | rfl | assumption) (by first | assumption | omega | (show _ < 8; omega) | (show _ < 24; omega) | (show _ < 5; omega) | (show _ < 16; omega) | (show _ < 9; omega)) (fun h9 w9 => ?_)
            refine g_iload dL_others_291 rfl ?_
            refine g_iload dL_others_293 rfl ?_
            refine g_if_eq 302 dL_others_295 (by decide) (fun _ => ?_) (fun z => absurd z (by decide))
            refine g_ldc dL_others_302 cn_L_59 ?_
            refine g_icmp_ne 311 dL_others_304 (by decide) (fun z => absurd rfl z) (fun c_304 => ?_)
            refine g_iconst (v := 1) dL_others_307 (by decide) ?_
            refine g_goto 312 dL_others_308 (by decide) ?_
            rw [hQ]
            refine g_iret dL_others_312 rfl rfl (by decide) (by decide) ?_
            have eG : u3 Γ 13 3 kd (Γ 13 3 kd) = Γ := by
              funext c a b
              rw [u3_ap]
              by_cases z : c = 13 ∧ a = 3 ∧ b = kd
              · obtain ⟨rfl, rfl, rfl⟩ := z
                exact if_pos ⟨rfl, rfl, rfl⟩
              · exact if_neg z
            rw [eG] at w9
            exact ⟨rfl, n, p, A, B, ord, L, Γ, w9, hc.mono (Nat.le_succ T), la, h3, LK.rf, fun _ => rfl⟩
        
    · skip
      refine g_iload_n dL_others_112 rfl ?_
      refine g_aload_n dL_others_113 rfl ?_
      refine g_iconst (v := nI 0) dL_others_114 (by decide) ?_
      refine v_ald w dL_others_115 (by first | rfl | assumption) (by first | assumption | omega | (show _ < 8; omega) | (show _ < 24; omega) | (show _ < 5; omega) | (show _ < 16; omega) | (show _ < 9; omega)) ?_
      rw [la0]
      refine g_iconst (v := nI 1) dL_others_116 (by decide) ?_
      refine g_iadd dL_others_117 ?_
      rw [nI_add]
      refine g_irem dL_others_118 (nz_I (by omega) (by omega)) ?_
      rw [pk_rem hy (by omega) (by omega)]
      obtain ⟨q, eq⟩ : ∃ q, q = y % (n + 1) := ⟨_, rfl⟩
      have hq8 : q ≤ n := by rw [eq]; exact Nat.le_of_lt_succ (Nat.mod_lt _ (by omega))
      rw [← eq]
      refine g_iconst (v := nI 1) dL_others_119 (by decide) ?_
      refine g_isub dL_others_120 ?_
      obtain ⟨fv, efv⟩ : ∃ fv, fv = nI q - nI 1 := ⟨_, rfl⟩
      have hfv := I_from hq8 hn8 efv
      rw [← efv]
      refine g_istore dL_others_121 (by decide) rfl ?_
      refine g_iload_n dL_others_123 rfl ?_
      refine g_bipush (v := nI 9) dL_others_124 (by decide) ?_
      refine g_idiv dL_others_126 (by decide) ?_
      rw [pk_div hy (by decide) (by decide)]
      refine g_aload_n dL_others_127 rfl ?_
      refine g_iconst (v := nI 0) dL_others_128 (by decide) ?_
      refine v_ald w dL_others_129 (by first | rfl | assumption) (by first | assumption | omega | (show _ < 8; omega) | (show _ < 24; omega) | (show _ < 5; omega) | (show _ < 16; omega) | (show _ < 9; omega)) ?_
      rw [la0]
      refine g_irem dL_others_130 (nz_I (by omega) (by omega)) ?_
      rw [pk_rem (by omega) (by omega) (by omega)]
      obtain ⟨to, eto⟩ : ∃ to, to = y / 9 % n := ⟨_, rfl⟩
      have hto : to < n := by rw [eto]; exact Nat.mod_lt _ (by omega)
      rw [← eto]
      refine g_istore dL_others_131 (by decide) rfl ?_
      refine g_aload_n dL_others_133 rfl ?_
      refine g_iconst (v := 1) dL_others_134 (by decide) ?_
      refine g_iload dL_others_135 rfl ?_
      refine g_iload dL_others_137 rfl ?_
      refine g_iconst (v := nI 1) dL_others_139 (by decide) ?_
      refine g_iload_n dL_others_140 rfl ?_
      refine g_bipush (v := nI 81) dL_others_141 (by decide) ?_
      refine g_idiv dL_others_143 (by decide) ?_
      rw [pk_div hy (by decide) (by decide)]
      refine g_sipush (v := nI 200) dL_others_144 (by decide) ?_
      refine g_irem dL_others_147 (by decide) ?_
      rw [pk_rem (by omega) (by decide) (by decide)]
      refine g_iadd dL_others_148 ?_
      rw [nI_add]
      obtain ⟨lim, elim⟩ : ∃ lim, lim = 1 + y / 81 % 200 := ⟨_, rfl⟩
      have hlim : 1 ≤ lim ∧ lim ≤ 999 := by omega
      rw [← elim]
      rcases (show (q = to + 1) ∨ (¬ q = to + 1 ∧ (¬ p < 24 ∨ ¬ Γ 5 0 5 = 0)) ∨ (¬ q = to + 1 ∧ p < 24 ∧ Γ 5 0 5 = 0) by
        by_cases c1 : q = to + 1
        · exact Or.inl c1
        · by_cases c2 : p < 24
          · by_cases c3 : Γ 5 0 5 = 0
            · exact Or.inr (Or.inr ⟨c1, c2, c3⟩)
            · exact Or.inr (Or.inl ⟨c1, Or.inr c3⟩)
          · exact Or.inr (Or.inl ⟨c1, Or.inl c2⟩)) with hs | ⟨hs, hbad⟩ | ⟨hs, hp, hf⟩
      · skip
        refine g_callSX [_, _, _, _, _] dL_others_149 mcw_asks ((by rw [show fv = nI to by rw [efv, hs, I_1s]]; exact ka_pipe_1 hlt w hto)) rfl (Nat.le_of_ble_eq_true rfl) (am_rm hR (by decide)) (fun _ _ z => z) (fun v hx hq hE => ?_)
        obtain ⟨rfl, w10⟩ := hq
        have eft : fv = nI to := by rw [efv, hs, I_1s]
        refine g_istore dL_others_152 (by decide) rfl ?_
        refine g_iload dL_others_154 rfl ?_
        refine g_iload dL_others_156 rfl ?_
        refine g_icmp_ne 174 dL_others_158 (by decide) (fun z => absurd eft z) (fun c_158 => ?_)
        refine g_iload dL_others_161 rfl ?_
        refine g_ldc dL_others_163 cn_L_56 ?_
        refine g_icmp_ne 172 dL_others_165 (by decide) (fun z => absurd rfl z) (fun c_165 => ?_)
        refine g_iconst (v := 1) dL_others_168 (by decide) ?_
        refine g_goto 173 dL_others_169 (by decide) ?_
        rw [hQ]
        refine g_iret dL_others_173 rfl rfl (by decide) (by decide) ?_
        exact ⟨rfl, n, p, A, B, ord, L, Γ, w10, hc.mono (Nat.le_succ T), la, h3, LK.rf, fun _ => rfl⟩
      · skip
        refine g_callSX [_, _, _, _, _] dL_others_149 mcw_asks (ka_pipe_8 hlt w hfv hto hs hlim.1 hlim.2 hbad) rfl (Nat.le_of_ble_eq_true rfl) (am_rm hR (by decide)) (fun _ _ z => z) (fun v hx hq hE => ?_)
        obtain ⟨rfl, w11⟩ := hq
        have nft : ¬ fv = nI to := fun z => by
          rcases hfv with ⟨e1, -⟩ | ⟨i, hi, e1, e2⟩
          · have := nI_neg1 (w := to) (by omega); exact this (z.symm.trans e1)
          · have := (nI_eq (by omega) (by omega)).mp (e1.symm.trans z); omega
        have g1 := la1
        have g3 := la3
        refine g_istore dL_others_152 (by decide) rfl ?_
        refine g_iload dL_others_154 rfl ?_
        refine g_iload dL_others_156 rfl ?_
        refine g_icmp_ne 174 dL_others_158 (by decide) (fun c_158 => ?_) (fun z => absurd z nft)
        refine g_aload_n dL_others_174 rfl ?_
        refine g_iconst (v := nI 1) dL_others_175 (by decide) ?_
        refine v_ald w11 dL_others_176 (by first | rfl | assumption) (by first | assumption | omega | (show _ < 8; omega) | (show _ < 24; omega) | (show _ < 5; omega) | (show _ < 16; omega) | (show _ < 9; omega)) ?_
        rw [g1]
        refine g_bipush (v := nI 24) dL_others_177 (by decide) ?_
        refine gN_eq 189 dL_others_179 (by decide) (by omega) (by omega) (fun c_179 => ?_) (fun c_179 => ?_)
        · skip
          refine g_iload dL_others_189 rfl ?_
          refine g_ldc dL_others_191 cn_L_59 ?_
          refine g_icmp_ne 200 dL_others_193 (by decide) (fun z => absurd rfl z) (fun c_193 => ?_)
          refine g_iconst (v := 1) dL_others_196 (by decide) ?_
          refine g_goto 201 dL_others_197 (by decide) ?_
          rw [hQ]
          refine g_iret dL_others_201 rfl rfl (by decide) (by decide) ?_
          exact ⟨rfl, n, p, A, B, ord, L, Γ, w11, hc.mono (Nat.le_succ T), la, h3, LK.rf, fun _ => rfl⟩
        · skip
          refine g_aload_n dL_others_182 rfl ?_
          refine g_iconst (v := nI 3) dL_others_183 (by decide) ?_
          refine v_ald w11 dL_others_184 (by first | rfl | assumption) (by first | assumption | omega | (show _ < 8; omega) | (show _ < 24; omega) | (show _ < 5; omega) | (show _ < 16; omega) | (show _ < 9; omega)) ?_
          rw [g3]
          refine g_iconst (v := 1) dL_others_185 (by decide) ?_
          refine g_icmp_ne 202 dL_others_186 (by decide) (fun z => absurd (f01.resolve_left (fun y => hbad.elim (fun q1 => c_179 (by omega)) (fun q1 => q1 y))) z) (fun c_186 => ?_)
          refine g_iload dL_others_189 rfl ?_
          refine g_ldc dL_others_191 cn_L_59 ?_
          refine g_icmp_ne 200 dL_others_193 (by decide) (fun z => absurd rfl z) (fun c_193 => ?_)
          refine g_iconst (v := 1) dL_others_196 (by decide) ?_
          refine g_goto 201 dL_others_197 (by decide) ?_
          rw [hQ]
          refine g_iret dL_others_201 rfl rfl (by decide) (by decide) ?_
          exact ⟨rfl, n, p, A, B, ord, L, Γ, w11, hc.mono (Nat.le_succ T), la, h3, LK.rf, fun _ => rfl⟩
      · skip
        refine g_callSX [_, _, _, _, _] dL_others_149 mcw_asks (ka_pipe_0 hlt w hfv hto hs hlim.1 hlim.2 hp hf) rfl (Nat.le_of_ble_eq_true rfl) (am_rm hR (by decide)) (fun _ _ z => z) (fun v hx hq hE => ?_)
        obtain ⟨rfl, L1, hL, w12⟩ := hq
        have lk := hL.lk
        rw [← lk.1, ← lk.2.2 0 (by decide), ← lk.2.2 1 (by decide), ← lk.2.2 3 (by decide)]
        have nft : ¬ fv = nI to := fun z => by
          rcases hfv with ⟨e1, -⟩ | ⟨i, hi, e1, e2⟩
          · have := nI_neg1 (w := to) (by omega); exact this (z.symm.trans e1)
          · have := (nI_eq (by omega) (by omega)).mp (e1.symm.trans z); omega
        obtain ⟨Γ1, eΓ1⟩ : ∃ G, G = sp_cpipe p (nI q) (nI (to + 1)) (nI lim) Γ := ⟨_, rfl⟩
        have kp1 : CI T n (p + 1) (fun j => if j = p then q else A j) (fun j => if j = p then to + 1 else B j) ord Γ1 := by
          rw [eΓ1]
          exact keep_pipe hc hf (by omega) (by omega) (by rw [nI_toInt (by omega)]; omega)
        have hz : ∀ c a b, ¬ (c = 4 ∧ a = p) → Γ1 c a b = Γ c a b := fun c a b z => by rw [eΓ1]; exact if_neg z
        have hz3 : Γ1 4 p 3 = 0 := by rw [eΓ1]; unfold sp_cpipe; rw [if_pos ⟨rfl, rfl⟩, if_neg (by decide), if_neg (by decide), if_neg (by decide)]
        rw [← eΓ1] at w12
        have g1 : Γ1 13 0 1 = nI p := (hz 13 0 1 (by omega)).trans la1
        have g3 : Γ1 13 0 3 = Γ 5 0 5 := (hz 13 0 3 (by omega)).trans la3
        refine g_istore dL_others_152 (by decide) rfl ?_
        refine g_iload dL_others_154 rfl ?_
        refine g_iload dL_others_156 rfl ?_
        refine g_icmp_ne 174 dL_others_158 (by decide) (fun c_158 => ?_) (fun z => absurd z nft)
        refine g_aload_n dL_others_174 rfl ?_
        refine g_iconst (v := nI 1) dL_others_175 (by decide) ?_
        refine v_ald w12 dL_others_176 (by first | rfl | assumption) (by first | assumption | omega | (show _ < 8; omega) | (show _ < 24; omega) | (show _ < 5; omega) | (show _ < 16; omega) | (show _ < 9; omega)) ?_
        rw [g1]
        refine g_bipush (v := nI 24) dL_others_177 (by decide) ?_
        refine gN_eq 189 dL_others_179 (by decide) (by omega) (by omega) (fun z => absurd z (by omega)) (fun c_179 => ?_)
        refine g_aload_n dL_others_182 rfl ?_
        refine g_iconst (v := nI 3) dL_others_183 (by decide) ?_
        refine v_ald w12 dL_others_184 (by first | rfl | assumption) (by first | assumption | omega | (show _ < 8; omega) | (show _ < 24; omega) | (show _ < 5; omega) | (show _ < 16; omega) | (show _ < 9; omega)) ?_
        rw [g3]
        refine g_iconst (v := 1) dL_others_185 (by decide) ?_
        refine g_icmp_ne 202 dL_others_186 (by decide) (fun c_186 => ?_) (fun z => absurd z (by rw [hf]; decide))
        refine g_aload_n dL_others_202 rfl ?_
        refine g_iconst (v := nI 1) dL_others_203 (by decide) ?_
        refine g_dup2 dL_others_204 rfl rfl ?_
        refine v_ald w12 dL_others_205 (by first | rfl | assumption) (by first | assumption | omega | (show _ < 8; omega) | (show _ < 24; omega) | (show _ < 5; omega) | (show _ < 16; omega) | (show _ < 9; omega)) ?_
        rw [g1]
        refine g_iconst (v := nI 1) dL_others_206 (by decide) ?_
        refine g_iadd dL_others_207 ?_
        rw [nI_add]
        refine v_ast w12 dL_others_208 (by first | rfl | assumption) (by first | assumption | omega | (show _ < 8; omega) | (show _ < 24; omega) | (show _ < 5; omega) | (show _ < 16; omega) | (show _ < 9; omega)) (fun h13 w13 => ?_)
        refine g_iload dL_others_209 rfl ?_
        refine g_aload_n dL_others_211 rfl ?_
        refine g_iconst (v := nI 1) dL_others_212 (by decide) ?_
        refine v_ald w13 dL_others_213 (by first | rfl | assumption) (by first | assumption | omega | (show _ < 8; omega) | (show _ < 24; omega) | (show _ < 5; omega) | (show _ < 16; omega) | (show _ < 9; omega)) ?_
        rw [u3_s]
        refine g_iconst (v := nI 1) dL_others_214 (by decide) ?_
        refine g_isub dL_others_215 ?_
        rw [I_1s]
        refine g_icmp_ne 223 dL_others_216 (by decide) (fun z => absurd rfl z) (fun c_216 => ?_)
        refine g_iconst (v := 1) dL_others_219 (by decide) ?_
        refine g_goto 224 dL_others_220 (by decide) ?_
        rw [hQ]
        refine g_iret dL_others_224 rfl rfl (by decide) (by decide) ?_
        obtain ⟨G, eG⟩ : ∃ G, G = u3 Γ1 13 0 1 (nI (p + 1)) := ⟨_, rfl⟩
        rw [← eG] at w13
        have hG : ∀ c a b, ¬ (c = 13 ∧ a = 0 ∧ b = 1) → G c a b = Γ1 c a b := fun c a b z1 => by rw [eG, u3_n (by omega)]
        have eo : ∀ c a b, ¬ (c = 4 ∧ a = p) → ¬ (c = 13 ∧ a = 0 ∧ b = 1) → G c a b = Γ c a b := fun c a b z1 z2 => (hG c a b z2).trans (hz c a b z1)
        refine ⟨rfl, n, p + 1, _, _, ord, L1, G, w13, (kp1.congr (fun c a b z => hG c a b (fun y => z (by unfold irr; omega)))).mono (Nat.le_succ T), ⟨(eo 13 0 0 (by omega) (by omega)).trans la0, by rw [eG, u3_s], ?_, ?_, ?_, fun d hd => ?_, fun q' hq' => ?_, fun d hd => ?_, fun q' hq' => (eo 13 3 q' (by omega) (by omega)).trans (lapn q' (by omega))⟩, by omega, lk, fun q' => eo 15 0 q' (by omega) (by omega)⟩
        · rw [eo 13 0 2 (by omega) (by omega), eo 5 0 3 (by omega) (by omega)]; exact la2
        · rw [eo 13 0 3 (by omega) (by omega), eo 5 0 5 (by omega) (by omega)]; exact la3
        · rw [eo 13 0 4 (by omega) (by omega), eo 5 0 8 (by omega) (by omega)]; exact la4
        · rw [eo 13 1 _ (by omega) (by omega), eo 13 1 _ (by omega) (by omega), eo 13 2 _ (by omega) (by omega), eo 13 2 _ (by omega) (by omega), eo 2 d 1 (by omega) (by omega), eo 2 d 2 (by omega) (by omega), eo 2 d 9 (by omega) (by omega), eo 2 d 10 (by omega) (by omega)]
          exact lad d hd
        · by_cases e : q' = p
          · rw [e, eo 13 3 p (by omega) (by omega), hG 4 p 3 (by omega), hz3]
            exact lapn p (Nat.le_refl p)
          · rw [eo 13 3 q' (by omega) (by omega), eo 4 q' 3 (by omega) (by omega)]
            exact lap q' (by omega)
        · rw [eo 13 2 _ (by omega) (by omega), eo 13 2 _ (by omega) (by omega)]
          exact lan d hd
      
  · skip
    refine g_aload_n dL_others_10 rfl ?_
    refine g_iconst (v := 0) dL_others_11 (by decide) ?_
    refine g_iload_n dL_others_12 rfl ?_
    refine g_sipush (v := nI 400) dL_others_13 (by decide) ?_
    refine g_irem dL_others_16 (by decide) ?_
    rw [pk_rem hy (by decide) (by decide)]
    refine g_iload_n dL_others_17 rfl ?_
    refine g_sipush (v := nI 400) dL_others_18 (by decide) ?_
    refine g_idiv dL_others_21 (by decide) ?_
    rw [pk_div hy (by decide) (by decide)]
    refine g_bipush (v := nI 80) dL_others_22 (by decide) ?_
    refine g_irem dL_others_24 (by decide) ?_
    rw [pk_rem (by omega) (by decide) (by decide)]
    refine g_iconst (v := 0) dL_others_25 (by decide) ?_
    by_cases hn : n < 8
    · skip
      refine g_callSX [_, _, _, _, _] dL_others_26 mcw_asks (ka_district_0 hlt w hn (by omega) (by omega)) rfl (Nat.le_of_ble_eq_true rfl) (am_rm hR (by decide)) (fun _ _ z => z) (fun v hx hq hE => ?_)
      obtain ⟨rfl, L1, hL, w14⟩ := hq
      have lk := hL.lk
      rw [← lk.1, ← lk.2.2 0 (by decide), ← lk.2.2 1 (by decide), ← lk.2.2 3 (by decide)]
      obtain ⟨Γ1, eΓ1⟩ : ∃ G, G = sp_cdist n (nI (y % 400)) (nI (y / 400 % 80)) Γ := ⟨_, rfl⟩
      have kd1 : CI T (n + 1) p A B ord Γ1 := by
        rw [eΓ1]
        exact keep_district hc (by rw [nI_toInt (by omega)]; omega) (by rw [nI_toInt (by omega)]; omega)
      have hz : ∀ c a b, ¬ (c ≤ 2 ∧ a = n) → Γ1 c a b = Γ c a b := fun c a b z => by rw [eΓ1]; exact if_neg z
      have hzn : ∀ b, Γ1 2 n b = if b = 2 then nI (y / 400 % 80) else if b = 1 then nI (y % 400) else if b = 0 then nI n + 1 else 0 := fun b => by
        rw [eΓ1]
        unfold sp_cdist
        rw [if_pos ⟨by omega, rfl⟩, if_pos rfl]
      rw [← eΓ1] at w14
      have g0 : Γ1 13 0 0 = nI n := (hz 13 0 0 (by omega)).trans la0
      refine g_istore dL_others_29 (by decide) rfl ?_
      refine g_aload_n dL_others_31 rfl ?_
      refine g_iconst (v := nI 0) dL_others_32 (by decide) ?_
      refine v_ald w14 dL_others_33 (by first | rfl | assumption) (by first | assumption | omega | (show _ < 8; omega) | (show _ < 24; omega) | (show _ < 5; omega) | (show _ < 16; omega) | (show _ < 9; omega)) ?_
      rw [g0]
      refine g_bipush (v := nI 8) dL_others_34 (by decide) ?_
      refine gN_ne 52 dL_others_36 (by decide) (by omega) (by omega) (fun c_36 => ?_) (fun z => absurd z (by omega))
      refine g_aload dL_others_52 rfl ?_
      refine g_iconst (v := nI 2) dL_others_54 (by decide) ?_
      refine g_aload_n dL_others_55 rfl ?_
      refine g_iconst (v := nI 0) dL_others_56 (by decide) ?_
      refine v_ald w14 dL_others_57 (by first | rfl | assumption) (by first | assumption | omega | (show _ < 8; omega) | (show _ < 24; omega) | (show _ < 5; omega) | (show _ < 16; omega) | (show _ < 9; omega)) ?_
      rw [g0]
      refine g_imul dL_others_58 ?_
      rw [pk_mul]
      refine g_iload_n dL_others_59 rfl ?_
      refine g_sipush (v := nI 400) dL_others_60 (by decide) ?_
      refine g_irem dL_others_63 (by decide) ?_
      rw [pk_rem hy (by decide) (by decide)]
      refine v_ast w14 dL_others_64 (by first | rfl | assumption) (by first | assumption | omega | (show _ < 8; omega) | (show _ < 24; omega) | (show _ < 5; omega) | (show _ < 16; omega) | (show _ < 9; omega)) (fun h15 w15 => ?_)
      refine g_aload dL_others_65 rfl ?_
      refine g_iconst (v := nI 2) dL_others_67 (by decide) ?_
      refine g_aload_n dL_others_68 rfl ?_
      refine g_iconst (v := nI 0) dL_others_69 (by decide) ?_
      refine v_ald w15 dL_others_70 (by first | rfl | assumption) (by first | assumption | omega | (show _ < 8; omega) | (show _ < 24; omega) | (show _ < 5; omega) | (show _ < 16; omega) | (show _ < 9; omega)) ?_
      rw [u3_n (by omega), g0]
      refine g_imul dL_others_71 ?_
      rw [pk_mul]
      refine g_iconst (v := nI 1) dL_others_72 (by decide) ?_
      refine g_iadd dL_others_73 ?_
      rw [nI_add]
      refine g_iload_n dL_others_74 rfl ?_
      refine g_sipush (v := nI 400) dL_others_75 (by decide) ?_
      refine g_idiv dL_others_78 (by decide) ?_
      rw [pk_div hy (by decide) (by decide)]
      refine g_bipush (v := nI 80) dL_others_79 (by decide) ?_
      refine g_irem dL_others_81 (by decide) ?_
      rw [pk_rem (by omega) (by decide) (by decide)]
      refine v_ast w15 dL_others_82 (by first | rfl | assumption) (by first | assumption | omega | (show _ < 8; omega) | (show _ < 24; omega) | (show _ < 5; omega) | (show _ < 16; omega) | (show _ < 9; omega)) (fun h16 w16 => ?_)
      refine g_aload_n dL_others_83 rfl ?_
      refine g_iconst (v := nI 0) dL_others_84 (by decide) ?_
      refine g_dup2 dL_others_85 rfl rfl ?_
      refine v_ald w16 dL_others_86 (by first | rfl | assumption) (by first | assumption | omega | (show _ < 8; omega) | (show _ < 24; omega) | (show _ < 5; omega) | (show _ < 16; omega) | (show _ < 9; omega)) ?_
      rw [u3_n (by omega), u3_n (by omega), g0]
      refine g_iconst (v := nI 1) dL_others_87 (by decide) ?_
      refine g_iadd dL_others_88 ?_
      rw [nI_add]
      refine v_ast w16 dL_others_89 (by first | rfl | assumption) (by first | assumption | omega | (show _ < 8; omega) | (show _ < 24; omega) | (show _ < 5; omega) | (show _ < 16; omega) | (show _ < 9; omega)) (fun h17 w17 => ?_)
      refine g_iload dL_others_90 rfl ?_
      refine g_aload_n dL_others_92 rfl ?_
      refine g_iconst (v := nI 0) dL_others_93 (by decide) ?_
      refine v_ald w17 dL_others_94 (by first | rfl | assumption) (by first | assumption | omega | (show _ < 8; omega) | (show _ < 24; omega) | (show _ < 5; omega) | (show _ < 16; omega) | (show _ < 9; omega)) ?_
      rw [u3_s]
      refine g_iconst (v := nI 1) dL_others_95 (by decide) ?_
      refine g_isub dL_others_96 ?_
      rw [I_1s]
      refine g_icmp_ne 104 dL_others_97 (by decide) (fun z => absurd rfl z) (fun c_97 => ?_)
      refine g_iconst (v := 1) dL_others_100 (by decide) ?_
      refine g_goto 105 dL_others_101 (by decide) ?_
      rw [hQ]
      refine g_iret dL_others_105 rfl rfl (by decide) (by decide) ?_
      obtain ⟨G, eG⟩ : ∃ G, G = u3 (u3 (u3 Γ1 13 1 (2 * n) (nI (y % 400))) 13 1 (2 * n + 1) (nI (y / 400 % 80))) 13 0 0 (nI (n + 1)) := ⟨_, rfl⟩
      rw [← eG] at w17
      have hG : ∀ c a b, ¬ (c = 13 ∧ a = 1 ∧ (b = 2 * n ∨ b = 2 * n + 1)) → ¬ (c = 13 ∧ a = 0 ∧ b = 0) → G c a b = Γ1 c a b := fun c a b z1 z2 => by rw [eG, u3_n (by omega), u3_n (by omega), u3_n (by omega)]
      have t0 : G 13 1 (2 * n) = nI (y % 400) := by rw [eG, u3_n (by omega), u3_n (by omega), u3_s]
      have t1 : G 13 1 (2 * n + 1) = nI (y / 400 % 80) := by rw [eG, u3_n (by omega), u3_s]
      have eo : ∀ c a b, ¬ (c ≤ 2 ∧ a = n) → ¬ c = 13 → G c a b = Γ c a b := fun c a b z1 z2 => (hG c a b (by omega) (by omega)).trans (hz c a b z1)
      have e13 : ∀ a b, ¬ (a = 1 ∧ (b = 2 * n ∨ b = 2 * n + 1)) → ¬ (a = 0 ∧ b = 0) → G 13 a b = Γ 13 a b := fun a b z1 z2 => (hG 13 a b (by omega) (by omega)).trans (hz 13 a b (by omega))
      refine ⟨rfl, n + 1, p, A, B, ord, L1, G, w17, (kd1.congr (fun c a b z => hG c a b (fun y => z (by unfold irr; omega)) (fun y => z (by unfold irr; omega)))).mono (Nat.le_succ T), ⟨by rw [eG, u3_s], (e13 0 1 (by omega) (by omega)).trans la1, ?_, ?_, ?_, fun d hd => ?_, fun q hq => ?_, fun d hd => ?_, fun q hq => (e13 3 q (by omega) (by omega)).trans (lapn q hq)⟩, by omega, lk, fun q => eo 15 0 q (by omega) (by omega)⟩
      · rw [e13 0 2 (by omega) (by omega), eo 5 0 3 (by omega) (by omega)]; exact la2
      · rw [e13 0 3 (by omega) (by omega), eo 5 0 5 (by omega) (by omega)]; exact la3
      · rw [e13 0 4 (by omega) (by omega), eo 5 0 8 (by omega) (by omega)]; exact la4
      · by_cases e : d = n
        · rw [e, t0, t1, e13 2 _ (by omega) (by omega), e13 2 _ (by omega) (by omega), hG 2 n 1 (by omega) (by omega), hG 2 n 2 (by omega) (by omega), hG 2 n 9 (by omega) (by omega), hG 2 n 10 (by omega) (by omega), hzn 1, hzn 2, hzn 9, hzn 10, (lan n (Nat.le_refl n)).1, (lan n (Nat.le_refl n)).2]
          exact ⟨rfl, rfl, rfl, rfl⟩
        · rw [e13 1 _ (by omega) (by omega), e13 1 _ (by omega) (by omega), e13 2 _ (by omega) (by omega), e13 2 _ (by omega) (by omega), eo 2 d 1 (by omega) (by omega), eo 2 d 2 (by omega) (by omega), eo 2 d 9 (by omega) (by omega), eo 2 d 10 (by omega) (by omega)]
          exact lad d (by omega)
      · rw [e13 3 q (by omega) (by omega), eo 4 q 3 (by omega) (by omega)]
        exact lap q hq
      · rw [e13 2 _ (by omega) (by omega), e13 2 _ (by omega) (by omega)]
        exact lan d (by omega)
    · skip
      refine g_callSX [_, _, _, _, _] dL_others_26 mcw_asks (ka_district_8 hlt w hn (by omega) (by omega)) rfl (Nat.le_of_ble_eq_true rfl) (am_rm hR (by decide)) (fun _ _ z => z) (fun v hx hq hE => ?_)
      obtain ⟨rfl, w18⟩ := hq
      have g0 := la0
      refine g_istore dL_others_29 (by decide) rfl ?_
      refine g_aload_n dL_others_31 rfl ?_
      refine g_iconst (v := nI 0) dL_others_32 (by decide) ?_
      refine v_ald w18 dL_others_33 (by first | rfl | assumption) (by first | assumption | omega | (show _ < 8; omega) | (show _ < 24; omega) | (show _ < 5; omega) | (show _ < 16; omega) | (show _ < 9; omega)) ?_
      rw [g0]
      refine g_bipush (v := nI 8) dL_others_34 (by decide) ?_
      refine gN_ne 52 dL_others_36 (by decide) (by omega) (by omega) (fun z => absurd (show n = 8 by omega) z) (fun c_36 => ?_)
      refine g_iload dL_others_39 rfl ?_
      refine g_ldc dL_others_41 cn_L_59 ?_
      refine g_icmp_ne 50 dL_others_43 (by decide) (fun z => absurd rfl z) (fun c_43 => ?_)
      refine g_iconst (v := 1) dL_others_46 (by decide) ?_
      refine g_goto 51 dL_others_47 (by decide) ?_
      rw [hQ]
      refine g_iret dL_others_51 rfl rfl (by decide) (by decide) ?_
      exact ⟨rfl, n, p, A, B, ord, L, Γ, w18, hc.mono (Nat.le_succ T), la, h3, LK.rf, fun _ => rfl⟩
    
