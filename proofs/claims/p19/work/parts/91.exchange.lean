/-! ===== one exchange ===== -/
theorem PW_start {h : am_H} {s z N : Nat} {xs : Nat → Int32} (hs : am_K h s = 17) (hsN : am_N h s = N) (hsx : ∀ j, j < N → am_A h s j = xs j) (hz : am_K h z = 16) (hz0 : am_N h z = 0) : ∃ L : Nat → Nat → Nat, PW [(15, 0)] [] z N xs L h ∧ L 15 0 = s := by
  refine ⟨fun c _ => if c = 7 then z else s, ⟨⟨hz, hz0, fun t => if_pos rfl⟩, fun q hq => ?_, fun q hq r hr _ => ?_, fun q hq h15 => ?_, fun e he => (by cases he), fun h8 => absurd h8 (by decide), by decide, hsN, fun j hj => hsx j hj⟩, if_neg (by decide)⟩
  · cases List.mem_singleton.mp hq
    exact ⟨hs, by decide, by decide⟩
  · cases List.mem_singleton.mp hq
    cases List.mem_singleton.mp hr
    rfl
  · cases List.mem_singleton.mp hq
    exact absurd rfl h15
theorem VW.scr {N n p : Nat} {ord : List Nat} {L : Nat → Nat → Nat} {Γ : Nat → Nat → Nat → Int32} {o : Nat} {h : am_H} (w : VW N n p ord L Γ o h) {q : Nat} (hq : q < N) : am_A h (L 15 0) q = Γ 15 0 q := by
  obtain ⟨G, f, w⟩ := w
  exact (w.2.2.2.2.2.2.2.2.2.2 q hq).trans (f.e (by omega))
set_option maxRecDepth 100000 in
set_option maxHeartbeats 4000000 in
theorem c_exchange {l : Launch} (hlt : l.stackTraces = false) {h : am_H} {s z N : Nat} {xs : Nat → Int32} (hs : am_K h s = 17) (hsN : am_N h s = N) (hN : N ≤ 260) (hsx : ∀ j, j < N → am_A h s j = xs j) (hz : am_K h z = 16) (hz0 : am_N h z = 0) {a0 : Nat} (ha : a0 ≤ 414)  : am_Con l yL_exchange (.code yL_exchange cL_exchange 13 (some .boolean)) 31 2000 100000 [.ref s, .int (nI a0)] h (fun v h' => v = some (.int 1) ∧ ∀ j, j < N → am_A h' s j = xs j) (fun _ _ => False) := by
  refine am_body hlt (by decide +kernel) (Nat.le_of_ble_eq_true rfl) (fun k hl hR h0 hno => ?_)
  subst hl
  obtain ⟨Qf, hQ⟩ : ∃ Qf, Qf = am_Q k 2000 100000 (fun v h' => v = some (.int 1) ∧ ∀ j, j < N → am_A h' s j = xs j) (fun _ _ => False) := ⟨_, rfl⟩
  rw [← hQ]
  obtain ⟨LA, wA, e15⟩ := PW_start hs hsN hsx hz hz0
  refine g_new dL_exchange_0 cl_X4 kl_L_11 (by rw [hR]; exact Nat.le_of_ble_eq_true rfl) (by rw [hR]; exact Nat.le_of_ble_eq_true rfl) (fun a5 ha5 => ?_)
  obtain ⟨LB, wB, e5, kB⟩ := wA.new (c := 5) (i := 0) (k := 5) (n := 0) ha5 (by decide) rfl (by decide) rfl (by decide)
  replace e15 := (kB (15, 0) (by decide)).trans e15
  skip
  refine g_dup dL_exchange_3 rfl ?_
  refine g_callI [] dL_exchange_4 mc_L_89 mi_X4_init rfl (c_X4_init hlt wB e5) rfl (Nat.le_of_ble_eq_true rfl) (am_rm hR (by decide)) (fun _ _ z => z) (fun v hx hq hE => ?_)
  obtain ⟨rfl, L0, wC, kC⟩ := hq
  replace e15 := (kC (15, 0) (by decide)).trans e15
  replace e5 := (kC (5, 0) (by decide)).trans e5
  have w := (PW.WI wC (by omega)).vw
  have e15' : s = L0 15 0 := e15.symm
  have e5' : a5 = L0 5 0 := e5.symm
  rw [e15', e5']
  skip
  refine g_astore_n dL_exchange_7 (by decide) rfl ?_
  refine g_iconst (v := nI 5) dL_exchange_8 (by decide) ?_
  refine v_newT w (by decide) dL_exchange_9 (K := 5) rfl rfl (by rw [hR]; exact Nat.le_of_ble_eq_true rfl) (by rw [hR]; exact Nat.le_of_ble_eq_true rfl) (fun L1 hh1 hL1 w1 => ?_)
  rw [← hL1 15 0 (by decide), ← hL1 5 0 (by decide)]
  rw [zt0] at w1
  skip
  refine g_astore_n dL_exchange_11 (by decide) rfl ?_
  refine g_bipush (v := nI 16) dL_exchange_12 (by decide) ?_
  refine v_newT w1 (by decide) dL_exchange_14 (K := 16) rfl rfl (by rw [hR]; exact Nat.le_of_ble_eq_true rfl) (by rw [hR]; exact Nat.le_of_ble_eq_true rfl) (fun L2 hh2 hL2 w2 => ?_)
  rw [← hL2 15 0 (by decide), ← hL2 5 0 (by decide), ← hL2 13 0 (by decide)]
  rw [zt0] at w2
  skip
  refine g_astore dL_exchange_16 (by decide) rfl ?_
  refine g_bipush (v := nI 16) dL_exchange_18 (by decide) ?_
  refine v_newT w2 (by decide) dL_exchange_20 (K := 16) rfl rfl (by rw [hR]; exact Nat.le_of_ble_eq_true rfl) (by rw [hR]; exact Nat.le_of_ble_eq_true rfl) (fun L3 hh3 hL3 w3 => ?_)
  rw [← hL3 15 0 (by decide), ← hL3 5 0 (by decide), ← hL3 13 0 (by decide), ← hL3 13 1 (by decide)]
  rw [zt0] at w3
  skip
  refine g_astore dL_exchange_22 (by decide) rfl ?_
  refine g_bipush (v := nI 24) dL_exchange_24 (by decide) ?_
  refine v_newT w3 (by decide) dL_exchange_26 (K := 24) rfl rfl (by rw [hR]; exact Nat.le_of_ble_eq_true rfl) (by rw [hR]; exact Nat.le_of_ble_eq_true rfl) (fun L4 hh4 hL4 w4 => ?_)
  rw [← hL4 15 0 (by decide), ← hL4 5 0 (by decide), ← hL4 13 0 (by decide), ← hL4 13 1 (by decide), ← hL4 13 2 (by decide)]
  rw [zt0] at w4
  skip
  refine g_astore dL_exchange_28 (by decide) rfl ?_
  refine g_aload_n dL_exchange_30 rfl ?_
  refine g_sipush (v := nI 200) dL_exchange_31 (by decide) ?_
  refine g_aload_n dL_exchange_34 rfl ?_
  refine g_iload_n dL_exchange_35 rfl ?_
  refine g_sipush (v := nI 400) dL_exchange_36 (by decide) ?_
  refine g_callS [_, _, _] dL_exchange_39 mc_L_90 ms_L_draw (c_draw hlt w4 (by omega) (by decide) (by decide)) rfl (Nat.le_of_ble_eq_true rfl) (am_rm hR (by decide)) (fun _ _ z => z) (fun v hx hq hE => ?_)
  obtain ⟨y0, hy0, rfl, rfl⟩ := hq
  refine g_iadd dL_exchange_42 ?_
  rw [nI_add]
  refine g_callV [_] dL_exchange_43 mc_L_24 mi_X4_source se_X4_source (ks_source_0 hlt w4 (by omega) (G0_0 (by decide))) (w4.k (by first | rfl | assumption)) rfl rfl (Nat.le_of_ble_eq_true rfl) (am_rm hR (by decide)) (fun _ _ z => z) (fun v hx hq hE => ?_)
  obtain ⟨rfl, w5⟩ := hq
  refine g_if_ne 53 dL_exchange_46 (by decide) (fun z => absurd (G0_0 (by decide)) z) (fun c_46 => ?_)
  refine g_iconst (v := 1) dL_exchange_49 (by decide) ?_
  refine g_goto 54 dL_exchange_50 (by decide) ?_
  refine g_istore dL_exchange_54 (by decide) rfl ?_
  refine g_iconst (v := nI 0) dL_exchange_56 (by decide) ?_
  refine g_istore dL_exchange_57 (by decide) rfl ?_
  have lp_59 : ∀ (f : Nat) (j : Nat) (A B : Nat → Nat) (ord : List Nat) (L : Nat → Nat → Nat) (Γ : Nat → Nat → Nat → Int32) (h' : am_H), j ≤ 3 → 3 - j < f → VW N j j ord L Γ 4 h' → CI 0 j j A B ord Γ → LT j j Γ → Γ 5 0 5 = 0 → (∀ q, Γ 15 0 q = xs q) → L 15 0 = s → am_G k RL yL_exchange.name cL_exchange 13 (some .boolean) (30 + 6 * j) (300 + 250 * j) Qf 59 [(8, .int (nI j)), (7, .int 1), (6, .ref (L 13 3)), (5, .ref (L 13 2)), (4, .ref (L 13 1)), (3, .ref (L 13 0)), (2, .ref (L 5 0)), (0, .ref (L 15 0)), (1, .int (nI a0))] [] h' := by
    intro f
    induction f with
    | zero => intro j A B ord L Γ h' hj hf w' hc la hf5 hxs e15; omega
    | succ f ih =>
      intro j A B ord L Γ h' hj hf w' hc la hf5 hxs e15
      refine g_iload dL_exchange_59 rfl ?_
      refine g_iconst (v := nI 3) dL_exchange_61 (by decide) ?_
      refine gN_ge 186 dL_exchange_62 (by decide) (by omega) (by omega) (fun c_62 => ?_) (fun c_62 => ?_)
      · skip
        refine g_iconst (v := 0) dL_exchange_186 (by decide) ?_
        refine g_istore dL_exchange_187 (by decide) rfl ?_
        have lp_189 : ∀ (f2 : Nat) (j n p : Nat) (A B : Nat → Nat) (ord : List Nat) (L : Nat → Nat → Nat) (Γ : Nat → Nat → Nat → Int32) (h' : am_H), j ≤ 100 → 100 - j < f2 → VW N n p ord L Γ 4 h' → CI j n p A B ord Γ → LT n p Γ → (3 ≤ n ∧ 3 ≤ p) → (∀ q, Γ 15 0 q = xs q) → L 15 0 = s → am_G k RL yL_exchange.name cL_exchange 13 (some .boolean) (60 + 14 * j) (1200 + 900 * j) Qf 189 [(8, .int (nI j)), (7, .int 1), (6, .ref (L 13 3)), (5, .ref (L 13 2)), (4, .ref (L 13 1)), (3, .ref (L 13 0)), (2, .ref (L 5 0)), (0, .ref (L 15 0)), (1, .int (nI a0))] [] h' := by
          intro f2
          induction f2 with
          | zero => intro j n p A B ord L Γ h' hj hf w' hc la h3 hxs e15; omega
          | succ f2 ih2 =>
            intro j n p A B ord L Γ h' hj hf w' hc la h3 hxs e15
            have rest : j < 100 → ∀ h2 : am_H, SS (j + 1) N L Γ h2 → am_G k RL yL_exchange.name cL_exchange 13 (some .boolean) (60 + 14 * j + 8) (1200 + 900 * j + 800) Qf 336 [(8, .int (nI j)), (7, .int 1), (6, .ref (L 13 3)), (5, .ref (L 13 2)), (4, .ref (L 13 1)), (3, .ref (L 13 0)), (2, .ref (L 5 0)), (0, .ref (L 15 0)), (1, .int (nI a0))] [.int 1] h2 := by
              intro hj100 h2 hss
              obtain ⟨n2, p2, A2, B2, ord2, M2, Γ2, w2, hc2, la2, h32, lk2, hx2⟩ := hss
              rw [← lk2.1, ← lk2.2.1, ← lk2.2.2 0 (by decide), ← lk2.2.2 1 (by decide), ← lk2.2.2 2 (by decide), ← lk2.2.2 3 (by decide)]
              refine g_istore dL_exchange_336 (by decide) rfl ?_
              refine g_iload dL_exchange_338 rfl ?_
              refine g_if_eq 369 dL_exchange_340 (by decide) (fun z => absurd z (by decide)) (fun _ => ?_)
              refine g_iload dL_exchange_343 rfl ?_
              refine g_iconst (v := 5) dL_exchange_345 (by decide) ?_
              refine g_irem dL_exchange_346 (by decide) ?_
              refine g_iconst (v := 4) dL_exchange_347 (by decide) ?_
              refine g_icmp_lt 365 dL_exchange_348 (by decide) (fun c_348 => ?_) (fun c_348 => ?_)
              · skip
                refine g_iconst (v := 1) dL_exchange_365 (by decide) ?_
                refine g_goto 370 dL_exchange_366 (by decide) ?_
                refine g_istore dL_exchange_370 (by decide) rfl ?_
                refine g_iinc dL_exchange_372 rfl (nI_i1 _) (by decide) rfl ?_
                refine g_goto 189 dL_exchange_375 (by decide) ?_
                refine g_widen (60 + 14 * (j + 1)) (1200 + 900 * (j + 1)) (by omega) (by omega) ?_
                refine g_ls [(8, .int (nI (j + 1))), (7, .int 1), (6, .ref (M2 13 3)), (5, .ref (M2 13 2)), (4, .ref (M2 13 1)), (3, .ref (M2 13 0)), (2, .ref (M2 5 0)), (0, .ref (M2 15 0)), (1, .int (nI a0))] ⟨rfl, rfl, rfl, rfl, rfl, rfl, rfl, rfl, rfl, trivial⟩ ?_
                exact ih2 (j + 1) n2 p2 A2 B2 ord2 M2 Γ2 _ (by omega) (by omega) w2 hc2 la2 h32 (fun q => (hx2 q).trans (hxs q)) (lk2.2.1.trans e15)
              · skip
                refine g_aload_n dL_exchange_351 rfl ?_
                refine g_aload_n dL_exchange_352 rfl ?_
                refine g_aload dL_exchange_353 rfl ?_
                refine g_aload dL_exchange_355 rfl ?_
                refine g_aload dL_exchange_357 rfl ?_
                refine g_callS [_, _, _, _, _] dL_exchange_359 mc_L_114 ms_L_isSound (c_isSound hlt w2 hc2 la2) rfl (Nat.le_of_ble_eq_true rfl) (am_rm hR ⟨(by decide), (by decide), (by show _ ≤ 2000; omega), (by show _ ≤ 100000; omega)⟩) (fun _ _ z => z) (fun v hx hq hE => ?_)
                obtain ⟨rfl, w81⟩ := hq
                refine g_if_eq 369 dL_exchange_362 (by decide) (fun z => absurd z (by decide)) (fun _ => ?_)
                refine g_iconst (v := 1) dL_exchange_365 (by decide) ?_
                refine g_goto 370 dL_exchange_366 (by decide) ?_
                refine g_istore dL_exchange_370 (by decide) rfl ?_
                refine g_iinc dL_exchange_372 rfl (nI_i1 _) (by decide) rfl ?_
                refine g_goto 189 dL_exchange_375 (by decide) ?_
                refine g_widen (60 + 14 * (j + 1)) (1200 + 900 * (j + 1)) (by omega) (by omega) ?_
                refine g_ls [(8, .int (nI (j + 1))), (7, .int 1), (6, .ref (M2 13 3)), (5, .ref (M2 13 2)), (4, .ref (M2 13 1)), (3, .ref (M2 13 0)), (2, .ref (M2 5 0)), (0, .ref (M2 15 0)), (1, .int (nI a0))] ⟨rfl, rfl, rfl, rfl, rfl, rfl, rfl, rfl, rfl, trivial⟩ ?_
                exact ih2 (j + 1) n2 p2 A2 B2 ord2 M2 Γ2 _ (by omega) (by omega) w81 hc2 la2 h32 (fun q => (hx2 q).trans (hxs q)) (lk2.2.1.trans e15)
            refine g_iload dL_exchange_189 rfl ?_
            refine g_bipush (v := nI 100) dL_exchange_191 (by decide) ?_
            refine gN_ge 378 dL_exchange_193 (by decide) (by omega) (by omega) (fun c_193 => ?_) (fun c_193 => ?_)
            · skip
              refine g_iload dL_exchange_378 rfl ?_
              refine g_if_eq 401 dL_exchange_380 (by decide) (fun z => absurd z (by decide)) (fun _ => ?_)
              refine g_aload_n dL_exchange_383 rfl ?_
              refine g_aload_n dL_exchange_384 rfl ?_
              refine g_aload dL_exchange_385 rfl ?_
              refine g_aload dL_exchange_387 rfl ?_
              refine g_aload dL_exchange_389 rfl ?_
              refine g_callS [_, _, _, _, _] dL_exchange_391 mc_L_114 ms_L_isSound (c_isSound hlt w' hc la) rfl (Nat.le_of_ble_eq_true rfl) (am_rm hR ⟨(by decide), (by decide), (by show _ ≤ 2000; omega), (by show _ ≤ 100000; omega)⟩) (fun _ _ z => z) (fun v hx hq hE => ?_)
              obtain ⟨rfl, w46⟩ := hq
              refine g_if_eq 401 dL_exchange_394 (by decide) (fun z => absurd z (by decide)) (fun _ => ?_)
              refine g_iconst (v := 1) dL_exchange_397 (by decide) ?_
              refine g_goto 402 dL_exchange_398 (by decide) ?_
              rw [hQ]
              refine g_iret dL_exchange_402 rfl rfl (by omega) (by omega) ?_
              exact ⟨rfl, fun q hq => by rw [← e15]; exact (w46.scr hq).trans (hxs q)⟩
            · skip
              refine g_iload dL_exchange_196 rfl ?_
              refine g_if_eq 378 dL_exchange_198 (by decide) (fun z => absurd z (by decide)) (fun _ => ?_)
              refine g_aload_n dL_exchange_201 rfl ?_
              refine g_iload_n dL_exchange_202 rfl ?_
              refine g_bipush (v := nI 7) dL_exchange_203 (by decide) ?_
              refine g_iadd dL_exchange_205 ?_
              rw [nI_add]
              refine g_iconst (v := nI 2) dL_exchange_206 (by decide) ?_
              refine g_iload dL_exchange_207 rfl ?_
              refine g_imul dL_exchange_209 ?_
              rw [pk_mul]
              refine g_iadd dL_exchange_210 ?_
              rw [nI_add]
              refine g_ldc dL_exchange_211 cn_L_94 ?_
              rw [show (1073741824 : Int32) = nI 1073741824 from rfl]
              refine g_callS [_, _, _] dL_exchange_213 mc_L_90 ms_L_draw (c_draw hlt w' (by omega) (by decide) (by decide)) rfl (Nat.le_of_ble_eq_true rfl) (am_rm hR ⟨(by decide), (by decide), (by show _ ≤ 2000; omega), (by show _ ≤ 100000; omega)⟩) (fun _ _ z => z) (fun v hx hq hE => ?_)
              obtain ⟨x, hx, rfl, rfl⟩ := hq
              refine g_istore dL_exchange_216 (by decide) rfl ?_
              refine g_aload_n dL_exchange_218 rfl ?_
              refine g_iload_n dL_exchange_219 rfl ?_
              refine g_bipush (v := nI 8) dL_exchange_220 (by decide) ?_
              refine g_iadd dL_exchange_222 ?_
              rw [nI_add]
              refine g_iconst (v := nI 2) dL_exchange_223 (by decide) ?_
              refine g_iload dL_exchange_224 rfl ?_
              refine g_imul dL_exchange_226 ?_
              rw [pk_mul]
              refine g_iadd dL_exchange_227 ?_
              rw [nI_add]
              refine g_ldc dL_exchange_228 cn_L_94 ?_
              rw [show (1073741824 : Int32) = nI 1073741824 from rfl]
              refine g_callS [_, _, _] dL_exchange_230 mc_L_90 ms_L_draw (c_draw hlt w' (by omega) (by decide) (by decide)) rfl (Nat.le_of_ble_eq_true rfl) (am_rm hR ⟨(by decide), (by decide), (by show _ ≤ 2000; omega), (by show _ ≤ 100000; omega)⟩) (fun _ _ z => z) (fun v hx hq hE => ?_)
              obtain ⟨y, hy, rfl, rfl⟩ := hq
              refine g_istore dL_exchange_233 (by decide) rfl ?_
              refine g_iload dL_exchange_235 rfl ?_
              refine g_bipush (v := nI 16) dL_exchange_237 (by decide) ?_
              refine g_irem dL_exchange_239 (by decide) ?_
              rw [pk_rem (by omega) (by decide) (by decide)]
              refine g_istore dL_exchange_240 (by decide) rfl ?_
              refine g_iload dL_exchange_242 rfl ?_
              refine g_bipush (v := nI 16) dL_exchange_244 (by decide) ?_
              refine g_idiv dL_exchange_246 (by decide) ?_
              rw [pk_div (by omega) (by decide) (by decide)]
              refine g_istore dL_exchange_247 (by decide) rfl ?_
              refine g_iload dL_exchange_249 rfl ?_
              refine g_bipush (v := 6) dL_exchange_251 (by decide) ?_
              refine g_icmp_ge 268 dL_exchange_253 (by decide) (fun c_253 => ?_) (fun c_253 => ?_)
              · skip
                refine g_iload dL_exchange_268 rfl ?_
                refine g_bipush (v := 9) dL_exchange_270 (by decide) ?_
                refine g_icmp_ge 285 dL_exchange_272 (by decide) (fun c_272 => ?_) (fun c_272 => ?_)
                · skip
                  refine g_iload dL_exchange_285 rfl ?_
                  refine g_bipush (v := 9) dL_exchange_287 (by decide) ?_
                  refine g_icmp_ne 306 dL_exchange_289 (by decide) (fun c_289 => ?_) (fun c_289 => ?_)
                  · skip
                    refine g_iload dL_exchange_306 rfl ?_
                    refine g_bipush (v := 12) dL_exchange_308 (by decide) ?_
                    refine g_icmp_ge 323 dL_exchange_310 (by decide) (fun c_310 => ?_) (fun c_310 => ?_)
                    · skip
                      refine g_aload_n dL_exchange_323 rfl ?_
                      refine g_iload dL_exchange_324 rfl ?_
                      refine g_iload dL_exchange_326 rfl ?_
                      refine g_aload_n dL_exchange_328 rfl ?_
                      refine g_aload dL_exchange_329 rfl ?_
                      refine g_aload dL_exchange_331 rfl ?_
                      refine g_callS [_, _, _, _, _, _] dL_exchange_333 mc_L_110 ms_L_others (c_others hlt w' hc la h3 (by omega) (by omega)) rfl (Nat.le_of_ble_eq_true rfl) (am_rm hR ⟨(by decide), (by decide), (by show _ ≤ 2000; omega), (by show _ ≤ 100000; omega)⟩) (fun _ _ z => z) (fun v hx hq hE => ?_)
                      obtain ⟨rfl, hss⟩ := hq
                      refine g_widen (60 + 14 * j + 8) (1200 + 900 * j + 800) (by omega) (by omega) ?_
                      refine g_ls [(8, .int (nI j)), (7, .int 1), (6, .ref (L 13 3)), (5, .ref (L 13 2)), (4, .ref (L 13 1)), (3, .ref (L 13 0)), (2, .ref (L 5 0)), (0, .ref (L 15 0)), (1, .int (nI a0))] ⟨rfl, rfl, rfl, rfl, rfl, rfl, rfl, rfl, rfl, trivial⟩ ?_
                      exact rest (by omega) _ hss
                    · skip
                      refine g_aload_n dL_exchange_313 rfl ?_
                      refine g_aload_n dL_exchange_314 rfl ?_
                      refine g_aload dL_exchange_315 rfl ?_
                      refine g_callS [_, _, _] dL_exchange_317 mc_L_107 ms_L_ends (c_ends hlt w' hc la h3 (by omega)) rfl (Nat.le_of_ble_eq_true rfl) (am_rm hR ⟨(by decide), (by decide), (by show _ ≤ 2000; omega), (by show _ ≤ 100000; omega)⟩) (fun _ _ z => z) (fun v hx hq hE => ?_)
                      obtain ⟨rfl, hss⟩ := hq
                      refine g_goto 336 dL_exchange_320 (by decide) ?_
                      refine g_widen (60 + 14 * j + 8) (1200 + 900 * j + 800) (by omega) (by omega) ?_
                      refine g_ls [(8, .int (nI j)), (7, .int 1), (6, .ref (L 13 3)), (5, .ref (L 13 2)), (4, .ref (L 13 1)), (3, .ref (L 13 0)), (2, .ref (L 5 0)), (0, .ref (L 15 0)), (1, .int (nI a0))] ⟨rfl, rfl, rfl, rfl, rfl, rfl, rfl, rfl, rfl, trivial⟩ ?_
                      exact rest (by omega) _ hss
                  · skip
                    refine g_aload_n dL_exchange_292 rfl ?_
                    refine g_iload dL_exchange_293 rfl ?_
                    refine g_aload_n dL_exchange_295 rfl ?_
                    refine g_aload dL_exchange_296 rfl ?_
                    refine g_aload dL_exchange_298 rfl ?_
                    refine g_callS [_, _, _, _, _] dL_exchange_300 mc_L_103 ms_L_bursts (c_bursts hlt w' hc la h3 (by omega)) rfl (Nat.le_of_ble_eq_true rfl) (am_rm hR ⟨(by decide), (by decide), (by show _ ≤ 2000; omega), (by show _ ≤ 100000; omega)⟩) (fun _ _ z => z) (fun v hx hq hE => ?_)
                    obtain ⟨rfl, hss⟩ := hq
                    refine g_goto 336 dL_exchange_303 (by decide) ?_
                    refine g_widen (60 + 14 * j + 8) (1200 + 900 * j + 800) (by omega) (by omega) ?_
                    refine g_ls [(8, .int (nI j)), (7, .int 1), (6, .ref (L 13 3)), (5, .ref (L 13 2)), (4, .ref (L 13 1)), (3, .ref (L 13 0)), (2, .ref (L 5 0)), (0, .ref (L 15 0)), (1, .int (nI a0))] ⟨rfl, rfl, rfl, rfl, rfl, rfl, rfl, rfl, rfl, trivial⟩ ?_
                    exact rest (by omega) _ hss
                · skip
                  refine g_aload_n dL_exchange_275 rfl ?_
                  refine g_aload_n dL_exchange_276 rfl ?_
                  refine g_aload dL_exchange_277 rfl ?_
                  refine g_callS [_, _, _] dL_exchange_279 mc_L_99 ms_L_closes (c_closes hlt w' hc la h3) rfl (Nat.le_of_ble_eq_true rfl) (am_rm hR ⟨(by decide), (by decide), (by show _ ≤ 2000; omega), (by show _ ≤ 100000; omega)⟩) (fun _ _ z => z) (fun v hx hq hE => ?_)
                  obtain ⟨rfl, hss⟩ := hq
                  refine g_goto 336 dL_exchange_282 (by decide) ?_
                  refine g_widen (60 + 14 * j + 8) (1200 + 900 * j + 800) (by omega) (by omega) ?_
                  refine g_ls [(8, .int (nI j)), (7, .int 1), (6, .ref (L 13 3)), (5, .ref (L 13 2)), (4, .ref (L 13 1)), (3, .ref (L 13 0)), (2, .ref (L 5 0)), (0, .ref (L 15 0)), (1, .int (nI a0))] ⟨rfl, rfl, rfl, rfl, rfl, rfl, rfl, rfl, rfl, trivial⟩ ?_
                  exact rest (by omega) _ hss
              · skip
                refine g_aload_n dL_exchange_256 rfl ?_
                refine g_iload dL_exchange_257 rfl ?_
                refine g_iload dL_exchange_259 rfl ?_
                refine g_aload_n dL_exchange_261 rfl ?_
                refine g_callS [_, _, _, _] dL_exchange_262 mc_L_95 ms_L_bids (c_bids hlt w' hc la h3 (by omega) (by omega) (by omega)) rfl (Nat.le_of_ble_eq_true rfl) (am_rm hR ⟨(by decide), (by decide), (by show _ ≤ 2000; omega), (by show _ ≤ 100000; omega)⟩) (fun _ _ z => z) (fun v hx hq hE => ?_)
                obtain ⟨rfl, hss⟩ := hq
                refine g_goto 336 dL_exchange_265 (by decide) ?_
                refine g_widen (60 + 14 * j + 8) (1200 + 900 * j + 800) (by omega) (by omega) ?_
                refine g_ls [(8, .int (nI j)), (7, .int 1), (6, .ref (L 13 3)), (5, .ref (L 13 2)), (4, .ref (L 13 1)), (3, .ref (L 13 0)), (2, .ref (L 5 0)), (0, .ref (L 15 0)), (1, .int (nI a0))] ⟨rfl, rfl, rfl, rfl, rfl, rfl, rfl, rfl, rfl, trivial⟩ ?_
                exact rest (by omega) _ hss
        have ej : j = 3 := by omega
        subst ej
        refine g_widen (60 + 14 * 0) (1200 + 900 * 0) (by omega) (by omega) ?_
        refine g_ls [(8, .int (nI 0)), (7, .int 1), (6, .ref (L 13 3)), (5, .ref (L 13 2)), (4, .ref (L 13 1)), (3, .ref (L 13 0)), (2, .ref (L 5 0)), (0, .ref (L 15 0)), (1, .int (nI a0))] ⟨rfl, rfl, rfl, rfl, rfl, rfl, rfl, rfl, rfl, trivial⟩ ?_
        exact lp_189 101 0 3 3 A B ord L Γ _ (by omega) (by omega) w' hc la ⟨by decide, by decide⟩ hxs e15
      · skip
        refine g_aload dL_exchange_65 rfl ?_
        refine g_iconst (v := nI 2) dL_exchange_67 (by decide) ?_
        refine g_iload dL_exchange_68 rfl ?_
        refine g_imul dL_exchange_70 ?_
        rw [pk_mul]
        refine g_bipush (v := nI 50) dL_exchange_71 (by decide) ?_
        refine g_aload_n dL_exchange_73 rfl ?_
        refine g_iload_n dL_exchange_74 rfl ?_
        refine g_iconst (v := nI 1) dL_exchange_75 (by decide) ?_
        refine g_iadd dL_exchange_76 ?_
        rw [nI_add]
        refine g_iload dL_exchange_77 rfl ?_
        refine g_iadd dL_exchange_79 ?_
        rw [nI_add]
        refine g_sipush (v := nI 200) dL_exchange_80 (by decide) ?_
        refine g_callS [_, _, _] dL_exchange_83 mc_L_90 ms_L_draw (c_draw hlt w' (by omega) (by decide) (by decide)) rfl (Nat.le_of_ble_eq_true rfl) (am_rm hR ⟨(by decide), (by decide), (by show _ ≤ 2000; omega), (by show _ ≤ 100000; omega)⟩) (fun _ _ z => z) (fun v hx hq hE => ?_)
        obtain ⟨y, hy, rfl, rfl⟩ := hq
        refine g_iadd dL_exchange_86 ?_
        rw [nI_add]
        refine v_ast w' dL_exchange_87 (by first | rfl | assumption) (by first | assumption | omega | (show _ < 8; omega) | (show _ < 24; omega) | (show _ < 5; omega) | (show _ < 16; omega) | (show _ < 9; omega)) (fun h26 w26 => ?_)
        refine g_aload dL_exchange_88 rfl ?_
        refine g_iconst (v := nI 2) dL_exchange_90 (by decide) ?_
        refine g_iload dL_exchange_91 rfl ?_
        refine g_imul dL_exchange_93 ?_
        rw [pk_mul]
        refine g_iconst (v := nI 1) dL_exchange_94 (by decide) ?_
        refine g_iadd dL_exchange_95 ?_
        rw [nI_add]
        refine g_bipush (v := nI 30) dL_exchange_96 (by decide) ?_
        refine g_iload dL_exchange_98 rfl ?_
        refine g_imul dL_exchange_100 ?_
        rw [pk_mul]
        refine v_ast w26 dL_exchange_101 (by first | rfl | assumption) (by first | assumption | omega | (show _ < 8; omega) | (show _ < 24; omega) | (show _ < 5; omega) | (show _ < 16; omega) | (show _ < 9; omega)) (fun h27 w27 => ?_)
        obtain ⟨Γa, eΓa⟩ : ∃ G, G = u3 (u3 Γ 13 1 (2 * j) (nI (50 + y))) 13 1 (2 * j + 1) (nI (30 * j)) := ⟨_, rfl⟩
        rw [← eΓa] at w27
        have hza : ∀ c a b, ¬ (c = 13 ∧ a = 1 ∧ (b = 2 * j ∨ b = 2 * j + 1)) → Γa c a b = Γ c a b := fun c a b z => by rw [eΓa, u3_n (by omega), u3_n (by omega)]
        have ta0 : Γa 13 1 (2 * j) = nI (50 + y) := by rw [eΓa, u3_n (by omega), u3_s]
        have ta1 : Γa 13 1 (2 * j + 1) = nI (30 * j) := by rw [eΓa, u3_s]
        have hca : CI 0 j j A B ord Γa := hc.congr (fun c a b z => hza c a b (fun y => z (by unfold irr; omega)))
        have hfa : Γa 5 0 5 = 0 := (hza 5 0 5 (by omega)).trans hf5
        refine g_iload dL_exchange_102 rfl ?_
        refine g_if_eq 163 dL_exchange_104 (by decide) (fun z => absurd z (by decide)) (fun _ => ?_)
        refine g_aload_n dL_exchange_107 rfl ?_
        refine g_aload dL_exchange_108 rfl ?_
        refine g_iconst (v := nI 2) dL_exchange_110 (by decide) ?_
        refine g_iload dL_exchange_111 rfl ?_
        refine g_imul dL_exchange_113 ?_
        rw [pk_mul]
        refine v_ald w27 dL_exchange_114 (by first | rfl | assumption) (by first | assumption | omega | (show _ < 8; omega) | (show _ < 24; omega) | (show _ < 5; omega) | (show _ < 16; omega) | (show _ < 9; omega)) ?_
        rw [ta0]
        refine g_bipush (v := nI 30) dL_exchange_115 (by decide) ?_
        refine g_iload dL_exchange_117 rfl ?_
        refine g_imul dL_exchange_119 ?_
        rw [pk_mul]
        refine g_callV [_, _] dL_exchange_120 mc_L_16 mi_X4_district se_X4_district (kd_district_0 hlt w27 (by omega) (by omega) (by omega)) (w27.k (by first | rfl | assumption)) rfl rfl (Nat.le_of_ble_eq_true rfl) (am_rm hR ⟨(by decide), (by decide), (by show _ ≤ 2000; omega), (by show _ ≤ 100000; omega)⟩) (fun _ _ z => z) (fun v hx hq hE => ?_)
        obtain ⟨rfl, LP1, hLd, w28⟩ := hq
        have lk1 := hLd.lk
        rw [← lk1.1, ← lk1.2.1, ← lk1.2.2 0 (by decide), ← lk1.2.2 1 (by decide), ← lk1.2.2 2 (by decide), ← lk1.2.2 3 (by decide)]
        obtain ⟨Γb, eΓb⟩ : ∃ G, G = sp_cdist j (nI (50 + y)) (nI (30 * j)) Γa := ⟨_, rfl⟩
        have hcb : CI 0 (j + 1) j A B ord Γb := by
          rw [eΓb]
          exact keep_district hca (by rw [nI_toInt (by omega)]; omega) (by rw [nI_toInt (by omega)]; omega)
        have hzb : ∀ c a b, ¬ (c ≤ 2 ∧ a = j) → Γb c a b = Γa c a b := fun c a b z => by rw [eΓb]; exact if_neg z
        have hzn : ∀ b, Γb 2 j b = if b = 2 then nI (30 * j) else if b = 1 then nI (50 + y) else if b = 0 then nI j + 1 else 0 := fun b => by
          rw [eΓb]
          unfold sp_cdist
          rw [if_pos ⟨by omega, rfl⟩, if_pos rfl]
        rw [← eΓb] at w28
        have hfb : Γb 5 0 5 = 0 := (hzb 5 0 5 (by omega)).trans hfa
        refine g_iload dL_exchange_123 rfl ?_
        refine g_icmp_ne 163 dL_exchange_125 (by decide) (fun z => absurd rfl z) (fun c_125 => ?_)
        refine g_aload_n dL_exchange_128 rfl ?_
        refine g_iload dL_exchange_129 rfl ?_
        refine g_iconst (v := nI 1) dL_exchange_131 (by decide) ?_
        refine g_isub dL_exchange_132 ?_
        obtain ⟨fv, efv⟩ : ∃ fv, fv = nI j - nI 1 := ⟨_, rfl⟩
        have hfv := I_from (q := j) (n := j + 1) (by omega) (by omega) efv
        rw [← efv]
        refine g_iload dL_exchange_133 rfl ?_
        refine g_bipush (v := nI 60) dL_exchange_135 (by decide) ?_
        refine g_aload_n dL_exchange_137 rfl ?_
        refine g_iload_n dL_exchange_138 rfl ?_
        refine g_iconst (v := nI 4) dL_exchange_139 (by decide) ?_
        refine g_iadd dL_exchange_140 ?_
        rw [nI_add]
        refine g_iload dL_exchange_141 rfl ?_
        refine g_iadd dL_exchange_143 ?_
        rw [nI_add]
        refine g_sipush (v := nI 200) dL_exchange_144 (by decide) ?_
        refine g_callS [_, _, _] dL_exchange_147 mc_L_90 ms_L_draw (c_draw hlt w28 (by omega) (by decide) (by decide)) rfl (Nat.le_of_ble_eq_true rfl) (am_rm hR ⟨(by decide), (by decide), (by show _ ≤ 2000; omega), (by show _ ≤ 100000; omega)⟩) (fun _ _ z => z) (fun v hx hq hE => ?_)
        obtain ⟨y2, hy2, rfl, rfl⟩ := hq
        refine g_iadd dL_exchange_150 ?_
        rw [nI_add]
        refine g_callV [_, _, _] dL_exchange_151 mc_L_20 mi_X4_pipe se_X4_pipe (kp_pipe_0 hlt w28 hfv (j := j) (by omega) (by omega) (by omega) (by omega) (by omega) hfb) (w28.k (by first | rfl | assumption)) rfl rfl (Nat.le_of_ble_eq_true rfl) (am_rm hR ⟨(by decide), (by decide), (by show _ ≤ 2000; omega), (by show _ ≤ 100000; omega)⟩) (fun _ _ z => z) (fun v hx hq hE => ?_)
        obtain ⟨rfl, LP2, hLe, w29⟩ := hq
        have lk2 := hLe.lk
        rw [← lk2.1, ← lk2.2.1, ← lk2.2.2 0 (by decide), ← lk2.2.2 1 (by decide), ← lk2.2.2 2 (by decide), ← lk2.2.2 3 (by decide)]
        obtain ⟨Γc, eΓc⟩ : ∃ G, G = sp_cpipe j (nI j) (nI (j + 1)) (nI (60 + y2)) Γb := ⟨_, rfl⟩
        have hcc : CI 0 (j + 1) (j + 1) (fun q => if q = j then j else A q) (fun q => if q = j then j + 1 else B q) ord Γc := by
          rw [eΓc]
          exact keep_pipe hcb hfb (by omega) (by omega) (by rw [nI_toInt (by omega)]; omega)
        have hzc : ∀ c a b, ¬ (c = 4 ∧ a = j) → Γc c a b = Γb c a b := fun c a b z => by rw [eΓc]; exact if_neg z
        have hz3 : Γc 4 j 3 = 0 := by rw [eΓc]; unfold sp_cpipe; rw [if_pos ⟨rfl, rfl⟩, if_neg (by decide), if_neg (by decide), if_neg (by decide)]
        rw [← eΓc] at w29
        have g0 : Γc 13 0 0 = nI j := (hzc 13 0 0 (by omega)).trans ((hzb 13 0 0 (by omega)).trans ((hza 13 0 0 (by omega)).trans la.1))
        have g1 : Γc 13 0 1 = nI j := (hzc 13 0 1 (by omega)).trans ((hzb 13 0 1 (by omega)).trans ((hza 13 0 1 (by omega)).trans la.2.1))
        refine g_iload dL_exchange_154 rfl ?_
        refine g_icmp_ne 163 dL_exchange_156 (by decide) (fun z => absurd rfl z) (fun c_156 => ?_)
        refine g_iconst (v := 1) dL_exchange_159 (by decide) ?_
        refine g_goto 164 dL_exchange_160 (by decide) ?_
        refine g_istore dL_exchange_164 (by decide) rfl ?_
        refine g_aload_n dL_exchange_166 rfl ?_
        refine g_iconst (v := nI 0) dL_exchange_167 (by decide) ?_
        refine g_dup2 dL_exchange_168 rfl rfl ?_
        refine v_ald w29 dL_exchange_169 (by first | rfl | assumption) (by first | assumption | omega | (show _ < 8; omega) | (show _ < 24; omega) | (show _ < 5; omega) | (show _ < 16; omega) | (show _ < 9; omega)) ?_
        rw [g0]
        refine g_iconst (v := nI 1) dL_exchange_170 (by decide) ?_
        refine g_iadd dL_exchange_171 ?_
        rw [nI_add]
        refine v_ast w29 dL_exchange_172 (by first | rfl | assumption) (by first | assumption | omega | (show _ < 8; omega) | (show _ < 24; omega) | (show _ < 5; omega) | (show _ < 16; omega) | (show _ < 9; omega)) (fun h30 w30 => ?_)
        refine g_aload_n dL_exchange_173 rfl ?_
        refine g_iconst (v := nI 1) dL_exchange_174 (by decide) ?_
        refine g_dup2 dL_exchange_175 rfl rfl ?_
        refine v_ald w30 dL_exchange_176 (by first | rfl | assumption) (by first | assumption | omega | (show _ < 8; omega) | (show _ < 24; omega) | (show _ < 5; omega) | (show _ < 16; omega) | (show _ < 9; omega)) ?_
        rw [u3_n (by omega), g1]
        refine g_iconst (v := nI 1) dL_exchange_177 (by decide) ?_
        refine g_iadd dL_exchange_178 ?_
        rw [nI_add]
        refine v_ast w30 dL_exchange_179 (by first | rfl | assumption) (by first | assumption | omega | (show _ < 8; omega) | (show _ < 24; omega) | (show _ < 5; omega) | (show _ < 16; omega) | (show _ < 9; omega)) (fun h31 w31 => ?_)
        refine g_iinc dL_exchange_180 rfl (nI_i1 _) (by decide) rfl ?_
        refine g_goto 59 dL_exchange_183 (by decide) ?_
        obtain ⟨G, eG⟩ : ∃ G, G = u3 (u3 Γc 13 0 0 (nI (j + 1))) 13 0 1 (nI (j + 1)) := ⟨_, rfl⟩
        rw [← eG] at w31
        have hG : ∀ c a b, ¬ (c = 13 ∧ a = 0 ∧ b ≤ 1) → G c a b = Γc c a b := fun c a b z => by rw [eG, u3_n (by omega), u3_n (by omega)]
        have eo : ∀ c a b, (¬ (c ≤ 2 ∧ a = j) ∧ ¬ (c = 4 ∧ a = j) ∧ ¬ (c = 13 ∧ a = 1 ∧ (b = 2 * j ∨ b = 2 * j + 1)) ∧ ¬ (c = 13 ∧ a = 0 ∧ b ≤ 1)) → G c a b = Γ c a b := fun c a b z => (hG c a b z.2.2.2).trans ((hzc c a b z.2.1).trans ((hzb c a b z.1).trans (hza c a b z.2.2.1)))
        have t0 : G 13 1 (2 * j) = nI (50 + y) := (hG 13 1 (2 * j) (by omega)).trans ((hzc 13 1 (2 * j) (by omega)).trans ((hzb 13 1 (2 * j) (by omega)).trans ta0))
        have t1 : G 13 1 (2 * j + 1) = nI (30 * j) := (hG 13 1 (2 * j + 1) (by omega)).trans ((hzc 13 1 (2 * j + 1) (by omega)).trans ((hzb 13 1 (2 * j + 1) (by omega)).trans ta1))
        have eD : ∀ b, G 2 j b = if b = 2 then nI (30 * j) else if b = 1 then nI (50 + y) else if b = 0 then nI j + 1 else 0 := fun b => (hG 2 j b (by omega)).trans ((hzc 2 j b (by omega)).trans (hzn b))
        obtain ⟨la0, la1, la2, la3, la4, lad, lap, lan, lapn⟩ := la
        refine g_widen (30 + 6 * (j + 1)) (300 + 250 * (j + 1)) (by omega) (by omega) ?_
        refine g_ls [(8, .int (nI (j + 1))), (7, .int 1), (6, .ref (LP2 13 3)), (5, .ref (LP2 13 2)), (4, .ref (LP2 13 1)), (3, .ref (LP2 13 0)), (2, .ref (LP2 5 0)), (0, .ref (LP2 15 0)), (1, .int (nI a0))] ⟨rfl, rfl, rfl, rfl, rfl, rfl, rfl, rfl, rfl, trivial⟩ ?_
        refine ih (j + 1) _ _ ord LP2 G _ (by omega) (by omega) w31 (hcc.congr (fun c a b z => hG c a b (fun y => z (by unfold irr; omega)))) ⟨by rw [eG, u3_n (by omega), u3_s], by rw [eG, u3_s], ?_, ?_, ?_, fun d hd => ?_, fun q hq => ?_, fun d hd => ?_, fun q hq => (eo 13 3 q (by omega)).trans (lapn q (by omega))⟩ ((eo 5 0 5 (by omega)).trans hf5) (fun q => (eo 15 0 q (by omega)).trans (hxs q)) (lk2.2.1.trans (lk1.2.1.trans e15))
        · rw [eo 13 0 2 (by omega), eo 5 0 3 (by omega)]; exact la2
        · rw [eo 13 0 3 (by omega), eo 5 0 5 (by omega)]; exact la3
        · rw [eo 13 0 4 (by omega), eo 5 0 8 (by omega)]; exact la4
        · by_cases e : d = j
          · rw [e, t0, t1, eo 13 2 (2 * j) (by omega), eo 13 2 (2 * j + 1) (by omega), eD 1, eD 2, eD 9, eD 10, (lan j (Nat.le_refl j)).1, (lan j (Nat.le_refl j)).2]
            exact ⟨rfl, rfl, rfl, rfl⟩
          · rw [eo 13 1 (2 * d) (by omega), eo 13 1 (2 * d + 1) (by omega), eo 13 2 (2 * d) (by omega), eo 13 2 (2 * d + 1) (by omega), eo 2 d 1 (by omega), eo 2 d 2 (by omega), eo 2 d 9 (by omega), eo 2 d 10 (by omega)]
            exact lad d (by omega)
        · by_cases e : q = j
          · rw [e, eo 13 3 j (by omega), hG 4 j 3 (by omega), hz3]
            exact lapn j (Nat.le_refl j)
          · rw [eo 13 3 q (by omega), eo 4 q 3 (by omega)]
            exact lap q (by omega)
        · rw [eo 13 2 (2 * d) (by omega), eo 13 2 (2 * d + 1) (by omega)]
          exact lan d (by omega)
  refine g_widen (30 + 6 * 0) (300 + 250 * 0) (Nat.le_of_ble_eq_true rfl) (Nat.le_of_ble_eq_true rfl) ?_
  refine g_ls [(8, .int (nI 0)), (7, .int 1), (6, .ref (L4 13 3)), (5, .ref (L4 13 2)), (4, .ref (L4 13 1)), (3, .ref (L4 13 0)), (2, .ref (L4 5 0)), (0, .ref (L4 15 0)), (1, .int (nI a0))] ⟨rfl, rfl, rfl, rfl, rfl, rfl, rfl, rfl, rfl, trivial⟩ ?_
  exact lp_59 4 0 (fun _ => 0) (fun _ => 0) [] L4 _ _ (by omega) (by omega) w5 (keep_source CI0 (G0_0 (by decide)) (by rw [nI_toInt (by omega)]; omega) (by rw [nI_toInt (by omega)]; omega)) (LT0.cg (fun c i j z => u3_n (by omega))) ((u3_n (by omega)).trans (G0_0 (by decide))) (fun q => (u3_n (by omega)).trans (if_pos rfl)) ((hL4 15 0 (by decide)).trans ((hL3 15 0 (by decide)).trans ((hL2 15 0 (by decide)).trans ((hL1 15 0 (by decide)).trans e15))))
