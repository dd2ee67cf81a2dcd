/-! ===== the law's body ===== -/
theorem lcmp0 {x y : Int64} (h : x = y) : lg_cmp x y = 0 := by
  subst h
  unfold lg_cmp
  simp
set_option maxRecDepth 100000 in
set_option maxHeartbeats 4000000 in
theorem law_c0 {k : am_X} {nm : String} {ret : Option FieldType} {Q : State → Prop} (hR : am_kR k = room_1) (hlt : (am_kl k).stackTraces = false) {N n p T : Nat} {A B : Nat → Nat} {ord : List Nat} {L : Nat → Nat → Nat} {Γ : Nat → Nat → Nat → Int32} {o : Int64} {h : am_H} (w : WI N n p ord L Γ o h) (hr : RI T n p A B ord Γ) (hT : T < 2 ^ 30) {i cc ss : Nat} (hi : i + 4 ≤ N) (hcc : cc + 8 ≤ 601024) (hss : ss + 800 ≤ 7293034) (next : ∀ (T' n' p' : Nat) (A' B' : Nat → Nat) (ord' : List Nat) (L' : Nat → Nat → Nat) (Γ' : Nat → Nat → Nat → Int32) (o' : Int64) (h' : am_H) (cc' ss' : Nat), T' ≤ T + 1 → WI N n' p' ord' L' Γ' o' h' → RI T' n' p' A' B' ord' Γ' → sm L L' → cc' ≤ cc + 8 → ss' ≤ ss + 800 → am_G k RL nm cL_law 7 ret cc' ss' Q 973 [(4, .int (nI i)), (3, .ref (L 14 0)), (2, .ref (L 11 0)), (1, .ref (L 5 0)), (0, .ref (L 15 0))] [] h') : am_G k RL nm cL_law 7 ret cc ss Q 116 [(4, .int (nI i)), (3, .ref (L 14 0)), (2, .ref (L 11 0)), (1, .ref (L 5 0)), (0, .ref (L 15 0))] [] h := by
  obtain ⟨K, mc, ms, M, hmc, hms, hw, hJ⟩ := J_district hlt w hr (Γ 15 0 (i + 1)) (Γ 15 0 (i + 2))
  refine g_aload_n dL_law_116 rfl ?_
  refine g_aload_n dL_law_117 rfl ?_
  refine g_iload dL_law_118 rfl ?_
  refine g_iconst (v := nI 1) dL_law_120 (by decide) ?_
  refine g_iadd dL_law_121 ?_
  rw [nI_add]
  refine w_sald w dL_law_122 (by omega) ?_
  refine g_aload_n dL_law_123 rfl ?_
  refine g_iload dL_law_124 rfl ?_
  refine g_iconst (v := nI 2) dL_law_126 (by decide) ?_
  refine g_iadd dL_law_127 ?_
  rw [nI_add]
  refine w_sald w dL_law_128 (by omega) ?_
  refine g_aload_n dL_law_129 rfl ?_
  refine g_callSX [_, _, _, _] dL_law_130 mcw_district hw rfl (Nat.le_of_ble_eq_true rfl) (by rw [hR]; exact ⟨Nat.le_of_ble_eq_true rfl, Nat.le_of_ble_eq_true rfl, show cc + mc ≤ 601024 by omega, show ss + ms ≤ 7293034 by omega⟩) (fun _ _ z => z) (fun v1 h1 hq hE => ?_)
  obtain ⟨rfl, hM⟩ := hq
  obtain ⟨⟨n1, p1, ord1, L1, Γ1, o1, w1, s1, e1⟩, hm⟩ := hJ h1 hM
  rw [← s1.2.2.2]
  refine g_istore dL_law_133 (by decide) rfl ?_
  refine g_aload_n dL_law_135 rfl ?_
  refine g_aload_n dL_law_136 rfl ?_
  refine g_iload dL_law_137 rfl ?_
  refine g_iconst (v := nI 1) dL_law_139 (by decide) ?_
  refine g_iadd dL_law_140 ?_
  rw [nI_add]
  refine w_sald w1 dL_law_141 (by omega) ?_
  rw [e1]
  refine g_aload_n dL_law_142 rfl ?_
  refine g_iload dL_law_143 rfl ?_
  refine g_iconst (v := nI 2) dL_law_145 (by decide) ?_
  refine g_iadd dL_law_146 ?_
  rw [nI_add]
  refine w_sald w1 dL_law_147 (by omega) ?_
  rw [e1]
  rw [s1.2.2.2]
  refine g_callV [_, _] dL_law_148 mc_L_72 mi_X5_district se_X5_district hm (by rw [← s1.2.1]; exact w1.k rfl) rfl rfl (Nat.le_of_ble_eq_true rfl) (by rw [hR]; exact ⟨Nat.le_of_ble_eq_true rfl, Nat.le_of_ble_eq_true rfl, show cc + mc + 0 ≤ 601024 by omega, show ss + ms + 0 ≤ 7293034 by omega⟩) (fun _ _ z => z) (fun v2 h2 hq hE2 => ?_)
  obtain ⟨b, rfl, T2, n2, p2, A2, B2, ord2, L2, Γ2, o2, hT2, w2, r2, s2, e2, e34, hP⟩ := hq
  refine g_istore dL_law_151 (by decide) rfl ?_
  refine g_aload_n dL_law_153 rfl ?_
  have ht := c_X5_thrown hlt w2
  rw [s2.2.1] at ht
  refine g_callV [] dL_law_154 mc_L_73 mi_X5_thrown se_X5_thrown ht (by rw [← s2.2.1]; exact w2.k rfl) rfl rfl (Nat.le_of_ble_eq_true rfl) (by rw [hR]; exact ⟨Nat.le_of_ble_eq_true rfl, Nat.le_of_ble_eq_true rfl, show cc + mc + 0 + 0 ≤ 601024 by omega, show ss + ms + 0 + 0 ≤ 7293034 by omega⟩) (fun _ _ z => z) (fun v3 h3 hq hE3 => ?_)
  obtain ⟨rfl, rfl⟩ := hq
  refine g_iload dL_law_157 rfl ?_
  refine g_icmp_eq 164 dL_law_159 (by decide) (fun _ => ?_) (fun z => absurd e34 z)
  refine g_iload dL_law_164 rfl ?_
  refine g_if_ne 181 dL_law_166 (by decide) (fun _ => ?_) (fun c0 => ?_)
  · refine g_goto 973 dL_law_181 (by decide) ?_
    refine g_ls [(4, .int (nI i)), (3, .ref (L 14 0)), (2, .ref (L 11 0)), (1, .ref (L 5 0)), (0, .ref (L 15 0))] ⟨rfl, rfl, rfl, rfl, rfl, trivial⟩ ?_
    exact next T2 n2 p2 A2 B2 ord2 L2 Γ2 o2 _ _ _ hT2 w2 r2 s2 (by omega) (by omega)
  · skip
    refine g_aload_n dL_law_169 rfl ?_
    refine g_iconst (v := nI 0) dL_law_170 (by decide) ?_
    rw [← s2.2.2.1]
    refine w_lald w2 dL_law_171 ?_
    rw [s2.2.2.1]
    refine g_iload dL_law_172 rfl ?_
    refine g_i2l dL_law_174 rfl ?_
    refine g_lcmp dL_law_175 ?_
    refine g_if_eq 181 dL_law_176 (by decide) (fun _ => ?_) (fun z => absurd (lcmp0 (hP c0)) z)
    refine g_goto 973 dL_law_181 (by decide) ?_
    refine g_ls [(4, .int (nI i)), (3, .ref (L 14 0)), (2, .ref (L 11 0)), (1, .ref (L 5 0)), (0, .ref (L 15 0))] ⟨rfl, rfl, rfl, rfl, rfl, trivial⟩ ?_
    exact next T2 n2 p2 A2 B2 ord2 L2 Γ2 o2 _ _ _ hT2 w2 r2 s2 (by omega) (by omega)
set_option maxRecDepth 100000 in
set_option maxHeartbeats 4000000 in
theorem law_c1 {k : am_X} {nm : String} {ret : Option FieldType} {Q : State → Prop} (hR : am_kR k = room_1) (hlt : (am_kl k).stackTraces = false) {N n p T : Nat} {A B : Nat → Nat} {ord : List Nat} {L : Nat → Nat → Nat} {Γ : Nat → Nat → Nat → Int32} {o : Int64} {h : am_H} (w : WI N n p ord L Γ o h) (hr : RI T n p A B ord Γ) (hT : T < 2 ^ 30) {i cc ss : Nat} (hi : i + 4 ≤ N) (hcc : cc + 8 ≤ 601024) (hss : ss + 800 ≤ 7293034) (next : ∀ (T' n' p' : Nat) (A' B' : Nat → Nat) (ord' : List Nat) (L' : Nat → Nat → Nat) (Γ' : Nat → Nat → Nat → Int32) (o' : Int64) (h' : am_H) (cc' ss' : Nat), T' ≤ T + 1 → WI N n' p' ord' L' Γ' o' h' → RI T' n' p' A' B' ord' Γ' → sm L L' → cc' ≤ cc + 8 → ss' ≤ ss + 800 → am_G k RL nm cL_law 7 ret cc' ss' Q 973 [(4, .int (nI i)), (3, .ref (L 14 0)), (2, .ref (L 11 0)), (1, .ref (L 5 0)), (0, .ref (L 15 0))] [] h') : am_G k RL nm cL_law 7 ret cc ss Q 184 [(4, .int (nI i)), (3, .ref (L 14 0)), (2, .ref (L 11 0)), (1, .ref (L 5 0)), (0, .ref (L 15 0))] [] h := by
  obtain ⟨K, mc, ms, M, hmc, hms, hw, hJ⟩ := J_pipe hlt w hr (Γ 15 0 (i + 1)) (Γ 15 0 (i + 2)) (Γ 15 0 (i + 3))
  refine g_aload_n dL_law_184 rfl ?_
  refine g_aload_n dL_law_185 rfl ?_
  refine g_iload dL_law_186 rfl ?_
  refine g_iconst (v := nI 1) dL_law_188 (by decide) ?_
  refine g_iadd dL_law_189 ?_
  rw [nI_add]
  refine w_sald w dL_law_190 (by omega) ?_
  refine g_aload_n dL_law_191 rfl ?_
  refine g_iload dL_law_192 rfl ?_
  refine g_iconst (v := nI 2) dL_law_194 (by decide) ?_
  refine g_iadd dL_law_195 ?_
  rw [nI_add]
  refine w_sald w dL_law_196 (by omega) ?_
  refine g_aload_n dL_law_197 rfl ?_
  refine g_iload dL_law_198 rfl ?_
  refine g_iconst (v := nI 3) dL_law_200 (by decide) ?_
  refine g_iadd dL_law_201 ?_
  rw [nI_add]
  refine w_sald w dL_law_202 (by omega) ?_
  refine g_aload_n dL_law_203 rfl ?_
  refine g_callSX [_, _, _, _, _] dL_law_204 mcw_pipe hw rfl (Nat.le_of_ble_eq_true rfl) (by rw [hR]; exact ⟨Nat.le_of_ble_eq_true rfl, Nat.le_of_ble_eq_true rfl, show cc + mc ≤ 601024 by omega, show ss + ms ≤ 7293034 by omega⟩) (fun _ _ z => z) (fun v1 h1 hq hE => ?_)
  obtain ⟨rfl, hM⟩ := hq
  obtain ⟨⟨n1, p1, ord1, L1, Γ1, o1, w1, s1, e1⟩, hm⟩ := hJ h1 hM
  rw [← s1.2.2.2]
  refine g_istore dL_law_207 (by decide) rfl ?_
  refine g_aload_n dL_law_209 rfl ?_
  refine g_aload_n dL_law_210 rfl ?_
  refine g_iload dL_law_211 rfl ?_
  refine g_iconst (v := nI 1) dL_law_213 (by decide) ?_
  refine g_iadd dL_law_214 ?_
  rw [nI_add]
  refine w_sald w1 dL_law_215 (by omega) ?_
  rw [e1]
  refine g_aload_n dL_law_216 rfl ?_
  refine g_iload dL_law_217 rfl ?_
  refine g_iconst (v := nI 2) dL_law_219 (by decide) ?_
  refine g_iadd dL_law_220 ?_
  rw [nI_add]
  refine w_sald w1 dL_law_221 (by omega) ?_
  rw [e1]
  refine g_aload_n dL_law_222 rfl ?_
  refine g_iload dL_law_223 rfl ?_
  refine g_iconst (v := nI 3) dL_law_225 (by decide) ?_
  refine g_iadd dL_law_226 ?_
  rw [nI_add]
  refine w_sald w1 dL_law_227 (by omega) ?_
  rw [e1]
  rw [s1.2.2.2]
  refine g_callV [_, _, _] dL_law_228 mc_L_79 mi_X5_pipe se_X5_pipe hm (by rw [← s1.2.1]; exact w1.k rfl) rfl rfl (Nat.le_of_ble_eq_true rfl) (by rw [hR]; exact ⟨Nat.le_of_ble_eq_true rfl, Nat.le_of_ble_eq_true rfl, show cc + mc + 0 ≤ 601024 by omega, show ss + ms + 0 ≤ 7293034 by omega⟩) (fun _ _ z => z) (fun v2 h2 hq hE2 => ?_)
  obtain ⟨b, rfl, T2, n2, p2, A2, B2, ord2, L2, Γ2, o2, hT2, w2, r2, s2, e2, e34, hP⟩ := hq
  refine g_istore dL_law_231 (by decide) rfl ?_
  refine g_aload_n dL_law_233 rfl ?_
  have ht := c_X5_thrown hlt w2
  rw [s2.2.1] at ht
  refine g_callV [] dL_law_234 mc_L_73 mi_X5_thrown se_X5_thrown ht (by rw [← s2.2.1]; exact w2.k rfl) rfl rfl (Nat.le_of_ble_eq_true rfl) (by rw [hR]; exact ⟨Nat.le_of_ble_eq_true rfl, Nat.le_of_ble_eq_true rfl, show cc + mc + 0 + 0 ≤ 601024 by omega, show ss + ms + 0 + 0 ≤ 7293034 by omega⟩) (fun _ _ z => z) (fun v3 h3 hq hE3 => ?_)
  obtain ⟨rfl, rfl⟩ := hq
  refine g_iload dL_law_237 rfl ?_
  refine g_icmp_eq 244 dL_law_239 (by decide) (fun _ => ?_) (fun z => absurd e34 z)
  refine g_iload dL_law_244 rfl ?_
  refine g_if_ne 261 dL_law_246 (by decide) (fun _ => ?_) (fun c0 => ?_)
  · refine g_goto 973 dL_law_261 (by decide) ?_
    refine g_ls [(4, .int (nI i)), (3, .ref (L 14 0)), (2, .ref (L 11 0)), (1, .ref (L 5 0)), (0, .ref (L 15 0))] ⟨rfl, rfl, rfl, rfl, rfl, trivial⟩ ?_
    exact next T2 n2 p2 A2 B2 ord2 L2 Γ2 o2 _ _ _ hT2 w2 r2 s2 (by omega) (by omega)
  · skip
    refine g_aload_n dL_law_249 rfl ?_
    refine g_iconst (v := nI 0) dL_law_250 (by decide) ?_
    rw [← s2.2.2.1]
    refine w_lald w2 dL_law_251 ?_
    rw [s2.2.2.1]
    refine g_iload dL_law_252 rfl ?_
    refine g_i2l dL_law_254 rfl ?_
    refine g_lcmp dL_law_255 ?_
    refine g_if_eq 261 dL_law_256 (by decide) (fun _ => ?_) (fun z => absurd (lcmp0 (hP c0)) z)
    refine g_goto 973 dL_law_261 (by decide) ?_
    refine g_ls [(4, .int (nI i)), (3, .ref (L 14 0)), (2, .ref (L 11 0)), (1, .ref (L 5 0)), (0, .ref (L 15 0))] ⟨rfl, rfl, rfl, rfl, rfl, trivial⟩ ?_
    exact next T2 n2 p2 A2 B2 ord2 L2 Γ2 o2 _ _ _ hT2 w2 r2 s2 (by omega) (by omega)
set_option maxRecDepth 100000 in
set_option maxHeartbeats 4000000 in
theorem law_c2 {k : am_X} {nm : String} {ret : Option FieldType} {Q : State → Prop} (hR : am_kR k = room_1) (hlt : (am_kl k).stackTraces = false) {N n p T : Nat} {A B : Nat → Nat} {ord : List Nat} {L : Nat → Nat → Nat} {Γ : Nat → Nat → Nat → Int32} {o : Int64} {h : am_H} (w : WI N n p ord L Γ o h) (hr : RI T n p A B ord Γ) (hT : T < 2 ^ 30) {i cc ss : Nat} (hi : i + 4 ≤ N) (hcc : cc + 8 ≤ 601024) (hss : ss + 800 ≤ 7293034) (next : ∀ (T' n' p' : Nat) (A' B' : Nat → Nat) (ord' : List Nat) (L' : Nat → Nat → Nat) (Γ' : Nat → Nat → Nat → Int32) (o' : Int64) (h' : am_H) (cc' ss' : Nat), T' ≤ T + 1 → WI N n' p' ord' L' Γ' o' h' → RI T' n' p' A' B' ord' Γ' → sm L L' → cc' ≤ cc + 8 → ss' ≤ ss + 800 → am_G k RL nm cL_law 7 ret cc' ss' Q 973 [(4, .int (nI i)), (3, .ref (L 14 0)), (2, .ref (L 11 0)), (1, .ref (L 5 0)), (0, .ref (L 15 0))] [] h') : am_G k RL nm cL_law 7 ret cc ss Q 264 [(4, .int (nI i)), (3, .ref (L 14 0)), (2, .ref (L 11 0)), (1, .ref (L 5 0)), (0, .ref (L 15 0))] [] h := by
  obtain ⟨K, mc, ms, M, hmc, hms, hw, hJ⟩ := J_source hlt w hr (Γ 15 0 (i + 1))
  refine g_aload_n dL_law_264 rfl ?_
  refine g_aload_n dL_law_265 rfl ?_
  refine g_iload dL_law_266 rfl ?_
  refine g_iconst (v := nI 1) dL_law_268 (by decide) ?_
  refine g_iadd dL_law_269 ?_
  rw [nI_add]
  refine w_sald w dL_law_270 (by omega) ?_
  refine g_aload_n dL_law_271 rfl ?_
  refine g_callSX [_, _, _] dL_law_272 mcw_source hw rfl (Nat.le_of_ble_eq_true rfl) (by rw [hR]; exact ⟨Nat.le_of_ble_eq_true rfl, Nat.le_of_ble_eq_true rfl, show cc + mc ≤ 601024 by omega, show ss + ms ≤ 7293034 by omega⟩) (fun _ _ z => z) (fun v1 h1 hq hE => ?_)
  obtain ⟨rfl, hM⟩ := hq
  obtain ⟨⟨n1, p1, ord1, L1, Γ1, o1, w1, s1, e1⟩, hm⟩ := hJ h1 hM
  rw [← s1.2.2.2]
  refine g_istore dL_law_275 (by decide) rfl ?_
  refine g_aload_n dL_law_277 rfl ?_
  refine g_aload_n dL_law_278 rfl ?_
  refine g_iload dL_law_279 rfl ?_
  refine g_iconst (v := nI 1) dL_law_281 (by decide) ?_
  refine g_iadd dL_law_282 ?_
  rw [nI_add]
  refine w_sald w1 dL_law_283 (by omega) ?_
  rw [e1]
  rw [s1.2.2.2]
  refine g_callV [_] dL_law_284 mc_L_83 mi_X5_source se_X5_source hm (by rw [← s1.2.1]; exact w1.k rfl) rfl rfl (Nat.le_of_ble_eq_true rfl) (by rw [hR]; exact ⟨Nat.le_of_ble_eq_true rfl, Nat.le_of_ble_eq_true rfl, show cc + mc + 0 ≤ 601024 by omega, show ss + ms + 0 ≤ 7293034 by omega⟩) (fun _ _ z => z) (fun v2 h2 hq hE2 => ?_)
  obtain ⟨b, rfl, T2, n2, p2, A2, B2, ord2, L2, Γ2, o2, hT2, w2, r2, s2, e2, e34, hP⟩ := hq
  refine g_istore dL_law_287 (by decide) rfl ?_
  refine g_aload_n dL_law_289 rfl ?_
  have ht := c_X5_thrown hlt w2
  rw [s2.2.1] at ht
  refine g_callV [] dL_law_290 mc_L_73 mi_X5_thrown se_X5_thrown ht (by rw [← s2.2.1]; exact w2.k rfl) rfl rfl (Nat.le_of_ble_eq_true rfl) (by rw [hR]; exact ⟨Nat.le_of_ble_eq_true rfl, Nat.le_of_ble_eq_true rfl, show cc + mc + 0 + 0 ≤ 601024 by omega, show ss + ms + 0 + 0 ≤ 7293034 by omega⟩) (fun _ _ z => z) (fun v3 h3 hq hE3 => ?_)
  obtain ⟨rfl, rfl⟩ := hq
  refine g_iload dL_law_293 rfl ?_
  refine g_icmp_eq 300 dL_law_295 (by decide) (fun _ => ?_) (fun z => absurd e34 z)
  refine g_iload dL_law_300 rfl ?_
  refine g_if_ne 317 dL_law_302 (by decide) (fun _ => ?_) (fun c0 => ?_)
  · refine g_goto 973 dL_law_317 (by decide) ?_
    refine g_ls [(4, .int (nI i)), (3, .ref (L 14 0)), (2, .ref (L 11 0)), (1, .ref (L 5 0)), (0, .ref (L 15 0))] ⟨rfl, rfl, rfl, rfl, rfl, trivial⟩ ?_
    exact next T2 n2 p2 A2 B2 ord2 L2 Γ2 o2 _ _ _ hT2 w2 r2 s2 (by omega) (by omega)
  · skip
    refine g_aload_n dL_law_305 rfl ?_
    refine g_iconst (v := nI 0) dL_law_306 (by decide) ?_
    rw [← s2.2.2.1]
    refine w_lald w2 dL_law_307 ?_
    rw [s2.2.2.1]
    refine g_iload dL_law_308 rfl ?_
    refine g_i2l dL_law_310 rfl ?_
    refine g_lcmp dL_law_311 ?_
    refine g_if_eq 317 dL_law_312 (by decide) (fun _ => ?_) (fun z => absurd (lcmp0 (hP c0)) z)
    refine g_goto 973 dL_law_317 (by decide) ?_
    refine g_ls [(4, .int (nI i)), (3, .ref (L 14 0)), (2, .ref (L 11 0)), (1, .ref (L 5 0)), (0, .ref (L 15 0))] ⟨rfl, rfl, rfl, rfl, rfl, trivial⟩ ?_
    exact next T2 n2 p2 A2 B2 ord2 L2 Γ2 o2 _ _ _ hT2 w2 r2 s2 (by omega) (by omega)
set_option maxRecDepth 100000 in
set_option maxHeartbeats 4000000 in
theorem law_c3 {k : am_X} {nm : String} {ret : Option FieldType} {Q : State → Prop} (hR : am_kR k = room_1) (hlt : (am_kl k).stackTraces = false) {N n p T : Nat} {A B : Nat → Nat} {ord : List Nat} {L : Nat → Nat → Nat} {Γ : Nat → Nat → Nat → Int32} {o : Int64} {h : am_H} (w : WI N n p ord L Γ o h) (hr : RI T n p A B ord Γ) (hT : T < 2 ^ 30) {i cc ss : Nat} (hi : i + 4 ≤ N) (hcc : cc + 8 ≤ 601024) (hss : ss + 800 ≤ 7293034) (next : ∀ (T' n' p' : Nat) (A' B' : Nat → Nat) (ord' : List Nat) (L' : Nat → Nat → Nat) (Γ' : Nat → Nat → Nat → Int32) (o' : Int64) (h' : am_H) (cc' ss' : Nat), T' ≤ T + 1 → WI N n' p' ord' L' Γ' o' h' → RI T' n' p' A' B' ord' Γ' → sm L L' → cc' ≤ cc + 8 → ss' ≤ ss + 800 → am_G k RL nm cL_law 7 ret cc' ss' Q 973 [(4, .int (nI i)), (3, .ref (L 14 0)), (2, .ref (L 11 0)), (1, .ref (L 5 0)), (0, .ref (L 15 0))] [] h') : am_G k RL nm cL_law 7 ret cc ss Q 320 [(4, .int (nI i)), (3, .ref (L 14 0)), (2, .ref (L 11 0)), (1, .ref (L 5 0)), (0, .ref (L 15 0))] [] h := by
  obtain ⟨K, mc, ms, M, hmc, hms, hw, hJ⟩ := J_need hlt w hr (Γ 15 0 (i + 1)) (Γ 15 0 (i + 2))
  refine g_aload_n dL_law_320 rfl ?_
  refine g_aload_n dL_law_321 rfl ?_
  refine g_iload dL_law_322 rfl ?_
  refine g_iconst (v := nI 1) dL_law_324 (by decide) ?_
  refine g_iadd dL_law_325 ?_
  rw [nI_add]
  refine w_sald w dL_law_326 (by omega) ?_
  refine g_aload_n dL_law_327 rfl ?_
  refine g_iload dL_law_328 rfl ?_
  refine g_iconst (v := nI 2) dL_law_330 (by decide) ?_
  refine g_iadd dL_law_331 ?_
  rw [nI_add]
  refine w_sald w dL_law_332 (by omega) ?_
  refine g_aload_n dL_law_333 rfl ?_
  refine g_callSX [_, _, _, _] dL_law_334 mcw_need hw rfl (Nat.le_of_ble_eq_true rfl) (by rw [hR]; exact ⟨Nat.le_of_ble_eq_true rfl, Nat.le_of_ble_eq_true rfl, show cc + mc ≤ 601024 by omega, show ss + ms ≤ 7293034 by omega⟩) (fun _ _ z => z) (fun v1 h1 hq hE => ?_)
  obtain ⟨rfl, hM⟩ := hq
  obtain ⟨⟨n1, p1, ord1, L1, Γ1, o1, w1, s1, e1⟩, hm⟩ := hJ h1 hM
  rw [← s1.2.2.2]
  refine g_istore dL_law_337 (by decide) rfl ?_
  refine g_aload_n dL_law_339 rfl ?_
  refine g_aload_n dL_law_340 rfl ?_
  refine g_iload dL_law_341 rfl ?_
  refine g_iconst (v := nI 1) dL_law_343 (by decide) ?_
  refine g_iadd dL_law_344 ?_
  rw [nI_add]
  refine w_sald w1 dL_law_345 (by omega) ?_
  rw [e1]
  refine g_aload_n dL_law_346 rfl ?_
  refine g_iload dL_law_347 rfl ?_
  refine g_iconst (v := nI 2) dL_law_349 (by decide) ?_
  refine g_iadd dL_law_350 ?_
  rw [nI_add]
  refine w_sald w1 dL_law_351 (by omega) ?_
  rw [e1]
  rw [s1.2.2.2]
  refine g_callV [_, _] dL_law_352 mc_L_86 mi_X5_need se_X5_need hm (by rw [← s1.2.1]; exact w1.k rfl) rfl rfl (Nat.le_of_ble_eq_true rfl) (by rw [hR]; exact ⟨Nat.le_of_ble_eq_true rfl, Nat.le_of_ble_eq_true rfl, show cc + mc + 0 ≤ 601024 by omega, show ss + ms + 0 ≤ 7293034 by omega⟩) (fun _ _ z => z) (fun v2 h2 hq hE2 => ?_)
  obtain ⟨b, rfl, T2, n2, p2, A2, B2, ord2, L2, Γ2, o2, hT2, w2, r2, s2, e2, e34, hP⟩ := hq
  refine g_istore dL_law_355 (by decide) rfl ?_
  refine g_aload_n dL_law_357 rfl ?_
  have ht := c_X5_thrown hlt w2
  rw [s2.2.1] at ht
  refine g_callV [] dL_law_358 mc_L_73 mi_X5_thrown se_X5_thrown ht (by rw [← s2.2.1]; exact w2.k rfl) rfl rfl (Nat.le_of_ble_eq_true rfl) (by rw [hR]; exact ⟨Nat.le_of_ble_eq_true rfl, Nat.le_of_ble_eq_true rfl, show cc + mc + 0 + 0 ≤ 601024 by omega, show ss + ms + 0 + 0 ≤ 7293034 by omega⟩) (fun _ _ z => z) (fun v3 h3 hq hE3 => ?_)
  obtain ⟨rfl, rfl⟩ := hq
  refine g_iload dL_law_361 rfl ?_
  refine g_icmp_eq 368 dL_law_363 (by decide) (fun _ => ?_) (fun z => absurd e34 z)
  refine g_iload dL_law_368 rfl ?_
  refine g_if_ne 385 dL_law_370 (by decide) (fun _ => ?_) (fun c0 => ?_)
  · refine g_goto 973 dL_law_385 (by decide) ?_
    refine g_ls [(4, .int (nI i)), (3, .ref (L 14 0)), (2, .ref (L 11 0)), (1, .ref (L 5 0)), (0, .ref (L 15 0))] ⟨rfl, rfl, rfl, rfl, rfl, trivial⟩ ?_
    exact next T2 n2 p2 A2 B2 ord2 L2 Γ2 o2 _ _ _ hT2 w2 r2 s2 (by omega) (by omega)
  · skip
    refine g_aload_n dL_law_373 rfl ?_
    refine g_iconst (v := nI 0) dL_law_374 (by decide) ?_
    rw [← s2.2.2.1]
    refine w_lald w2 dL_law_375 ?_
    rw [s2.2.2.1]
    refine g_iload dL_law_376 rfl ?_
    refine g_i2l dL_law_378 rfl ?_
    refine g_lcmp dL_law_379 ?_
    refine g_if_eq 385 dL_law_380 (by decide) (fun _ => ?_) (fun z => absurd (lcmp0 (hP c0)) z)
    refine g_goto 973 dL_law_385 (by decide) ?_
    refine g_ls [(4, .int (nI i)), (3, .ref (L 14 0)), (2, .ref (L 11 0)), (1, .ref (L 5 0)), (0, .ref (L 15 0))] ⟨rfl, rfl, rfl, rfl, rfl, trivial⟩ ?_
    exact next T2 n2 p2 A2 B2 ord2 L2 Γ2 o2 _ _ _ hT2 w2 r2 s2 (by omega) (by omega)
set_option maxRecDepth 100000 in
set_option maxHeartbeats 4000000 in
theorem law_c4 {k : am_X} {nm : String} {ret : Option FieldType} {Q : State → Prop} (hR : am_kR k = room_1) (hlt : (am_kl k).stackTraces = false) {N n p T : Nat} {A B : Nat → Nat} {ord : List Nat} {L : Nat → Nat → Nat} {Γ : Nat → Nat → Nat → Int32} {o : Int64} {h : am_H} (w : WI N n p ord L Γ o h) (hr : RI T n p A B ord Γ) (hT : T < 2 ^ 30) {i cc ss : Nat} (hi : i + 4 ≤ N) (hcc : cc + 8 ≤ 601024) (hss : ss + 800 ≤ 7293034) (next : ∀ (T' n' p' : Nat) (A' B' : Nat → Nat) (ord' : List Nat) (L' : Nat → Nat → Nat) (Γ' : Nat → Nat → Nat → Int32) (o' : Int64) (h' : am_H) (cc' ss' : Nat), T' ≤ T + 1 → WI N n' p' ord' L' Γ' o' h' → RI T' n' p' A' B' ord' Γ' → sm L L' → cc' ≤ cc + 8 → ss' ≤ ss + 800 → am_G k RL nm cL_law 7 ret cc' ss' Q 973 [(4, .int (nI i)), (3, .ref (L 14 0)), (2, .ref (L 11 0)), (1, .ref (L 5 0)), (0, .ref (L 15 0))] [] h') : am_G k RL nm cL_law 7 ret cc ss Q 388 [(4, .int (nI i)), (3, .ref (L 14 0)), (2, .ref (L 11 0)), (1, .ref (L 5 0)), (0, .ref (L 15 0))] [] h := by
  obtain ⟨K, mc, ms, M, hmc, hms, hw, hJ⟩ := J_bid hlt w hr hT (Γ 15 0 (i + 1)) (Γ 15 0 (i + 2)) (Γ 15 0 (i + 3))
  refine g_aload_n dL_law_388 rfl ?_
  refine g_aload_n dL_law_389 rfl ?_
  refine g_iload dL_law_390 rfl ?_
  refine g_iconst (v := nI 1) dL_law_392 (by decide) ?_
  refine g_iadd dL_law_393 ?_
  rw [nI_add]
  refine w_sald w dL_law_394 (by omega) ?_
  refine g_aload_n dL_law_395 rfl ?_
  refine g_iload dL_law_396 rfl ?_
  refine g_iconst (v := nI 2) dL_law_398 (by decide) ?_
  refine g_iadd dL_law_399 ?_
  rw [nI_add]
  refine w_sald w dL_law_400 (by omega) ?_
  refine g_aload_n dL_law_401 rfl ?_
  refine g_iload dL_law_402 rfl ?_
  refine g_iconst (v := nI 3) dL_law_404 (by decide) ?_
  refine g_iadd dL_law_405 ?_
  rw [nI_add]
  refine w_sald w dL_law_406 (by omega) ?_
  refine g_aload_n dL_law_407 rfl ?_
  refine g_callSX [_, _, _, _, _] dL_law_408 mcw_bid hw rfl (Nat.le_of_ble_eq_true rfl) (by rw [hR]; exact ⟨Nat.le_of_ble_eq_true rfl, Nat.le_of_ble_eq_true rfl, show cc + mc ≤ 601024 by omega, show ss + ms ≤ 7293034 by omega⟩) (fun _ _ z => z) (fun v1 h1 hq hE => ?_)
  obtain ⟨rfl, hM⟩ := hq
  obtain ⟨⟨n1, p1, ord1, L1, Γ1, o1, w1, s1, e1⟩, hm⟩ := hJ h1 hM
  rw [← s1.2.2.2]
  refine g_istore dL_law_411 (by decide) rfl ?_
  refine g_aload_n dL_law_413 rfl ?_
  refine g_aload_n dL_law_414 rfl ?_
  refine g_iload dL_law_415 rfl ?_
  refine g_iconst (v := nI 1) dL_law_417 (by decide) ?_
  refine g_iadd dL_law_418 ?_
  rw [nI_add]
  refine w_sald w1 dL_law_419 (by omega) ?_
  rw [e1]
  refine g_aload_n dL_law_420 rfl ?_
  refine g_iload dL_law_421 rfl ?_
  refine g_iconst (v := nI 2) dL_law_423 (by decide) ?_
  refine g_iadd dL_law_424 ?_
  rw [nI_add]
  refine w_sald w1 dL_law_425 (by omega) ?_
  rw [e1]
  refine g_aload_n dL_law_426 rfl ?_
  refine g_iload dL_law_427 rfl ?_
  refine g_iconst (v := nI 3) dL_law_429 (by decide) ?_
  refine g_iadd dL_law_430 ?_
  rw [nI_add]
  refine w_sald w1 dL_law_431 (by omega) ?_
  rw [e1]
  rw [s1.2.2.2]
  refine g_callV [_, _, _] dL_law_432 mc_L_89 mi_X5_bid se_X5_bid hm (by rw [← s1.2.1]; exact w1.k rfl) rfl rfl (Nat.le_of_ble_eq_true rfl) (by rw [hR]; exact ⟨Nat.le_of_ble_eq_true rfl, Nat.le_of_ble_eq_true rfl, show cc + mc + 0 ≤ 601024 by omega, show ss + ms + 0 ≤ 7293034 by omega⟩) (fun _ _ z => z) (fun v2 h2 hq hE2 => ?_)
  obtain ⟨b, rfl, T2, n2, p2, A2, B2, ord2, L2, Γ2, o2, hT2, w2, r2, s2, e2, e34, hP⟩ := hq
  refine g_istore dL_law_435 (by decide) rfl ?_
  refine g_aload_n dL_law_437 rfl ?_
  have ht := c_X5_thrown hlt w2
  rw [s2.2.1] at ht
  refine g_callV [] dL_law_438 mc_L_73 mi_X5_thrown se_X5_thrown ht (by rw [← s2.2.1]; exact w2.k rfl) rfl rfl (Nat.le_of_ble_eq_true rfl) (by rw [hR]; exact ⟨Nat.le_of_ble_eq_true rfl, Nat.le_of_ble_eq_true rfl, show cc + mc + 0 + 0 ≤ 601024 by omega, show ss + ms + 0 + 0 ≤ 7293034 by omega⟩) (fun _ _ z => z) (fun v3 h3 hq hE3 => ?_)
  obtain ⟨rfl, rfl⟩ := hq
  refine g_iload dL_law_441 rfl ?_
  refine g_icmp_eq 448 dL_law_443 (by decide) (fun _ => ?_) (fun z => absurd e34 z)
  refine g_iload dL_law_448 rfl ?_
  refine g_if_ne 465 dL_law_450 (by decide) (fun _ => ?_) (fun c0 => ?_)
  · refine g_goto 973 dL_law_465 (by decide) ?_
    refine g_ls [(4, .int (nI i)), (3, .ref (L 14 0)), (2, .ref (L 11 0)), (1, .ref (L 5 0)), (0, .ref (L 15 0))] ⟨rfl, rfl, rfl, rfl, rfl, trivial⟩ ?_
    exact next T2 n2 p2 A2 B2 ord2 L2 Γ2 o2 _ _ _ hT2 w2 r2 s2 (by omega) (by omega)
  · skip
    refine g_aload_n dL_law_453 rfl ?_
    refine g_iconst (v := nI 0) dL_law_454 (by decide) ?_
    rw [← s2.2.2.1]
    refine w_lald w2 dL_law_455 ?_
    rw [s2.2.2.1]
    refine g_iload dL_law_456 rfl ?_
    refine g_i2l dL_law_458 rfl ?_
    refine g_lcmp dL_law_459 ?_
    refine g_if_eq 465 dL_law_460 (by decide) (fun _ => ?_) (fun z => absurd (lcmp0 (hP c0)) z)
    refine g_goto 973 dL_law_465 (by decide) ?_
    refine g_ls [(4, .int (nI i)), (3, .ref (L 14 0)), (2, .ref (L 11 0)), (1, .ref (L 5 0)), (0, .ref (L 15 0))] ⟨rfl, rfl, rfl, rfl, rfl, trivial⟩ ?_
    exact next T2 n2 p2 A2 B2 ord2 L2 Γ2 o2 _ _ _ hT2 w2 r2 s2 (by omega) (by omega)
set_option maxRecDepth 100000 in
set_option maxHeartbeats 4000000 in
theorem law_c5 {k : am_X} {nm : String} {ret : Option FieldType} {Q : State → Prop} (hR : am_kR k = room_1) (hlt : (am_kl k).stackTraces = false) {N n p T : Nat} {A B : Nat → Nat} {ord : List Nat} {L : Nat → Nat → Nat} {Γ : Nat → Nat → Nat → Int32} {o : Int64} {h : am_H} (w : WI N n p ord L Γ o h) (hr : RI T n p A B ord Γ) (hT : T < 2 ^ 30) {i cc ss : Nat} (hi : i + 4 ≤ N) (hcc : cc + 8 ≤ 601024) (hss : ss + 800 ≤ 7293034) (next : ∀ (T' n' p' : Nat) (A' B' : Nat → Nat) (ord' : List Nat) (L' : Nat → Nat → Nat) (Γ' : Nat → Nat → Nat → Int32) (o' : Int64) (h' : am_H) (cc' ss' : Nat), T' ≤ T + 1 → WI N n' p' ord' L' Γ' o' h' → RI T' n' p' A' B' ord' Γ' → sm L L' → cc' ≤ cc + 8 → ss' ≤ ss + 800 → am_G k RL nm cL_law 7 ret cc' ss' Q 973 [(4, .int (nI i)), (3, .ref (L 14 0)), (2, .ref (L 11 0)), (1, .ref (L 5 0)), (0, .ref (L 15 0))] [] h') : am_G k RL nm cL_law 7 ret cc ss Q 468 [(4, .int (nI i)), (3, .ref (L 14 0)), (2, .ref (L 11 0)), (1, .ref (L 5 0)), (0, .ref (L 15 0))] [] h := by
  obtain ⟨K, mc, ms, M, hmc, hms, hw, hJ⟩ := J_close hlt w hr 
  refine g_aload_n dL_law_468 rfl ?_
  refine g_aload_n dL_law_469 rfl ?_
  refine g_callSX [_, _] dL_law_470 mcw_close hw rfl (Nat.le_of_ble_eq_true rfl) (by rw [hR]; exact ⟨Nat.le_of_ble_eq_true rfl, Nat.le_of_ble_eq_true rfl, show cc + mc ≤ 601024 by omega, show ss + ms ≤ 7293034 by omega⟩) (fun _ _ z => z) (fun v1 h1 hq hE => ?_)
  obtain ⟨rfl, hM⟩ := hq
  obtain ⟨⟨n1, p1, ord1, L1, Γ1, o1, w1, s1, e1⟩, hm⟩ := hJ h1 hM
  rw [← s1.2.2.2]
  refine g_istore dL_law_473 (by decide) rfl ?_
  refine g_aload_n dL_law_475 rfl ?_
  rw [s1.2.2.2]
  refine g_callV [] dL_law_476 mc_L_93 mi_X5_close se_X5_close hm (by rw [← s1.2.1]; exact w1.k rfl) rfl rfl (Nat.le_of_ble_eq_true rfl) (by rw [hR]; exact ⟨Nat.le_of_ble_eq_true rfl, Nat.le_of_ble_eq_true rfl, show cc + mc + 0 ≤ 601024 by omega, show ss + ms + 0 ≤ 7293034 by omega⟩) (fun _ _ z => z) (fun v2 h2 hq hE2 => ?_)
  obtain ⟨b, rfl, T2, n2, p2, A2, B2, ord2, L2, Γ2, o2, hT2, w2, r2, s2, e2, e34, hP⟩ := hq
  refine g_istore dL_law_479 (by decide) rfl ?_
  refine g_aload_n dL_law_481 rfl ?_
  have ht := c_X5_thrown hlt w2
  rw [s2.2.1] at ht
  refine g_callV [] dL_law_482 mc_L_73 mi_X5_thrown se_X5_thrown ht (by rw [← s2.2.1]; exact w2.k rfl) rfl rfl (Nat.le_of_ble_eq_true rfl) (by rw [hR]; exact ⟨Nat.le_of_ble_eq_true rfl, Nat.le_of_ble_eq_true rfl, show cc + mc + 0 + 0 ≤ 601024 by omega, show ss + ms + 0 + 0 ≤ 7293034 by omega⟩) (fun _ _ z => z) (fun v3 h3 hq hE3 => ?_)
  obtain ⟨rfl, rfl⟩ := hq
  refine g_iload dL_law_485 rfl ?_
  refine g_icmp_eq 492 dL_law_487 (by decide) (fun _ => ?_) (fun z => absurd e34 z)
  refine g_iload dL_law_492 rfl ?_
  refine g_if_ne 516 dL_law_494 (by decide) (fun _ => ?_) (fun c0 => ?_)
  · refine g_goto 973 dL_law_516 (by decide) ?_
    refine g_ls [(4, .int (nI i)), (3, .ref (L 14 0)), (2, .ref (L 11 0)), (1, .ref (L 5 0)), (0, .ref (L 15 0))] ⟨rfl, rfl, rfl, rfl, rfl, trivial⟩ ?_
    exact next T2 n2 p2 A2 B2 ord2 L2 Γ2 o2 _ _ _ hT2 w2 r2 s2 (by omega) (by omega)
  · skip
    refine g_aload_n dL_law_497 rfl ?_
    refine g_iconst (v := nI 0) dL_law_498 (by decide) ?_
    rw [← s2.2.2.1]
    refine w_lald w2 dL_law_499 ?_
    rw [s2.2.2.1]
    refine g_iload dL_law_500 rfl ?_
    refine g_if_eq 509 dL_law_502 (by decide) (fun b0 => ?_) (fun b0 => ?_)
    · refine g_lconst dL_law_509 rfl ?_
      refine g_lcmp dL_law_510 ?_
      refine g_if_eq 516 dL_law_511 (by decide) (fun _ => ?_) (fun z => absurd (lcmp0 (by rw [hP.2 c0, b0]; rfl)) z)
      refine g_goto 973 dL_law_516 (by decide) ?_
      refine g_ls [(4, .int (nI i)), (3, .ref (L 14 0)), (2, .ref (L 11 0)), (1, .ref (L 5 0)), (0, .ref (L 15 0))] ⟨rfl, rfl, rfl, rfl, rfl, trivial⟩ ?_
      exact next T2 n2 p2 A2 B2 ord2 L2 Γ2 o2 _ _ _ hT2 w2 r2 s2 (by omega) (by omega)
    · refine g_lconst dL_law_505 rfl ?_
      refine g_goto 510 dL_law_506 (by decide) ?_
      refine g_lcmp dL_law_510 ?_
      refine g_if_eq 516 dL_law_511 (by decide) (fun _ => ?_) (fun z => absurd (lcmp0 (by rw [hP.2 c0, hP.1.resolve_left b0]; rfl)) z)
      refine g_goto 973 dL_law_516 (by decide) ?_
      refine g_ls [(4, .int (nI i)), (3, .ref (L 14 0)), (2, .ref (L 11 0)), (1, .ref (L 5 0)), (0, .ref (L 15 0))] ⟨rfl, rfl, rfl, rfl, rfl, trivial⟩ ?_
      exact next T2 n2 p2 A2 B2 ord2 L2 Γ2 o2 _ _ _ hT2 w2 r2 s2 (by omega) (by omega)
set_option maxRecDepth 100000 in
set_option maxHeartbeats 4000000 in
theorem law_c6 {k : am_X} {nm : String} {ret : Option FieldType} {Q : State → Prop} (hR : am_kR k = room_1) (hlt : (am_kl k).stackTraces = false) {N n p T : Nat} {A B : Nat → Nat} {ord : List Nat} {L : Nat → Nat → Nat} {Γ : Nat → Nat → Nat → Int32} {o : Int64} {h : am_H} (w : WI N n p ord L Γ o h) (hr : RI T n p A B ord Γ) (hT : T < 2 ^ 30) {i cc ss : Nat} (hi : i + 4 ≤ N) (hcc : cc + 8 ≤ 601024) (hss : ss + 800 ≤ 7293034) (next : ∀ (T' n' p' : Nat) (A' B' : Nat → Nat) (ord' : List Nat) (L' : Nat → Nat → Nat) (Γ' : Nat → Nat → Nat → Int32) (o' : Int64) (h' : am_H) (cc' ss' : Nat), T' ≤ T + 1 → WI N n' p' ord' L' Γ' o' h' → RI T' n' p' A' B' ord' Γ' → sm L L' → cc' ≤ cc + 8 → ss' ≤ ss + 800 → am_G k RL nm cL_law 7 ret cc' ss' Q 973 [(4, .int (nI i)), (3, .ref (L 14 0)), (2, .ref (L 11 0)), (1, .ref (L 5 0)), (0, .ref (L 15 0))] [] h') : am_G k RL nm cL_law 7 ret cc ss Q 519 [(4, .int (nI i)), (3, .ref (L 14 0)), (2, .ref (L 11 0)), (1, .ref (L 5 0)), (0, .ref (L 15 0))] [] h := by
  obtain ⟨K, mc, ms, M, hmc, hms, hw, hJ⟩ := J_burst hlt w hr (Γ 15 0 (i + 1))
  refine g_aload_n dL_law_519 rfl ?_
  refine g_aload_n dL_law_520 rfl ?_
  refine g_iload dL_law_521 rfl ?_
  refine g_iconst (v := nI 1) dL_law_523 (by decide) ?_
  refine g_iadd dL_law_524 ?_
  rw [nI_add]
  refine w_sald w dL_law_525 (by omega) ?_
  refine g_aload_n dL_law_526 rfl ?_
  refine g_callSX [_, _, _] dL_law_527 mcw_burst hw rfl (Nat.le_of_ble_eq_true rfl) (by rw [hR]; exact ⟨Nat.le_of_ble_eq_true rfl, Nat.le_of_ble_eq_true rfl, show cc + mc ≤ 601024 by omega, show ss + ms ≤ 7293034 by omega⟩) (fun _ _ z => z) (fun v1 h1 hq hE => ?_)
  obtain ⟨rfl, hM⟩ := hq
  obtain ⟨⟨n1, p1, ord1, L1, Γ1, o1, w1, s1, e1⟩, hm⟩ := hJ h1 hM
  rw [← s1.2.2.2]
  refine g_istore dL_law_530 (by decide) rfl ?_
  refine g_aload_n dL_law_532 rfl ?_
  refine g_aload_n dL_law_533 rfl ?_
  refine g_iload dL_law_534 rfl ?_
  refine g_iconst (v := nI 1) dL_law_536 (by decide) ?_
  refine g_iadd dL_law_537 ?_
  rw [nI_add]
  refine w_sald w1 dL_law_538 (by omega) ?_
  rw [e1]
  rw [s1.2.2.2]
  refine g_callV [_] dL_law_539 mc_L_96 mi_X5_burst se_X5_burst hm (by rw [← s1.2.1]; exact w1.k rfl) rfl rfl (Nat.le_of_ble_eq_true rfl) (by rw [hR]; exact ⟨Nat.le_of_ble_eq_true rfl, Nat.le_of_ble_eq_true rfl, show cc + mc + 0 ≤ 601024 by omega, show ss + ms + 0 ≤ 7293034 by omega⟩) (fun _ _ z => z) (fun v2 h2 hq hE2 => ?_)
  obtain ⟨b, rfl, T2, n2, p2, A2, B2, ord2, L2, Γ2, o2, hT2, w2, r2, s2, e2, e34, hP⟩ := hq
  refine g_istore dL_law_542 (by decide) rfl ?_
  refine g_aload_n dL_law_544 rfl ?_
  have ht := c_X5_thrown hlt w2
  rw [s2.2.1] at ht
  refine g_callV [] dL_law_545 mc_L_73 mi_X5_thrown se_X5_thrown ht (by rw [← s2.2.1]; exact w2.k rfl) rfl rfl (Nat.le_of_ble_eq_true rfl) (by rw [hR]; exact ⟨Nat.le_of_ble_eq_true rfl, Nat.le_of_ble_eq_true rfl, show cc + mc + 0 + 0 ≤ 601024 by omega, show ss + ms + 0 + 0 ≤ 7293034 by omega⟩) (fun _ _ z => z) (fun v3 h3 hq hE3 => ?_)
  obtain ⟨rfl, rfl⟩ := hq
  refine g_iload dL_law_548 rfl ?_
  refine g_icmp_eq 555 dL_law_550 (by decide) (fun _ => ?_) (fun z => absurd e34 z)
  refine g_iload dL_law_555 rfl ?_
  refine g_if_ne 572 dL_law_557 (by decide) (fun _ => ?_) (fun c0 => ?_)
  · refine g_goto 973 dL_law_572 (by decide) ?_
    refine g_ls [(4, .int (nI i)), (3, .ref (L 14 0)), (2, .ref (L 11 0)), (1, .ref (L 5 0)), (0, .ref (L 15 0))] ⟨rfl, rfl, rfl, rfl, rfl, trivial⟩ ?_
    exact next T2 n2 p2 A2 B2 ord2 L2 Γ2 o2 _ _ _ hT2 w2 r2 s2 (by omega) (by omega)
  · skip
    refine g_aload_n dL_law_560 rfl ?_
    refine g_iconst (v := nI 0) dL_law_561 (by decide) ?_
    rw [← s2.2.2.1]
    refine w_lald w2 dL_law_562 ?_
    rw [s2.2.2.1]
    refine g_iload dL_law_563 rfl ?_
    refine g_i2l dL_law_565 rfl ?_
    refine g_lcmp dL_law_566 ?_
    refine g_if_eq 572 dL_law_567 (by decide) (fun _ => ?_) (fun z => absurd (lcmp0 (hP c0)) z)
    refine g_goto 973 dL_law_572 (by decide) ?_
    refine g_ls [(4, .int (nI i)), (3, .ref (L 14 0)), (2, .ref (L 11 0)), (1, .ref (L 5 0)), (0, .ref (L 15 0))] ⟨rfl, rfl, rfl, rfl, rfl, trivial⟩ ?_
    exact next T2 n2 p2 A2 B2 ord2 L2 Γ2 o2 _ _ _ hT2 w2 r2 s2 (by omega) (by omega)
set_option maxRecDepth 100000 in
set_option maxHeartbeats 4000000 in
theorem law_c7 {k : am_X} {nm : String} {ret : Option FieldType} {Q : State → Prop} (hR : am_kR k = room_1) (hlt : (am_kl k).stackTraces = false) {N n p T : Nat} {A B : Nat → Nat} {ord : List Nat} {L : Nat → Nat → Nat} {Γ : Nat → Nat → Nat → Int32} {o : Int64} {h : am_H} (w : WI N n p ord L Γ o h) (hr : RI T n p A B ord Γ) (hT : T < 2 ^ 30) {i cc ss : Nat} (hi : i + 4 ≤ N) (hcc : cc + 8 ≤ 601024) (hss : ss + 800 ≤ 7293034) (next : ∀ (T' n' p' : Nat) (A' B' : Nat → Nat) (ord' : List Nat) (L' : Nat → Nat → Nat) (Γ' : Nat → Nat → Nat → Int32) (o' : Int64) (h' : am_H) (cc' ss' : Nat), T' ≤ T + 1 → WI N n' p' ord' L' Γ' o' h' → RI T' n' p' A' B' ord' Γ' → sm L L' → cc' ≤ cc + 8 → ss' ≤ ss + 800 → am_G k RL nm cL_law 7 ret cc' ss' Q 973 [(4, .int (nI i)), (3, .ref (L 14 0)), (2, .ref (L 11 0)), (1, .ref (L 5 0)), (0, .ref (L 15 0))] [] h') : am_G k RL nm cL_law 7 ret cc ss Q 575 [(4, .int (nI i)), (3, .ref (L 14 0)), (2, .ref (L 11 0)), (1, .ref (L 5 0)), (0, .ref (L 15 0))] [] h := by
  obtain ⟨K, mc, ms, M, hmc, hms, hw, hJ⟩ := J_repair hlt w hr (Γ 15 0 (i + 1))
  refine g_aload_n dL_law_575 rfl ?_
  refine g_aload_n dL_law_576 rfl ?_
  refine g_iload dL_law_577 rfl ?_
  refine g_iconst (v := nI 1) dL_law_579 (by decide) ?_
  refine g_iadd dL_law_580 ?_
  rw [nI_add]
  refine w_sald w dL_law_581 (by omega) ?_
  refine g_callSX [_, _] dL_law_582 mcw_repair hw rfl (Nat.le_of_ble_eq_true rfl) (by rw [hR]; exact ⟨Nat.le_of_ble_eq_true rfl, Nat.le_of_ble_eq_true rfl, show cc + mc ≤ 601024 by omega, show ss + ms ≤ 7293034 by omega⟩) (fun _ _ z => z) (fun v1 h1 hq hE => ?_)
  obtain ⟨rfl, hM⟩ := hq
  obtain ⟨⟨n1, p1, ord1, L1, Γ1, o1, w1, s1, e1⟩, hm⟩ := hJ h1 hM
  rw [← s1.2.2.2]
  refine g_istore dL_law_585 (by decide) rfl ?_
  refine g_aload_n dL_law_587 rfl ?_
  refine g_aload_n dL_law_588 rfl ?_
  refine g_iload dL_law_589 rfl ?_
  refine g_iconst (v := nI 1) dL_law_591 (by decide) ?_
  refine g_iadd dL_law_592 ?_
  rw [nI_add]
  refine w_sald w1 dL_law_593 (by omega) ?_
  rw [e1]
  rw [s1.2.2.2]
  refine g_callV [_] dL_law_594 mc_L_100 mi_X5_repair se_X5_repair hm (by rw [← s1.2.1]; exact w1.k rfl) rfl rfl (Nat.le_of_ble_eq_true rfl) (by rw [hR]; exact ⟨Nat.le_of_ble_eq_true rfl, Nat.le_of_ble_eq_true rfl, show cc + mc + 0 ≤ 601024 by omega, show ss + ms + 0 ≤ 7293034 by omega⟩) (fun _ _ z => z) (fun v2 h2 hq hE2 => ?_)
  obtain ⟨b, rfl, T2, n2, p2, A2, B2, ord2, L2, Γ2, o2, hT2, w2, r2, s2, e2, e34, hP⟩ := hq
  refine g_aload_n dL_law_597 rfl ?_
  have ht := c_X5_thrown hlt w2
  rw [s2.2.1] at ht
  refine g_callV [] dL_law_598 mc_L_73 mi_X5_thrown se_X5_thrown ht (by rw [← s2.2.1]; exact w2.k rfl) rfl rfl (Nat.le_of_ble_eq_true rfl) (by rw [hR]; exact ⟨Nat.le_of_ble_eq_true rfl, Nat.le_of_ble_eq_true rfl, show cc + mc + 0 + 0 ≤ 601024 by omega, show ss + ms + 0 + 0 ≤ 7293034 by omega⟩) (fun _ _ z => z) (fun v3 h3 hq hE3 => ?_)
  obtain ⟨rfl, rfl⟩ := hq
  refine g_iload dL_law_601 rfl ?_
  refine g_icmp_eq 608 dL_law_603 (by decide) (fun _ => ?_) (fun z => absurd e34 z)
  refine g_goto 973 dL_law_608 (by decide) ?_
  refine g_ls [(4, .int (nI i)), (3, .ref (L 14 0)), (2, .ref (L 11 0)), (1, .ref (L 5 0)), (0, .ref (L 15 0))] ⟨rfl, rfl, rfl, rfl, rfl, trivial⟩ ?_
  exact next T2 n2 p2 A2 B2 ord2 L2 Γ2 o2 _ _ _ hT2 w2 r2 s2 (by omega) (by omega)
set_option maxRecDepth 100000 in
set_option maxHeartbeats 4000000 in
theorem law_c8 {k : am_X} {nm : String} {ret : Option FieldType} {Q : State → Prop} (hR : am_kR k = room_1) (hlt : (am_kl k).stackTraces = false) {N n p T : Nat} {A B : Nat → Nat} {ord : List Nat} {L : Nat → Nat → Nat} {Γ : Nat → Nat → Nat → Int32} {o : Int64} {h : am_H} (w : WI N n p ord L Γ o h) (hr : RI T n p A B ord Γ) (hT : T < 2 ^ 30) {i cc ss : Nat} (hi : i + 4 ≤ N) (hcc : cc + 8 ≤ 601024) (hss : ss + 800 ≤ 7293034) (next : ∀ (T' n' p' : Nat) (A' B' : Nat → Nat) (ord' : List Nat) (L' : Nat → Nat → Nat) (Γ' : Nat → Nat → Nat → Int32) (o' : Int64) (h' : am_H) (cc' ss' : Nat), T' ≤ T + 1 → WI N n' p' ord' L' Γ' o' h' → RI T' n' p' A' B' ord' Γ' → sm L L' → cc' ≤ cc + 8 → ss' ≤ ss + 800 → am_G k RL nm cL_law 7 ret cc' ss' Q 973 [(4, .int (nI i)), (3, .ref (L 14 0)), (2, .ref (L 11 0)), (1, .ref (L 5 0)), (0, .ref (L 15 0))] [] h') : am_G k RL nm cL_law 7 ret cc ss Q 611 [(4, .int (nI i)), (3, .ref (L 14 0)), (2, .ref (L 11 0)), (1, .ref (L 5 0)), (0, .ref (L 15 0))] [] h := by
  obtain ⟨K, mc, ms, M, hmc, hms, hw, hJ⟩ := J_end hlt w hr 
  refine g_aload_n dL_law_611 rfl ?_
  refine g_aload_n dL_law_612 rfl ?_
  refine g_callSX [_, _] dL_law_613 mcw_end hw rfl (Nat.le_of_ble_eq_true rfl) (by rw [hR]; exact ⟨Nat.le_of_ble_eq_true rfl, Nat.le_of_ble_eq_true rfl, show cc + mc ≤ 601024 by omega, show ss + ms ≤ 7293034 by omega⟩) (fun _ _ z => z) (fun v1 h1 hq hE => ?_)
  obtain ⟨rfl, hM⟩ := hq
  obtain ⟨⟨n1, p1, ord1, L1, Γ1, o1, w1, s1, e1⟩, hm⟩ := hJ h1 hM
  rw [← s1.2.2.2]
  refine g_istore dL_law_616 (by decide) rfl ?_
  refine g_aload_n dL_law_618 rfl ?_
  rw [s1.2.2.2]
  refine g_callV [] dL_law_619 mc_L_103 mi_X5_end se_X5_end hm (by rw [← s1.2.1]; exact w1.k rfl) rfl rfl (Nat.le_of_ble_eq_true rfl) (by rw [hR]; exact ⟨Nat.le_of_ble_eq_true rfl, Nat.le_of_ble_eq_true rfl, show cc + mc + 0 ≤ 601024 by omega, show ss + ms + 0 ≤ 7293034 by omega⟩) (fun _ _ z => z) (fun v2 h2 hq hE2 => ?_)
  obtain ⟨b, rfl, T2, n2, p2, A2, B2, ord2, L2, Γ2, o2, hT2, w2, r2, s2, e2, e34, hP⟩ := hq
  refine g_istore dL_law_622 (by decide) rfl ?_
  refine g_aload_n dL_law_624 rfl ?_
  have ht := c_X5_thrown hlt w2
  rw [s2.2.1] at ht
  refine g_callV [] dL_law_625 mc_L_73 mi_X5_thrown se_X5_thrown ht (by rw [← s2.2.1]; exact w2.k rfl) rfl rfl (Nat.le_of_ble_eq_true rfl) (by rw [hR]; exact ⟨Nat.le_of_ble_eq_true rfl, Nat.le_of_ble_eq_true rfl, show cc + mc + 0 + 0 ≤ 601024 by omega, show ss + ms + 0 + 0 ≤ 7293034 by omega⟩) (fun _ _ z => z) (fun v3 h3 hq hE3 => ?_)
  obtain ⟨rfl, rfl⟩ := hq
  refine g_iload dL_law_628 rfl ?_
  refine g_icmp_eq 635 dL_law_630 (by decide) (fun _ => ?_) (fun z => absurd e34 z)
  refine g_iload dL_law_635 rfl ?_
  refine g_if_ne 652 dL_law_637 (by decide) (fun _ => ?_) (fun c0 => ?_)
  · refine g_goto 973 dL_law_652 (by decide) ?_
    refine g_ls [(4, .int (nI i)), (3, .ref (L 14 0)), (2, .ref (L 11 0)), (1, .ref (L 5 0)), (0, .ref (L 15 0))] ⟨rfl, rfl, rfl, rfl, rfl, trivial⟩ ?_
    exact next T2 n2 p2 A2 B2 ord2 L2 Γ2 o2 _ _ _ hT2 w2 r2 s2 (by omega) (by omega)
  · skip
    refine g_aload_n dL_law_640 rfl ?_
    refine g_iconst (v := nI 0) dL_law_641 (by decide) ?_
    rw [← s2.2.2.1]
    refine w_lald w2 dL_law_642 ?_
    rw [s2.2.2.1]
    refine g_iload dL_law_643 rfl ?_
    refine g_i2l dL_law_645 rfl ?_
    refine g_lcmp dL_law_646 ?_
    refine g_if_eq 652 dL_law_647 (by decide) (fun _ => ?_) (fun z => absurd (lcmp0 (hP c0)) z)
    refine g_goto 973 dL_law_652 (by decide) ?_
    refine g_ls [(4, .int (nI i)), (3, .ref (L 14 0)), (2, .ref (L 11 0)), (1, .ref (L 5 0)), (0, .ref (L 15 0))] ⟨rfl, rfl, rfl, rfl, rfl, trivial⟩ ?_
    exact next T2 n2 p2 A2 B2 ord2 L2 Γ2 o2 _ _ _ hT2 w2 r2 s2 (by omega) (by omega)
set_option maxRecDepth 100000 in
set_option maxHeartbeats 4000000 in
theorem law_c9 {k : am_X} {nm : String} {ret : Option FieldType} {Q : State → Prop} (hR : am_kR k = room_1) (hlt : (am_kl k).stackTraces = false) {N n p T : Nat} {A B : Nat → Nat} {ord : List Nat} {L : Nat → Nat → Nat} {Γ : Nat → Nat → Nat → Int32} {o : Int64} {h : am_H} (w : WI N n p ord L Γ o h) (hr : RI T n p A B ord Γ) (hT : T < 2 ^ 30) {i cc ss : Nat} (hi : i + 4 ≤ N) (hcc : cc + 8 ≤ 601024) (hss : ss + 800 ≤ 7293034) (next : ∀ (T' n' p' : Nat) (A' B' : Nat → Nat) (ord' : List Nat) (L' : Nat → Nat → Nat) (Γ' : Nat → Nat → Nat → Int32) (o' : Int64) (h' : am_H) (cc' ss' : Nat), T' ≤ T + 1 → WI N n' p' ord' L' Γ' o' h' → RI T' n' p' A' B' ord' Γ' → sm L L' → cc' ≤ cc + 8 → ss' ≤ ss + 800 → am_G k RL nm cL_law 7 ret cc' ss' Q 973 [(4, .int (nI i)), (3, .ref (L 14 0)), (2, .ref (L 11 0)), (1, .ref (L 5 0)), (0, .ref (L 15 0))] [] h') : am_G k RL nm cL_law 7 ret cc ss Q 655 [(4, .int (nI i)), (3, .ref (L 14 0)), (2, .ref (L 11 0)), (1, .ref (L 5 0)), (0, .ref (L 15 0))] [] h := by
  refine g_aload_n dL_law_655 rfl ?_
  refine g_callV [] dL_law_656 mc_L_104 mi_X4_hour se_X4_hour (c_X4_hour hlt w) (w.k (c := 5) (i := 0) rfl) rfl rfl (Nat.le_of_ble_eq_true rfl) (by rw [hR]; exact ⟨Nat.le_of_ble_eq_true rfl, Nat.le_of_ble_eq_true rfl, show cc + 0 ≤ 601024 by omega, show ss + 0 ≤ 7293034 by omega⟩) (fun _ _ z => z) (fun v1 h1 hq hE => ?_)
  obtain ⟨rfl, rfl⟩ := hq
  refine g_aload_n dL_law_659 rfl ?_
  refine g_callV [] dL_law_660 mc_L_107 mi_X5_hour se_X5_hour (c_X5_hour hlt w) (w.k (c := 11) (i := 0) rfl) rfl rfl (Nat.le_of_ble_eq_true rfl) (by rw [hR]; exact ⟨Nat.le_of_ble_eq_true rfl, Nat.le_of_ble_eq_true rfl, show cc + 0 + 0 ≤ 601024 by omega, show ss + 0 + 0 ≤ 7293034 by omega⟩) (fun _ _ z => z) (fun v2 h2 hq hE2 => ?_)
  obtain ⟨rfl, w2⟩ := hq
  refine g_icmp_eq 973 dL_law_663 (by decide) (fun _ => ?_) (fun z => absurd hr.1.2.2.1.symm z)
  exact next T n p A B ord L _ o h2 _ _ (Nat.le_succ T) w2 (hr.thrown 0) sm.rf (by omega) (by omega)
set_option maxRecDepth 100000 in
set_option maxHeartbeats 4000000 in
theorem law_c10 {k : am_X} {nm : String} {ret : Option FieldType} {Q : State → Prop} (hR : am_kR k = room_1) (hlt : (am_kl k).stackTraces = false) {N n p T : Nat} {A B : Nat → Nat} {ord : List Nat} {L : Nat → Nat → Nat} {Γ : Nat → Nat → Nat → Int32} {o : Int64} {h : am_H} (w : WI N n p ord L Γ o h) (hr : RI T n p A B ord Γ) (hT : T < 2 ^ 30) {i cc ss : Nat} (hi : i + 4 ≤ N) (hcc : cc + 8 ≤ 601024) (hss : ss + 800 ≤ 7293034) (next : ∀ (T' n' p' : Nat) (A' B' : Nat → Nat) (ord' : List Nat) (L' : Nat → Nat → Nat) (Γ' : Nat → Nat → Nat → Int32) (o' : Int64) (h' : am_H) (cc' ss' : Nat), T' ≤ T + 1 → WI N n' p' ord' L' Γ' o' h' → RI T' n' p' A' B' ord' Γ' → sm L L' → cc' ≤ cc + 8 → ss' ≤ ss + 800 → am_G k RL nm cL_law 7 ret cc' ss' Q 973 [(4, .int (nI i)), (3, .ref (L 14 0)), (2, .ref (L 11 0)), (1, .ref (L 5 0)), (0, .ref (L 15 0))] [] h') : am_G k RL nm cL_law 7 ret cc ss Q 668 [(4, .int (nI i)), (3, .ref (L 14 0)), (2, .ref (L 11 0)), (1, .ref (L 5 0)), (0, .ref (L 15 0))] [] h := by
  refine g_aload_n dL_law_668 rfl ?_
  refine g_callV [] dL_law_669 mc_L_108 mi_X4_round se_X4_round (c_X4_round hlt w) (w.k (c := 5) (i := 0) rfl) rfl rfl (Nat.le_of_ble_eq_true rfl) (by rw [hR]; exact ⟨Nat.le_of_ble_eq_true rfl, Nat.le_of_ble_eq_true rfl, show cc + 0 ≤ 601024 by omega, show ss + 0 ≤ 7293034 by omega⟩) (fun _ _ z => z) (fun v1 h1 hq hE => ?_)
  obtain ⟨rfl, rfl⟩ := hq
  refine g_aload_n dL_law_672 rfl ?_
  refine g_callV [] dL_law_673 mc_L_111 mi_X5_round se_X5_round (c_X5_round hlt w) (w.k (c := 11) (i := 0) rfl) rfl rfl (Nat.le_of_ble_eq_true rfl) (by rw [hR]; exact ⟨Nat.le_of_ble_eq_true rfl, Nat.le_of_ble_eq_true rfl, show cc + 0 + 0 ≤ 601024 by omega, show ss + 0 + 0 ≤ 7293034 by omega⟩) (fun _ _ z => z) (fun v2 h2 hq hE2 => ?_)
  obtain ⟨rfl, w2⟩ := hq
  refine g_icmp_eq 973 dL_law_676 (by decide) (fun _ => ?_) (fun z => absurd hr.1.2.2.2.2.2.1.symm z)
  exact next T n p A B ord L _ o h2 _ _ (Nat.le_succ T) w2 (hr.thrown 0) sm.rf (by omega) (by omega)
set_option maxRecDepth 100000 in
set_option maxHeartbeats 4000000 in
theorem law_c11 {k : am_X} {nm : String} {ret : Option FieldType} {Q : State → Prop} (hR : am_kR k = room_1) (hlt : (am_kl k).stackTraces = false) {N n p T : Nat} {A B : Nat → Nat} {ord : List Nat} {L : Nat → Nat → Nat} {Γ : Nat → Nat → Nat → Int32} {o : Int64} {h : am_H} (w : WI N n p ord L Γ o h) (hr : RI T n p A B ord Γ) (hT : T < 2 ^ 30) {i cc ss : Nat} (hi : i + 4 ≤ N) (hcc : cc + 8 ≤ 601024) (hss : ss + 800 ≤ 7293034) (next : ∀ (T' n' p' : Nat) (A' B' : Nat → Nat) (ord' : List Nat) (L' : Nat → Nat → Nat) (Γ' : Nat → Nat → Nat → Int32) (o' : Int64) (h' : am_H) (cc' ss' : Nat), T' ≤ T + 1 → WI N n' p' ord' L' Γ' o' h' → RI T' n' p' A' B' ord' Γ' → sm L L' → cc' ≤ cc + 8 → ss' ≤ ss + 800 → am_G k RL nm cL_law 7 ret cc' ss' Q 973 [(4, .int (nI i)), (3, .ref (L 14 0)), (2, .ref (L 11 0)), (1, .ref (L 5 0)), (0, .ref (L 15 0))] [] h') : am_G k RL nm cL_law 7 ret cc ss Q 681 [(4, .int (nI i)), (3, .ref (L 14 0)), (2, .ref (L 11 0)), (1, .ref (L 5 0)), (0, .ref (L 15 0))] [] h := by
  obtain ⟨K, mc, ms, M, hmc, hms, hw, hJ⟩ := J_ofDistrict hlt w hr (Γ 15 0 (i + 1)) (Γ 15 0 (i + 2))
  refine g_aload_n dL_law_681 rfl ?_
  refine g_aload_n dL_law_682 rfl ?_
  refine g_iload dL_law_683 rfl ?_
  refine g_iconst (v := nI 1) dL_law_685 (by decide) ?_
  refine g_iadd dL_law_686 ?_
  rw [nI_add]
  refine w_sald w dL_law_687 (by omega) ?_
  refine g_aload_n dL_law_688 rfl ?_
  refine g_iload dL_law_689 rfl ?_
  refine g_iconst (v := nI 2) dL_law_691 (by decide) ?_
  refine g_iadd dL_law_692 ?_
  rw [nI_add]
  refine w_sald w dL_law_693 (by omega) ?_
  refine g_aload_n dL_law_694 rfl ?_
  refine g_callSX [_, _, _, _] dL_law_695 mcw_ofDistrict hw rfl (Nat.le_of_ble_eq_true rfl) (by rw [hR]; exact ⟨Nat.le_of_ble_eq_true rfl, Nat.le_of_ble_eq_true rfl, show cc + mc ≤ 601024 by omega, show ss + ms ≤ 7293034 by omega⟩) (fun _ _ z => z) (fun v1 h1 hq hE => ?_)
  obtain ⟨rfl, hM⟩ := hq
  obtain ⟨⟨n1, p1, ord1, L1, Γ1, o1, w1, s1, e1⟩, hm⟩ := hJ h1 hM
  rw [← s1.2.2.2]
  refine g_istore dL_law_698 (by decide) rfl ?_
  refine g_aload_n dL_law_700 rfl ?_
  refine g_aload_n dL_law_701 rfl ?_
  refine g_iload dL_law_702 rfl ?_
  refine g_iconst (v := nI 1) dL_law_704 (by decide) ?_
  refine g_iadd dL_law_705 ?_
  rw [nI_add]
  refine w_sald w1 dL_law_706 (by omega) ?_
  rw [e1]
  refine g_aload_n dL_law_707 rfl ?_
  refine g_iload dL_law_708 rfl ?_
  refine g_iconst (v := nI 2) dL_law_710 (by decide) ?_
  refine g_iadd dL_law_711 ?_
  rw [nI_add]
  refine w_sald w1 dL_law_712 (by omega) ?_
  rw [e1]
  rw [s1.2.2.2]
  refine g_callV [_, _] dL_law_713 mc_L_114 mi_X5_ofDistrict se_X5_ofDistrict hm (by rw [← s1.2.1]; exact w1.k rfl) rfl rfl (Nat.le_of_ble_eq_true rfl) (by rw [hR]; exact ⟨Nat.le_of_ble_eq_true rfl, Nat.le_of_ble_eq_true rfl, show cc + mc + 0 ≤ 601024 by omega, show ss + ms + 0 ≤ 7293034 by omega⟩) (fun _ _ z => z) (fun v2 h2 hq hE2 => ?_)
  obtain ⟨b, rfl, T2, n2, p2, A2, B2, ord2, L2, Γ2, o2, hT2, w2, r2, s2, e2, e34, hP⟩ := hq
  refine g_istore dL_law_716 (by decide) rfl ?_
  refine g_aload_n dL_law_718 rfl ?_
  have ht := c_X5_thrown hlt w2
  rw [s2.2.1] at ht
  refine g_callV [] dL_law_719 mc_L_73 mi_X5_thrown se_X5_thrown ht (by rw [← s2.2.1]; exact w2.k rfl) rfl rfl (Nat.le_of_ble_eq_true rfl) (by rw [hR]; exact ⟨Nat.le_of_ble_eq_true rfl, Nat.le_of_ble_eq_true rfl, show cc + mc + 0 + 0 ≤ 601024 by omega, show ss + ms + 0 + 0 ≤ 7293034 by omega⟩) (fun _ _ z => z) (fun v3 h3 hq hE3 => ?_)
  obtain ⟨rfl, rfl⟩ := hq
  refine g_iload dL_law_722 rfl ?_
  refine g_icmp_eq 729 dL_law_724 (by decide) (fun _ => ?_) (fun z => absurd e34 z)
  refine g_iload dL_law_729 rfl ?_
  refine g_if_ne 746 dL_law_731 (by decide) (fun _ => ?_) (fun c0 => ?_)
  · refine g_goto 973 dL_law_746 (by decide) ?_
    refine g_ls [(4, .int (nI i)), (3, .ref (L 14 0)), (2, .ref (L 11 0)), (1, .ref (L 5 0)), (0, .ref (L 15 0))] ⟨rfl, rfl, rfl, rfl, rfl, trivial⟩ ?_
    exact next T2 n2 p2 A2 B2 ord2 L2 Γ2 o2 _ _ _ hT2 w2 r2 s2 (by omega) (by omega)
  · skip
    refine g_aload_n dL_law_734 rfl ?_
    refine g_iconst (v := nI 0) dL_law_735 (by decide) ?_
    rw [← s2.2.2.1]
    refine w_lald w2 dL_law_736 ?_
    rw [s2.2.2.1]
    refine g_iload dL_law_737 rfl ?_
    refine g_i2l dL_law_739 rfl ?_
    refine g_lcmp dL_law_740 ?_
    refine g_if_eq 746 dL_law_741 (by decide) (fun _ => ?_) (fun z => absurd (lcmp0 (hP c0)) z)
    refine g_goto 973 dL_law_746 (by decide) ?_
    refine g_ls [(4, .int (nI i)), (3, .ref (L 14 0)), (2, .ref (L 11 0)), (1, .ref (L 5 0)), (0, .ref (L 15 0))] ⟨rfl, rfl, rfl, rfl, rfl, trivial⟩ ?_
    exact next T2 n2 p2 A2 B2 ord2 L2 Γ2 o2 _ _ _ hT2 w2 r2 s2 (by omega) (by omega)
set_option maxRecDepth 100000 in
set_option maxHeartbeats 4000000 in
theorem law_c12 {k : am_X} {nm : String} {ret : Option FieldType} {Q : State → Prop} (hR : am_kR k = room_1) (hlt : (am_kl k).stackTraces = false) {N n p T : Nat} {A B : Nat → Nat} {ord : List Nat} {L : Nat → Nat → Nat} {Γ : Nat → Nat → Nat → Int32} {o : Int64} {h : am_H} (w : WI N n p ord L Γ o h) (hr : RI T n p A B ord Γ) (hT : T < 2 ^ 30) {i cc ss : Nat} (hi : i + 4 ≤ N) (hcc : cc + 8 ≤ 601024) (hss : ss + 800 ≤ 7293034) (next : ∀ (T' n' p' : Nat) (A' B' : Nat → Nat) (ord' : List Nat) (L' : Nat → Nat → Nat) (Γ' : Nat → Nat → Nat → Int32) (o' : Int64) (h' : am_H) (cc' ss' : Nat), T' ≤ T + 1 → WI N n' p' ord' L' Γ' o' h' → RI T' n' p' A' B' ord' Γ' → sm L L' → cc' ≤ cc + 8 → ss' ≤ ss + 800 → am_G k RL nm cL_law 7 ret cc' ss' Q 973 [(4, .int (nI i)), (3, .ref (L 14 0)), (2, .ref (L 11 0)), (1, .ref (L 5 0)), (0, .ref (L 15 0))] [] h') : am_G k RL nm cL_law 7 ret cc ss Q 749 [(4, .int (nI i)), (3, .ref (L 14 0)), (2, .ref (L 11 0)), (1, .ref (L 5 0)), (0, .ref (L 15 0))] [] h := by
  obtain ⟨K, mc, ms, M, hmc, hms, hw, hJ⟩ := J_flowAnew hlt w hr (Γ 15 0 (i + 1))
  refine g_aload_n dL_law_749 rfl ?_
  refine g_aload_n dL_law_750 rfl ?_
  refine g_iload dL_law_751 rfl ?_
  refine g_iconst (v := nI 1) dL_law_753 (by decide) ?_
  refine g_iadd dL_law_754 ?_
  rw [nI_add]
  refine w_sald w dL_law_755 (by omega) ?_
  refine g_aload_n dL_law_756 rfl ?_
  refine g_callSX [_, _, _] dL_law_757 mcw_flowAnew hw rfl (Nat.le_of_ble_eq_true rfl) (by rw [hR]; exact ⟨Nat.le_of_ble_eq_true rfl, Nat.le_of_ble_eq_true rfl, show cc + mc ≤ 601024 by omega, show ss + ms ≤ 7293034 by omega⟩) (fun _ _ z => z) (fun v1 h1 hq hE => ?_)
  obtain ⟨rfl, hM⟩ := hq
  obtain ⟨⟨n1, p1, ord1, L1, Γ1, o1, w1, s1, e1⟩, hm⟩ := hJ h1 hM
  rw [← s1.2.2.2]
  refine g_istore dL_law_760 (by decide) rfl ?_
  refine g_aload_n dL_law_762 rfl ?_
  refine g_aload_n dL_law_763 rfl ?_
  refine g_iload dL_law_764 rfl ?_
  refine g_iconst (v := nI 1) dL_law_766 (by decide) ?_
  refine g_iadd dL_law_767 ?_
  rw [nI_add]
  refine w_sald w1 dL_law_768 (by omega) ?_
  rw [e1]
  rw [s1.2.2.2]
  refine g_callV [_] dL_law_769 mc_L_117 mi_X5_flowAnew se_X5_flowAnew hm (by rw [← s1.2.1]; exact w1.k rfl) rfl rfl (Nat.le_of_ble_eq_true rfl) (by rw [hR]; exact ⟨Nat.le_of_ble_eq_true rfl, Nat.le_of_ble_eq_true rfl, show cc + mc + 0 ≤ 601024 by omega, show ss + ms + 0 ≤ 7293034 by omega⟩) (fun _ _ z => z) (fun v2 h2 hq hE2 => ?_)
  obtain ⟨b, rfl, T2, n2, p2, A2, B2, ord2, L2, Γ2, o2, hT2, w2, r2, s2, e2, e34, hP⟩ := hq
  refine g_istore dL_law_772 (by decide) rfl ?_
  refine g_aload_n dL_law_774 rfl ?_
  have ht := c_X5_thrown hlt w2
  rw [s2.2.1] at ht
  refine g_callV [] dL_law_775 mc_L_73 mi_X5_thrown se_X5_thrown ht (by rw [← s2.2.1]; exact w2.k rfl) rfl rfl (Nat.le_of_ble_eq_true rfl) (by rw [hR]; exact ⟨Nat.le_of_ble_eq_true rfl, Nat.le_of_ble_eq_true rfl, show cc + mc + 0 + 0 ≤ 601024 by omega, show ss + ms + 0 + 0 ≤ 7293034 by omega⟩) (fun _ _ z => z) (fun v3 h3 hq hE3 => ?_)
  obtain ⟨rfl, rfl⟩ := hq
  refine g_iload dL_law_778 rfl ?_
  refine g_icmp_eq 785 dL_law_780 (by decide) (fun _ => ?_) (fun z => absurd e34 z)
  refine g_iload dL_law_785 rfl ?_
  refine g_if_ne 802 dL_law_787 (by decide) (fun _ => ?_) (fun c0 => ?_)
  · refine g_goto 973 dL_law_802 (by decide) ?_
    refine g_ls [(4, .int (nI i)), (3, .ref (L 14 0)), (2, .ref (L 11 0)), (1, .ref (L 5 0)), (0, .ref (L 15 0))] ⟨rfl, rfl, rfl, rfl, rfl, trivial⟩ ?_
    exact next T2 n2 p2 A2 B2 ord2 L2 Γ2 o2 _ _ _ hT2 w2 r2 s2 (by omega) (by omega)
  · skip
    refine g_aload_n dL_law_790 rfl ?_
    refine g_iconst (v := nI 0) dL_law_791 (by decide) ?_
    rw [← s2.2.2.1]
    refine w_lald w2 dL_law_792 ?_
    rw [s2.2.2.1]
    refine g_iload dL_law_793 rfl ?_
    refine g_i2l dL_law_795 rfl ?_
    refine g_lcmp dL_law_796 ?_
    refine g_if_eq 802 dL_law_797 (by decide) (fun _ => ?_) (fun z => absurd (lcmp0 (hP c0)) z)
    refine g_goto 973 dL_law_802 (by decide) ?_
    refine g_ls [(4, .int (nI i)), (3, .ref (L 14 0)), (2, .ref (L 11 0)), (1, .ref (L 5 0)), (0, .ref (L 15 0))] ⟨rfl, rfl, rfl, rfl, rfl, trivial⟩ ?_
    exact next T2 n2 p2 A2 B2 ord2 L2 Γ2 o2 _ _ _ hT2 w2 r2 s2 (by omega) (by omega)
set_option maxRecDepth 100000 in
set_option maxHeartbeats 4000000 in
theorem law_c13 {k : am_X} {nm : String} {ret : Option FieldType} {Q : State → Prop} (hR : am_kR k = room_1) (hlt : (am_kl k).stackTraces = false) {N n p T : Nat} {A B : Nat → Nat} {ord : List Nat} {L : Nat → Nat → Nat} {Γ : Nat → Nat → Nat → Int32} {o : Int64} {h : am_H} (w : WI N n p ord L Γ o h) (hr : RI T n p A B ord Γ) (hT : T < 2 ^ 30) {i cc ss : Nat} (hi : i + 4 ≤ N) (hcc : cc + 8 ≤ 601024) (hss : ss + 800 ≤ 7293034) (next : ∀ (T' n' p' : Nat) (A' B' : Nat → Nat) (ord' : List Nat) (L' : Nat → Nat → Nat) (Γ' : Nat → Nat → Nat → Int32) (o' : Int64) (h' : am_H) (cc' ss' : Nat), T' ≤ T + 1 → WI N n' p' ord' L' Γ' o' h' → RI T' n' p' A' B' ord' Γ' → sm L L' → cc' ≤ cc + 8 → ss' ≤ ss + 800 → am_G k RL nm cL_law 7 ret cc' ss' Q 973 [(4, .int (nI i)), (3, .ref (L 14 0)), (2, .ref (L 11 0)), (1, .ref (L 5 0)), (0, .ref (L 15 0))] [] h') : am_G k RL nm cL_law 7 ret cc ss Q 805 [(4, .int (nI i)), (3, .ref (L 14 0)), (2, .ref (L 11 0)), (1, .ref (L 5 0)), (0, .ref (L 15 0))] [] h := by
  obtain ⟨K, mc, ms, M, hmc, hms, hw, hJ⟩ := J_most hlt w hr (Γ 15 0 (i + 1))
  refine g_aload_n dL_law_805 rfl ?_
  refine g_aload_n dL_law_806 rfl ?_
  refine g_iload dL_law_807 rfl ?_
  refine g_iconst (v := nI 1) dL_law_809 (by decide) ?_
  refine g_iadd dL_law_810 ?_
  rw [nI_add]
  refine w_sald w dL_law_811 (by omega) ?_
  refine g_aload_n dL_law_812 rfl ?_
  refine g_callSX [_, _, _] dL_law_813 mcw_most hw rfl (Nat.le_of_ble_eq_true rfl) (by rw [hR]; exact ⟨Nat.le_of_ble_eq_true rfl, Nat.le_of_ble_eq_true rfl, show cc + mc ≤ 601024 by omega, show ss + ms ≤ 7293034 by omega⟩) (fun _ _ z => z) (fun v1 h1 hq hE => ?_)
  obtain ⟨rfl, hM⟩ := hq
  obtain ⟨⟨n1, p1, ord1, L1, Γ1, o1, w1, s1, e1⟩, hm⟩ := hJ h1 hM
  rw [← s1.2.2.2]
  refine g_istore dL_law_816 (by decide) rfl ?_
  refine g_aload_n dL_law_818 rfl ?_
  refine g_aload_n dL_law_819 rfl ?_
  refine g_iload dL_law_820 rfl ?_
  refine g_iconst (v := nI 1) dL_law_822 (by decide) ?_
  refine g_iadd dL_law_823 ?_
  rw [nI_add]
  refine w_sald w1 dL_law_824 (by omega) ?_
  rw [e1]
  rw [s1.2.2.2]
  refine g_callV [_] dL_law_825 mc_L_120 mi_X5_most se_X5_most hm (by rw [← s1.2.1]; exact w1.k rfl) rfl rfl (Nat.le_of_ble_eq_true rfl) (by rw [hR]; exact ⟨Nat.le_of_ble_eq_true rfl, Nat.le_of_ble_eq_true rfl, show cc + mc + 0 ≤ 601024 by omega, show ss + ms + 0 ≤ 7293034 by omega⟩) (fun _ _ z => z) (fun v2 h2 hq hE2 => ?_)
  obtain ⟨b, rfl, T2, n2, p2, A2, B2, ord2, L2, Γ2, o2, hT2, w2, r2, s2, e2, e34, hP⟩ := hq
  refine g_istore dL_law_828 (by decide) rfl ?_
  refine g_aload_n dL_law_830 rfl ?_
  have ht := c_X5_thrown hlt w2
  rw [s2.2.1] at ht
  refine g_callV [] dL_law_831 mc_L_73 mi_X5_thrown se_X5_thrown ht (by rw [← s2.2.1]; exact w2.k rfl) rfl rfl (Nat.le_of_ble_eq_true rfl) (by rw [hR]; exact ⟨Nat.le_of_ble_eq_true rfl, Nat.le_of_ble_eq_true rfl, show cc + mc + 0 + 0 ≤ 601024 by omega, show ss + ms + 0 + 0 ≤ 7293034 by omega⟩) (fun _ _ z => z) (fun v3 h3 hq hE3 => ?_)
  obtain ⟨rfl, rfl⟩ := hq
  refine g_iload dL_law_834 rfl ?_
  refine g_icmp_eq 841 dL_law_836 (by decide) (fun _ => ?_) (fun z => absurd e34 z)
  refine g_iload dL_law_841 rfl ?_
  refine g_if_ne 858 dL_law_843 (by decide) (fun _ => ?_) (fun c0 => ?_)
  · refine g_goto 973 dL_law_858 (by decide) ?_
    refine g_ls [(4, .int (nI i)), (3, .ref (L 14 0)), (2, .ref (L 11 0)), (1, .ref (L 5 0)), (0, .ref (L 15 0))] ⟨rfl, rfl, rfl, rfl, rfl, trivial⟩ ?_
    exact next T2 n2 p2 A2 B2 ord2 L2 Γ2 o2 _ _ _ hT2 w2 r2 s2 (by omega) (by omega)
  · skip
    refine g_aload_n dL_law_846 rfl ?_
    refine g_iconst (v := nI 0) dL_law_847 (by decide) ?_
    rw [← s2.2.2.1]
    refine w_lald w2 dL_law_848 ?_
    rw [s2.2.2.1]
    refine g_iload dL_law_849 rfl ?_
    refine g_i2l dL_law_851 rfl ?_
    refine g_lcmp dL_law_852 ?_
    refine g_if_eq 858 dL_law_853 (by decide) (fun _ => ?_) (fun z => absurd (lcmp0 (hP c0)) z)
    refine g_goto 973 dL_law_858 (by decide) ?_
    refine g_ls [(4, .int (nI i)), (3, .ref (L 14 0)), (2, .ref (L 11 0)), (1, .ref (L 5 0)), (0, .ref (L 15 0))] ⟨rfl, rfl, rfl, rfl, rfl, trivial⟩ ?_
    exact next T2 n2 p2 A2 B2 ord2 L2 Γ2 o2 _ _ _ hT2 w2 r2 s2 (by omega) (by omega)
set_option maxRecDepth 100000 in
set_option maxHeartbeats 4000000 in
theorem law_c14 {k : am_X} {nm : String} {ret : Option FieldType} {Q : State → Prop} (hR : am_kR k = room_1) (hlt : (am_kl k).stackTraces = false) {N n p T : Nat} {A B : Nat → Nat} {ord : List Nat} {L : Nat → Nat → Nat} {Γ : Nat → Nat → Nat → Int32} {o : Int64} {h : am_H} (w : WI N n p ord L Γ o h) (hr : RI T n p A B ord Γ) (hT : T < 2 ^ 30) {i cc ss : Nat} (hi : i + 4 ≤ N) (hcc : cc + 8 ≤ 601024) (hss : ss + 800 ≤ 7293034) (next : ∀ (T' n' p' : Nat) (A' B' : Nat → Nat) (ord' : List Nat) (L' : Nat → Nat → Nat) (Γ' : Nat → Nat → Nat → Int32) (o' : Int64) (h' : am_H) (cc' ss' : Nat), T' ≤ T + 1 → WI N n' p' ord' L' Γ' o' h' → RI T' n' p' A' B' ord' Γ' → sm L L' → cc' ≤ cc + 8 → ss' ≤ ss + 800 → am_G k RL nm cL_law 7 ret cc' ss' Q 973 [(4, .int (nI i)), (3, .ref (L 14 0)), (2, .ref (L 11 0)), (1, .ref (L 5 0)), (0, .ref (L 15 0))] [] h') : am_G k RL nm cL_law 7 ret cc ss Q 861 [(4, .int (nI i)), (3, .ref (L 14 0)), (2, .ref (L 11 0)), (1, .ref (L 5 0)), (0, .ref (L 15 0))] [] h := by
  obtain ⟨K, mc, ms, M, hmc, hms, hw, hJ⟩ := J_place hlt w hr (Γ 15 0 (i + 1))
  refine g_aload_n dL_law_861 rfl ?_
  refine g_aload_n dL_law_862 rfl ?_
  refine g_iload dL_law_863 rfl ?_
  refine g_iconst (v := nI 1) dL_law_865 (by decide) ?_
  refine g_iadd dL_law_866 ?_
  rw [nI_add]
  refine w_sald w dL_law_867 (by omega) ?_
  refine g_aload_n dL_law_868 rfl ?_
  refine g_callSX [_, _, _] dL_law_869 mcw_place hw rfl (Nat.le_of_ble_eq_true rfl) (by rw [hR]; exact ⟨Nat.le_of_ble_eq_true rfl, Nat.le_of_ble_eq_true rfl, show cc + mc ≤ 601024 by omega, show ss + ms ≤ 7293034 by omega⟩) (fun _ _ z => z) (fun v1 h1 hq hE => ?_)
  obtain ⟨rfl, hM⟩ := hq
  obtain ⟨⟨n1, p1, ord1, L1, Γ1, o1, w1, s1, e1⟩, hm⟩ := hJ h1 hM
  rw [← s1.2.2.2]
  refine g_istore dL_law_872 (by decide) rfl ?_
  refine g_aload_n dL_law_874 rfl ?_
  refine g_aload_n dL_law_875 rfl ?_
  refine g_iload dL_law_876 rfl ?_
  refine g_iconst (v := nI 1) dL_law_878 (by decide) ?_
  refine g_iadd dL_law_879 ?_
  rw [nI_add]
  refine w_sald w1 dL_law_880 (by omega) ?_
  rw [e1]
  rw [s1.2.2.2]
  refine g_callV [_] dL_law_881 mc_L_123 mi_X5_place se_X5_place hm (by rw [← s1.2.1]; exact w1.k rfl) rfl rfl (Nat.le_of_ble_eq_true rfl) (by rw [hR]; exact ⟨Nat.le_of_ble_eq_true rfl, Nat.le_of_ble_eq_true rfl, show cc + mc + 0 ≤ 601024 by omega, show ss + ms + 0 ≤ 7293034 by omega⟩) (fun _ _ z => z) (fun v2 h2 hq hE2 => ?_)
  obtain ⟨b, rfl, T2, n2, p2, A2, B2, ord2, L2, Γ2, o2, hT2, w2, r2, s2, e2, e34, hP⟩ := hq
  refine g_istore dL_law_884 (by decide) rfl ?_
  refine g_aload_n dL_law_886 rfl ?_
  have ht := c_X5_thrown hlt w2
  rw [s2.2.1] at ht
  refine g_callV [] dL_law_887 mc_L_73 mi_X5_thrown se_X5_thrown ht (by rw [← s2.2.1]; exact w2.k rfl) rfl rfl (Nat.le_of_ble_eq_true rfl) (by rw [hR]; exact ⟨Nat.le_of_ble_eq_true rfl, Nat.le_of_ble_eq_true rfl, show cc + mc + 0 + 0 ≤ 601024 by omega, show ss + ms + 0 + 0 ≤ 7293034 by omega⟩) (fun _ _ z => z) (fun v3 h3 hq hE3 => ?_)
  obtain ⟨rfl, rfl⟩ := hq
  refine g_iload dL_law_890 rfl ?_
  refine g_icmp_eq 897 dL_law_892 (by decide) (fun _ => ?_) (fun z => absurd e34 z)
  refine g_iload dL_law_897 rfl ?_
  refine g_if_ne 914 dL_law_899 (by decide) (fun _ => ?_) (fun c0 => ?_)
  · refine g_goto 973 dL_law_914 (by decide) ?_
    refine g_ls [(4, .int (nI i)), (3, .ref (L 14 0)), (2, .ref (L 11 0)), (1, .ref (L 5 0)), (0, .ref (L 15 0))] ⟨rfl, rfl, rfl, rfl, rfl, trivial⟩ ?_
    exact next T2 n2 p2 A2 B2 ord2 L2 Γ2 o2 _ _ _ hT2 w2 r2 s2 (by omega) (by omega)
  · skip
    refine g_aload_n dL_law_902 rfl ?_
    refine g_iconst (v := nI 0) dL_law_903 (by decide) ?_
    rw [← s2.2.2.1]
    refine w_lald w2 dL_law_904 ?_
    rw [s2.2.2.1]
    refine g_iload dL_law_905 rfl ?_
    refine g_i2l dL_law_907 rfl ?_
    refine g_lcmp dL_law_908 ?_
    refine g_if_eq 914 dL_law_909 (by decide) (fun _ => ?_) (fun z => absurd (lcmp0 (hP c0)) z)
    refine g_goto 973 dL_law_914 (by decide) ?_
    refine g_ls [(4, .int (nI i)), (3, .ref (L 14 0)), (2, .ref (L 11 0)), (1, .ref (L 5 0)), (0, .ref (L 15 0))] ⟨rfl, rfl, rfl, rfl, rfl, trivial⟩ ?_
    exact next T2 n2 p2 A2 B2 ord2 L2 Γ2 o2 _ _ _ hT2 w2 r2 s2 (by omega) (by omega)
set_option maxRecDepth 100000 in
set_option maxHeartbeats 4000000 in
theorem law_c15 {k : am_X} {nm : String} {ret : Option FieldType} {Q : State → Prop} (hR : am_kR k = room_1) (hlt : (am_kl k).stackTraces = false) {N n p T : Nat} {A B : Nat → Nat} {ord : List Nat} {L : Nat → Nat → Nat} {Γ : Nat → Nat → Nat → Int32} {o : Int64} {h : am_H} (w : WI N n p ord L Γ o h) (hr : RI T n p A B ord Γ) (hT : T < 2 ^ 30) {i cc ss : Nat} (hi : i + 4 ≤ N) (hcc : cc + 8 ≤ 601024) (hss : ss + 800 ≤ 7293034) (next : ∀ (T' n' p' : Nat) (A' B' : Nat → Nat) (ord' : List Nat) (L' : Nat → Nat → Nat) (Γ' : Nat → Nat → Nat → Int32) (o' : Int64) (h' : am_H) (cc' ss' : Nat), T' ≤ T + 1 → WI N n' p' ord' L' Γ' o' h' → RI T' n' p' A' B' ord' Γ' → sm L L' → cc' ≤ cc + 8 → ss' ≤ ss + 800 → am_G k RL nm cL_law 7 ret cc' ss' Q 973 [(4, .int (nI i)), (3, .ref (L 14 0)), (2, .ref (L 11 0)), (1, .ref (L 5 0)), (0, .ref (L 15 0))] [] h') : am_G k RL nm cL_law 7 ret cc ss Q 917 [(4, .int (nI i)), (3, .ref (L 14 0)), (2, .ref (L 11 0)), (1, .ref (L 5 0)), (0, .ref (L 15 0))] [] h := by
  obtain ⟨K, mc, ms, M, hmc, hms, hw, hJ⟩ := J_count hlt w hr (Γ 15 0 (i + 1))
  refine g_aload_n dL_law_917 rfl ?_
  refine g_aload_n dL_law_918 rfl ?_
  refine g_iload dL_law_919 rfl ?_
  refine g_iconst (v := nI 1) dL_law_921 (by decide) ?_
  refine g_iadd dL_law_922 ?_
  rw [nI_add]
  refine w_sald w dL_law_923 (by omega) ?_
  refine g_aload_n dL_law_924 rfl ?_
  refine g_callSX [_, _, _] dL_law_925 mcw_count hw rfl (Nat.le_of_ble_eq_true rfl) (by rw [hR]; exact ⟨Nat.le_of_ble_eq_true rfl, Nat.le_of_ble_eq_true rfl, show cc + mc ≤ 601024 by omega, show ss + ms ≤ 7293034 by omega⟩) (fun _ _ z => z) (fun v1 h1 hq hE => ?_)
  obtain ⟨rfl, hM⟩ := hq
  obtain ⟨⟨n1, p1, ord1, L1, Γ1, o1, w1, s1, e1⟩, hm⟩ := hJ h1 hM
  rw [← s1.2.2.2]
  refine g_istore dL_law_928 (by decide) rfl ?_
  refine g_aload_n dL_law_930 rfl ?_
  refine g_aload_n dL_law_931 rfl ?_
  refine g_iload dL_law_932 rfl ?_
  refine g_iconst (v := nI 1) dL_law_934 (by decide) ?_
  refine g_iadd dL_law_935 ?_
  rw [nI_add]
  refine w_sald w1 dL_law_936 (by omega) ?_
  rw [e1]
  rw [s1.2.2.2]
  refine g_callV [_] dL_law_937 mc_L_126 mi_X5_count se_X5_count hm (by rw [← s1.2.1]; exact w1.k rfl) rfl rfl (Nat.le_of_ble_eq_true rfl) (by rw [hR]; exact ⟨Nat.le_of_ble_eq_true rfl, Nat.le_of_ble_eq_true rfl, show cc + mc + 0 ≤ 601024 by omega, show ss + ms + 0 ≤ 7293034 by omega⟩) (fun _ _ z => z) (fun v2 h2 hq hE2 => ?_)
  obtain ⟨b, rfl, T2, n2, p2, A2, B2, ord2, L2, Γ2, o2, hT2, w2, r2, s2, e2, e34, hP⟩ := hq
  refine g_istore dL_law_940 (by decide) rfl ?_
  refine g_aload_n dL_law_942 rfl ?_
  have ht := c_X5_thrown hlt w2
  rw [s2.2.1] at ht
  refine g_callV [] dL_law_943 mc_L_73 mi_X5_thrown se_X5_thrown ht (by rw [← s2.2.1]; exact w2.k rfl) rfl rfl (Nat.le_of_ble_eq_true rfl) (by rw [hR]; exact ⟨Nat.le_of_ble_eq_true rfl, Nat.le_of_ble_eq_true rfl, show cc + mc + 0 + 0 ≤ 601024 by omega, show ss + ms + 0 + 0 ≤ 7293034 by omega⟩) (fun _ _ z => z) (fun v3 h3 hq hE3 => ?_)
  obtain ⟨rfl, rfl⟩ := hq
  refine g_iload dL_law_946 rfl ?_
  refine g_icmp_eq 953 dL_law_948 (by decide) (fun _ => ?_) (fun z => absurd e34 z)
  refine g_iload dL_law_953 rfl ?_
  refine g_if_ne 970 dL_law_955 (by decide) (fun _ => ?_) (fun c0 => ?_)
  · refine g_goto 973 dL_law_970 (by decide) ?_
    refine g_ls [(4, .int (nI i)), (3, .ref (L 14 0)), (2, .ref (L 11 0)), (1, .ref (L 5 0)), (0, .ref (L 15 0))] ⟨rfl, rfl, rfl, rfl, rfl, trivial⟩ ?_
    exact next T2 n2 p2 A2 B2 ord2 L2 Γ2 o2 _ _ _ hT2 w2 r2 s2 (by omega) (by omega)
  · skip
    refine g_aload_n dL_law_958 rfl ?_
    refine g_iconst (v := nI 0) dL_law_959 (by decide) ?_
    rw [← s2.2.2.1]
    refine w_lald w2 dL_law_960 ?_
    rw [s2.2.2.1]
    refine g_iload dL_law_961 rfl ?_
    refine g_i2l dL_law_963 rfl ?_
    refine g_lcmp dL_law_964 ?_
    refine g_if_eq 970 dL_law_965 (by decide) (fun _ => ?_) (fun z => absurd (lcmp0 (hP c0)) z)
    refine g_goto 973 dL_law_970 (by decide) ?_
    refine g_ls [(4, .int (nI i)), (3, .ref (L 14 0)), (2, .ref (L 11 0)), (1, .ref (L 5 0)), (0, .ref (L 15 0))] ⟨rfl, rfl, rfl, rfl, rfl, trivial⟩ ?_
    exact next T2 n2 p2 A2 B2 ord2 L2 Γ2 o2 _ _ _ hT2 w2 r2 s2 (by omega) (by omega)
