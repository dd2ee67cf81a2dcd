theorem and15 (x : Int32) : ∃ t, t < 16 ∧ x &&& 15 = nI t := by
  refine ⟨(x &&& 15).toBitVec.toNat, ?_, ?_⟩
  · have h : (x &&& 15).toBitVec.toNat = x.toBitVec.toNat &&& 15 := by
      rw [Int32.toBitVec_and, BitVec.toNat_and]
      rfl
    rw [h]
    exact Nat.lt_succ_of_le Nat.and_le_right
  · apply Int32.toBitVec_inj.mp
    show (x &&& 15).toBitVec = BitVec.ofNat 32 _
    exact (BitVec.ofNat_toNat 32 (x &&& 15).toBitVec).symm ▸ (by simp)
set_option maxRecDepth 100000 in
set_option maxHeartbeats 4000000 in
theorem law_loop {k : am_X} {nm : String} {ret : Option FieldType} {Q : State → Prop} (hR : am_kR k = room_1) (hlt : (am_kl k).stackTraces = false) (hend : ∀ (cc ss : Nat) (ls : List (Nat × Value)) (h : am_H), cc ≤ 601024 → ss ≤ 7293034 → am_G k RL nm cL_law 7 ret cc ss Q 980 ls [.int 1] h) {N : Nat} : ∀ (f : Nat) {n p T : Nat} {A B : Nat → Nat} {ord : List Nat} {L : Nat → Nat → Nat} {Γ : Nat → Nat → Nat → Int32} {o : Int64} {h : am_H} (i cc ss : Nat), WI N n p ord L Γ o h → RI T n p A B ord Γ → T ≤ i → i ≤ N → N + 4 ≤ i + 4 * f → cc ≤ 50 + 2 * i → ss ≤ 500 + 200 * i → am_G k RL nm cL_law 7 ret cc ss Q 23 [(4, .int (nI i)), (3, .ref (L 14 0)), (2, .ref (L 11 0)), (1, .ref (L 5 0)), (0, .ref (L 15 0))] [] h
  | 0, n, p, T, A, B, ord, L, Γ, o, h, i, cc, ss, w, hr, hT, hi, hf, hcc, hss => by omega
  | f + 1, n, p, T, A, B, ord, L, Γ, o, h, i, cc, ss, w, hr, hT, hi, hf, hcc, hss => by
    have hN := w.1.2.2.1
    refine g_iload dL_law_23 rfl ?_
    refine g_aload_n dL_law_25 rfl ?_
    refine w_alenS w dL_law_26 ?_
    refine g_iconst (v := nI 4) dL_law_27 (by decide) ?_
    refine g_isub dL_law_28 ?_
    refine g_icmp_gt 979 dL_law_29 (by decide) (fun _ => ?_) (fun c => ?_)
    · refine g_iconst (v := 1) dL_law_979 (by decide) ?_
      exact hend _ _ _ _ (by omega) (by omega)
    · have hi4 : i + 4 ≤ N := by
        rw [Int32.lt_iff_toInt_lt, tI_sub (by rw [nI_toInt (by omega), nI_toInt (by omega)]; omega) (by rw [nI_toInt (by omega), nI_toInt (by omega)]; omega), nI_toInt (by omega), nI_toInt (by omega), nI_toInt (by omega)] at c
        omega
      have nx : ∀ (T' n' p' : Nat) (A' B' : Nat → Nat) (ord' : List Nat) (L' : Nat → Nat → Nat) (Γ' : Nat → Nat → Nat → Int32) (o' : Int64) (h' : am_H) (cc' ss' : Nat), T' ≤ T + 1 → WI N n' p' ord' L' Γ' o' h' → RI T' n' p' A' B' ord' Γ' → sm L L' → cc' ≤ cc + 8 → ss' ≤ ss + 800 → am_G k RL nm cL_law 7 ret cc' ss' Q 973 [(4, .int (nI i)), (3, .ref (L 14 0)), (2, .ref (L 11 0)), (1, .ref (L 5 0)), (0, .ref (L 15 0))] [] h' := fun T' n' p' A' B' ord' L' Γ' o' h' cc' ss' hT' w' hr' s' hc' hs' => by
        refine g_iinc (v := nI (i + 4)) dL_law_973 rfl (nI_add i 4) (by decide) rfl ?_
        refine g_goto 23 dL_law_976 (by decide) ?_
        refine g_ls [(4, .int (nI (i + 4))), (3, .ref (L 14 0)), (2, .ref (L 11 0)), (1, .ref (L 5 0)), (0, .ref (L 15 0))] ⟨rfl, rfl, rfl, rfl, rfl, trivial⟩ ?_
        rw [← s'.1, ← s'.2.1, ← s'.2.2.1, ← s'.2.2.2]
        exact law_loop hR hlt hend f (i + 4) cc' ss' w' hr' (by omega) hi4 (by omega) (by omega) (by omega)
      refine g_aload_n dL_law_32 rfl ?_
      refine g_iload dL_law_33 rfl ?_
      refine w_sald w dL_law_35 (by omega) ?_
      refine g_bipush (v := 15) dL_law_36 (by decide) ?_
      refine g_iand dL_law_38 ?_
      obtain ⟨t, ht, et⟩ := and15 (Γ 15 0 i)
      rw [et]
      rcases t with _ | _ | _ | _ | _ | _ | _ | _ | _ | _ | _ | _ | _ | _ | _ | _ | t
      · refine g_tableIn 116 dL_law_39 (by decide) (by decide) rfl (by decide) ?_
        exact law_c0 hR hlt w hr (by omega) hi4 (by omega) (by omega) nx
      · refine g_tableIn 184 dL_law_39 (by decide) (by decide) rfl (by decide) ?_
        exact law_c1 hR hlt w hr (by omega) hi4 (by omega) (by omega) nx
      · refine g_tableIn 264 dL_law_39 (by decide) (by decide) rfl (by decide) ?_
        exact law_c2 hR hlt w hr (by omega) hi4 (by omega) (by omega) nx
      · refine g_tableIn 320 dL_law_39 (by decide) (by decide) rfl (by decide) ?_
        exact law_c3 hR hlt w hr (by omega) hi4 (by omega) (by omega) nx
      · refine g_tableIn 388 dL_law_39 (by decide) (by decide) rfl (by decide) ?_
        exact law_c4 hR hlt w hr (by omega) hi4 (by omega) (by omega) nx
      · refine g_tableIn 468 dL_law_39 (by decide) (by decide) rfl (by decide) ?_
        exact law_c5 hR hlt w hr (by omega) hi4 (by omega) (by omega) nx
      · refine g_tableIn 519 dL_law_39 (by decide) (by decide) rfl (by decide) ?_
        exact law_c6 hR hlt w hr (by omega) hi4 (by omega) (by omega) nx
      · refine g_tableIn 575 dL_law_39 (by decide) (by decide) rfl (by decide) ?_
        exact law_c7 hR hlt w hr (by omega) hi4 (by omega) (by omega) nx
      · refine g_tableIn 611 dL_law_39 (by decide) (by decide) rfl (by decide) ?_
        exact law_c8 hR hlt w hr (by omega) hi4 (by omega) (by omega) nx
      · refine g_tableIn 655 dL_law_39 (by decide) (by decide) rfl (by decide) ?_
        exact law_c9 hR hlt w hr (by omega) hi4 (by omega) (by omega) nx
      · refine g_tableIn 668 dL_law_39 (by decide) (by decide) rfl (by decide) ?_
        exact law_c10 hR hlt w hr (by omega) hi4 (by omega) (by omega) nx
      · refine g_tableIn 681 dL_law_39 (by decide) (by decide) rfl (by decide) ?_
        exact law_c11 hR hlt w hr (by omega) hi4 (by omega) (by omega) nx
      · refine g_tableIn 749 dL_law_39 (by decide) (by decide) rfl (by decide) ?_
        exact law_c12 hR hlt w hr (by omega) hi4 (by omega) (by omega) nx
      · refine g_tableIn 805 dL_law_39 (by decide) (by decide) rfl (by decide) ?_
        exact law_c13 hR hlt w hr (by omega) hi4 (by omega) (by omega) nx
      · refine g_tableIn 861 dL_law_39 (by decide) (by decide) rfl (by decide) ?_
        exact law_c14 hR hlt w hr (by omega) hi4 (by omega) (by omega) nx
      · refine g_tableIn 917 dL_law_39 (by decide) (by decide) rfl (by decide) ?_
        exact law_c15 hR hlt w hr (by omega) hi4 (by omega) (by omega) nx
      · omega
