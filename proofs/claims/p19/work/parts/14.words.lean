theorem am_in {ws : List Cond} (ps : List Nat) (h : ws.map some = ps.map (fun i => lw_tbl[i]?)) (g : ws.all goodWord = true) : ∀ w ∈ ws, w ∈ am_WS := by
  intro w hw
  refine List.mem_filter.mpr ⟨?_, List.all_eq_true.mp g w hw⟩
  obtain ⟨i, hi⟩ := List.getElem?_of_mem hw
  have h1 : (ws.map some)[i]? = some (some w) := by rw [List.getElem?_map, hi]; rfl
  rw [h, List.getElem?_map] at h1
  cases hp : ps[i]? with
  | none => rw [hp] at h1; cases h1
  | some j => rw [hp] at h1; exact List.mem_of_getElem? (Option.some.inj h1)
theorem uw_X0 : ∀ w ∈ u_ws RX0 TX0 4, w ∈ am_WS := am_in [277, 279, 281, 283] (by decide +kernel) (by decide +kernel)
theorem cl_X0 : am_cl 0 (RX0, TX0, 4) := ⟨rfl, uw_X0, tyX0_ok, by decide +kernel, am_ws (i := 261) (by decide +kernel) rfl, am_ws (i := 31) (by decide +kernel) rfl⟩
theorem uw_X1 : ∀ w ∈ u_ws RX1 TX1 14, w ∈ am_WS := am_in [312, 314, 316, 318, 320, 322, 324, 326, 328, 330, 332, 334, 336, 338] (by decide +kernel) (by decide +kernel)
theorem cl_X1 : am_cl 1 (RX1, TX1, 14) := ⟨rfl, uw_X1, tyX1_ok, by decide +kernel, am_ws (i := 255) (by decide +kernel) rfl, am_ws (i := 30) (by decide +kernel) rfl⟩
theorem uw_X2 : ∀ w ∈ u_ws RX2 TX2 7, w ∈ am_WS := am_in [103, 105, 107, 109, 111, 113, 115] (by decide +kernel) (by decide +kernel)
theorem cl_X2 : am_cl 2 (RX2, TX2, 7) := ⟨rfl, uw_X2, tyX2_ok, by decide +kernel, am_ws (i := 85) (by decide +kernel) rfl, am_ws (i := 24) (by decide +kernel) rfl⟩
theorem uw_X3 : ∀ w ∈ u_ws RX3 TX3 4, w ∈ am_WS := am_in [440, 442, 444, 446] (by decide +kernel) (by decide +kernel)
theorem cl_X3 : am_cl 3 (RX3, TX3, 4) := ⟨rfl, uw_X3, tyX3_ok, by decide +kernel, am_ws (i := 426) (by decide +kernel) rfl, am_ws (i := 37) (by decide +kernel) rfl⟩
theorem uw_X4 : ∀ w ∈ u_ws RX4 TX4 9, w ∈ am_WS := am_in [128, 130, 132, 134, 136, 138, 140, 142, 144] (by decide +kernel) (by decide +kernel)
theorem cl_X4 : am_cl 4 (RX4, TX4, 9) := ⟨rfl, uw_X4, tyX4_ok, by decide +kernel, am_ws (i := 51) (by decide +kernel) rfl, am_ws (i := 20) (by decide +kernel) rfl⟩
theorem uw_AL : ∀ w ∈ u_ws RJx4a65c TJx4a65c 3, w ∈ am_WS := am_in [81, 77, 79] (by decide +kernel) (by decide +kernel)
theorem cl_AL : am_cl 6 (RJx4a65c, TJx4a65c, 3) := ⟨rfl, uw_AL, tyJx4a65c_ok, by decide +kernel, am_ws (i := 59) (by decide +kernel) rfl, am_ws (i := 23) (by decide +kernel) rfl⟩
theorem fl_AL_9 : am_fl RJx4a65c 9 6 1 601 := ⟨rfl, (RJx4a65c, TJx4a65c, 3), "java/util/ArrayList", rfl, by decide, uw_AL, tyJx4a65c_ok, nmJx4a65c, am_ws (i := 72) (by decide +kernel) rfl, Or.inl rfl⟩
theorem fl_AL_48 : am_fl RJx4a65c 48 6 2 602 := ⟨rfl, (RJx4a65c, TJx4a65c, 3), "java/util/ArrayList", rfl, by decide, uw_AL, tyJx4a65c_ok, nmJx4a65c, am_ws (i := 73) (by decide +kernel) rfl, Or.inl rfl⟩
theorem fl_JL_7 : am_fl RJxc12de 7 6 0 600 := ⟨rfl, (RJx4a65c, TJx4a65c, 3), "java/util/AbstractList", rfl, by decide, uw_AL, tyJx4a65c_ok, nmJx4a65c, am_ws (i := 74) (by decide +kernel) rfl, Or.inl rfl⟩
theorem fl_AL_63 : am_fl RJx4a65c 63 6 0 600 := ⟨rfl, (RJx4a65c, TJx4a65c, 3), "java/util/ArrayList", rfl, by decide, uw_AL, tyJx4a65c_ok, nmJx4a65c, am_ws (i := 75) (by decide +kernel) rfl, Or.inr (am_ws (i := 76) (by decide +kernel) rfl)⟩
theorem fl_X2_12 : am_fl RX2 12 2 0 200 := ⟨rfl, (RX2, TX2, 7), "PipewrightExchange$Net", rfl, by decide, uw_X2, tyX2_ok, nmX2, am_ws (i := 94) (by decide +kernel) rfl, Or.inl rfl⟩
theorem fl_X4_86 : am_fl RX4 86 2 0 200 := ⟨rfl, (RX2, TX2, 7), "PipewrightExchange$Net", rfl, by decide, uw_X2, tyX2_ok, nmX2, am_ws (i := 95) (by decide +kernel) rfl, Or.inl rfl⟩
theorem fl_X2_18 : am_fl RX2 18 2 1 201 := ⟨rfl, (RX2, TX2, 7), "PipewrightExchange$Net", rfl, by decide, uw_X2, tyX2_ok, nmX2, am_ws (i := 96) (by decide +kernel) rfl, Or.inl rfl⟩
theorem fl_X4_98 : am_fl RX4 98 2 1 201 := ⟨rfl, (RX2, TX2, 7), "PipewrightExchange$Net", rfl, by decide, uw_X2, tyX2_ok, nmX2, am_ws (i := 97) (by decide +kernel) rfl, Or.inl rfl⟩
theorem fl_X2_22 : am_fl RX2 22 2 2 202 := ⟨rfl, (RX2, TX2, 7), "PipewrightExchange$Net", rfl, by decide, uw_X2, tyX2_ok, nmX2, am_ws (i := 98) (by decide +kernel) rfl, Or.inl rfl⟩
theorem fl_X2_27 : am_fl RX2 27 2 3 203 := ⟨rfl, (RX2, TX2, 7), "PipewrightExchange$Net", rfl, by decide, uw_X2, tyX2_ok, nmX2, am_ws (i := 99) (by decide +kernel) rfl, Or.inl rfl⟩
theorem fl_X2_30 : am_fl RX2 30 2 4 204 := ⟨rfl, (RX2, TX2, 7), "PipewrightExchange$Net", rfl, by decide, uw_X2, tyX2_ok, nmX2, am_ws (i := 100) (by decide +kernel) rfl, Or.inl rfl⟩
theorem fl_X2_34 : am_fl RX2 34 2 5 205 := ⟨rfl, (RX2, TX2, 7), "PipewrightExchange$Net", rfl, by decide, uw_X2, tyX2_ok, nmX2, am_ws (i := 101) (by decide +kernel) rfl, Or.inl rfl⟩
theorem fl_X2_37 : am_fl RX2 37 2 6 206 := ⟨rfl, (RX2, TX2, 7), "PipewrightExchange$Net", rfl, by decide, uw_X2, tyX2_ok, nmX2, am_ws (i := 102) (by decide +kernel) rfl, Or.inl rfl⟩
theorem fl_X4_12 : am_fl RX4 12 4 0 400 := ⟨rfl, (RX4, TX4, 9), "PipewrightExchange", rfl, by decide, uw_X4, tyX4_ok, nmX4, am_ws (i := 119) (by decide +kernel) rfl, Or.inl rfl⟩
theorem fl_X4_19 : am_fl RX4 19 4 1 401 := ⟨rfl, (RX4, TX4, 9), "PipewrightExchange", rfl, by decide, uw_X4, tyX4_ok, nmX4, am_ws (i := 120) (by decide +kernel) rfl, Or.inl rfl⟩
theorem fl_X4_23 : am_fl RX4 23 4 2 402 := ⟨rfl, (RX4, TX4, 9), "PipewrightExchange", rfl, by decide, uw_X4, tyX4_ok, nmX4, am_ws (i := 121) (by decide +kernel) rfl, Or.inl rfl⟩
theorem fl_X4_26 : am_fl RX4 26 4 3 403 := ⟨rfl, (RX4, TX4, 9), "PipewrightExchange", rfl, by decide, uw_X4, tyX4_ok, nmX4, am_ws (i := 122) (by decide +kernel) rfl, Or.inl rfl⟩
theorem fl_X4_30 : am_fl RX4 30 4 4 404 := ⟨rfl, (RX4, TX4, 9), "PipewrightExchange", rfl, by decide, uw_X4, tyX4_ok, nmX4, am_ws (i := 123) (by decide +kernel) rfl, Or.inl rfl⟩
theorem fl_X4_33 : am_fl RX4 33 4 5 405 := ⟨rfl, (RX4, TX4, 9), "PipewrightExchange", rfl, by decide, uw_X4, tyX4_ok, nmX4, am_ws (i := 124) (by decide +kernel) rfl, Or.inl rfl⟩
theorem fl_X4_37 : am_fl RX4 37 4 6 406 := ⟨rfl, (RX4, TX4, 9), "PipewrightExchange", rfl, by decide, uw_X4, tyX4_ok, nmX4, am_ws (i := 125) (by decide +kernel) rfl, Or.inl rfl⟩
theorem fl_X4_40 : am_fl RX4 40 4 7 407 := ⟨rfl, (RX4, TX4, 9), "PipewrightExchange", rfl, by decide, uw_X4, tyX4_ok, nmX4, am_ws (i := 126) (by decide +kernel) rfl, Or.inl rfl⟩
theorem fl_X4_43 : am_fl RX4 43 4 8 408 := ⟨rfl, (RX4, TX4, 9), "PipewrightExchange", rfl, by decide, uw_X4, tyX4_ok, nmX4, am_ws (i := 127) (by decide +kernel) rfl, Or.inl rfl⟩
theorem fl_X0_7 : am_fl RX0 7 0 0 0 := ⟨rfl, (RX0, TX0, 4), "PipewrightExchange$Bid", rfl, by decide, uw_X0, tyX0_ok, nmX0, am_ws (i := 266) (by decide +kernel) rfl, Or.inl rfl⟩
theorem fl_X1_57 : am_fl RX1 57 0 0 0 := ⟨rfl, (RX0, TX0, 4), "PipewrightExchange$Bid", rfl, by decide, uw_X0, tyX0_ok, nmX0, am_ws (i := 267) (by decide +kernel) rfl, Or.inl rfl⟩
theorem fl_X4_116 : am_fl RX4 116 0 0 0 := ⟨rfl, (RX0, TX0, 4), "PipewrightExchange$Bid", rfl, by decide, uw_X0, tyX0_ok, nmX0, am_ws (i := 268) (by decide +kernel) rfl, Or.inl rfl⟩
theorem fl_X0_13 : am_fl RX0 13 0 1 1 := ⟨rfl, (RX0, TX0, 4), "PipewrightExchange$Bid", rfl, by decide, uw_X0, tyX0_ok, nmX0, am_ws (i := 269) (by decide +kernel) rfl, Or.inl rfl⟩
theorem fl_X1_60 : am_fl RX1 60 0 1 1 := ⟨rfl, (RX0, TX0, 4), "PipewrightExchange$Bid", rfl, by decide, uw_X0, tyX0_ok, nmX0, am_ws (i := 270) (by decide +kernel) rfl, Or.inl rfl⟩
theorem fl_X4_121 : am_fl RX4 121 0 1 1 := ⟨rfl, (RX0, TX0, 4), "PipewrightExchange$Bid", rfl, by decide, uw_X0, tyX0_ok, nmX0, am_ws (i := 271) (by decide +kernel) rfl, Or.inl rfl⟩
theorem fl_X0_17 : am_fl RX0 17 0 2 2 := ⟨rfl, (RX0, TX0, 4), "PipewrightExchange$Bid", rfl, by decide, uw_X0, tyX0_ok, nmX0, am_ws (i := 272) (by decide +kernel) rfl, Or.inl rfl⟩
theorem fl_X1_63 : am_fl RX1 63 0 2 2 := ⟨rfl, (RX0, TX0, 4), "PipewrightExchange$Bid", rfl, by decide, uw_X0, tyX0_ok, nmX0, am_ws (i := 273) (by decide +kernel) rfl, Or.inl rfl⟩
theorem fl_X4_178 : am_fl RX4 178 0 2 2 := ⟨rfl, (RX0, TX0, 4), "PipewrightExchange$Bid", rfl, by decide, uw_X0, tyX0_ok, nmX0, am_ws (i := 274) (by decide +kernel) rfl, Or.inl rfl⟩
theorem fl_X0_20 : am_fl RX0 20 0 3 3 := ⟨rfl, (RX0, TX0, 4), "PipewrightExchange$Bid", rfl, by decide, uw_X0, tyX0_ok, nmX0, am_ws (i := 275) (by decide +kernel) rfl, Or.inl rfl⟩
theorem fl_X1_66 : am_fl RX1 66 0 3 3 := ⟨rfl, (RX0, TX0, 4), "PipewrightExchange$Bid", rfl, by decide, uw_X0, tyX0_ok, nmX0, am_ws (i := 276) (by decide +kernel) rfl, Or.inl rfl⟩
theorem fl_X1_48 : am_fl RX1 48 1 0 100 := ⟨rfl, (RX1, TX1, 14), "PipewrightExchange$District", rfl, by decide, uw_X1, tyX1_ok, nmX1, am_ws (i := 286) (by decide +kernel) rfl, Or.inl rfl⟩
theorem fl_X4_211 : am_fl RX4 211 1 0 100 := ⟨rfl, (RX1, TX1, 14), "PipewrightExchange$District", rfl, by decide, uw_X1, tyX1_ok, nmX1, am_ws (i := 287) (by decide +kernel) rfl, Or.inl rfl⟩
theorem fl_X1_51 : am_fl RX1 51 1 1 101 := ⟨rfl, (RX1, TX1, 14), "PipewrightExchange$District", rfl, by decide, uw_X1, tyX1_ok, nmX1, am_ws (i := 288) (by decide +kernel) rfl, Or.inl rfl⟩
theorem fl_X1_54 : am_fl RX1 54 1 2 102 := ⟨rfl, (RX1, TX1, 14), "PipewrightExchange$District", rfl, by decide, uw_X1, tyX1_ok, nmX1, am_ws (i := 289) (by decide +kernel) rfl, Or.inl rfl⟩
theorem fl_X4_107 : am_fl RX4 107 1 2 102 := ⟨rfl, (RX1, TX1, 14), "PipewrightExchange$District", rfl, by decide, uw_X1, tyX1_ok, nmX1, am_ws (i := 290) (by decide +kernel) rfl, Or.inl rfl⟩
theorem fl_X1_7 : am_fl RX1 7 1 3 103 := ⟨rfl, (RX1, TX1, 14), "PipewrightExchange$District", rfl, by decide, uw_X1, tyX1_ok, nmX1, am_ws (i := 291) (by decide +kernel) rfl, Or.inl rfl⟩
theorem fl_X4_175 : am_fl RX4 175 1 3 103 := ⟨rfl, (RX1, TX1, 14), "PipewrightExchange$District", rfl, by decide, uw_X1, tyX1_ok, nmX1, am_ws (i := 292) (by decide +kernel) rfl, Or.inl rfl⟩
theorem fl_X1_16 : am_fl RX1 16 1 4 104 := ⟨rfl, (RX1, TX1, 14), "PipewrightExchange$District", rfl, by decide, uw_X1, tyX1_ok, nmX1, am_ws (i := 293) (by decide +kernel) rfl, Or.inl rfl⟩
theorem fl_X4_112 : am_fl RX4 112 1 4 104 := ⟨rfl, (RX1, TX1, 14), "PipewrightExchange$District", rfl, by decide, uw_X1, tyX1_ok, nmX1, am_ws (i := 294) (by decide +kernel) rfl, Or.inl rfl⟩
theorem fl_X1_20 : am_fl RX1 20 1 5 105 := ⟨rfl, (RX1, TX1, 14), "PipewrightExchange$District", rfl, by decide, uw_X1, tyX1_ok, nmX1, am_ws (i := 295) (by decide +kernel) rfl, Or.inl rfl⟩
theorem fl_X4_126 : am_fl RX4 126 1 5 105 := ⟨rfl, (RX1, TX1, 14), "PipewrightExchange$District", rfl, by decide, uw_X1, tyX1_ok, nmX1, am_ws (i := 296) (by decide +kernel) rfl, Or.inl rfl⟩
theorem fl_X1_23 : am_fl RX1 23 1 6 106 := ⟨rfl, (RX1, TX1, 14), "PipewrightExchange$District", rfl, by decide, uw_X1, tyX1_ok, nmX1, am_ws (i := 297) (by decide +kernel) rfl, Or.inl rfl⟩
theorem fl_X1_27 : am_fl RX1 27 1 7 107 := ⟨rfl, (RX1, TX1, 14), "PipewrightExchange$District", rfl, by decide, uw_X1, tyX1_ok, nmX1, am_ws (i := 298) (by decide +kernel) rfl, Or.inl rfl⟩
theorem fl_X4_237 : am_fl RX4 237 1 7 107 := ⟨rfl, (RX1, TX1, 14), "PipewrightExchange$District", rfl, by decide, uw_X1, tyX1_ok, nmX1, am_ws (i := 299) (by decide +kernel) rfl, Or.inl rfl⟩
theorem fl_X1_30 : am_fl RX1 30 1 8 108 := ⟨rfl, (RX1, TX1, 14), "PipewrightExchange$District", rfl, by decide, uw_X1, tyX1_ok, nmX1, am_ws (i := 300) (by decide +kernel) rfl, Or.inl rfl⟩
theorem fl_X4_160 : am_fl RX4 160 1 8 108 := ⟨rfl, (RX1, TX1, 14), "PipewrightExchange$District", rfl, by decide, uw_X1, tyX1_ok, nmX1, am_ws (i := 301) (by decide +kernel) rfl, Or.inl rfl⟩
theorem fl_X1_33 : am_fl RX1 33 1 9 109 := ⟨rfl, (RX1, TX1, 14), "PipewrightExchange$District", rfl, by decide, uw_X1, tyX1_ok, nmX1, am_ws (i := 302) (by decide +kernel) rfl, Or.inl rfl⟩
theorem fl_X4_181 : am_fl RX4 181 1 9 109 := ⟨rfl, (RX1, TX1, 14), "PipewrightExchange$District", rfl, by decide, uw_X1, tyX1_ok, nmX1, am_ws (i := 303) (by decide +kernel) rfl, Or.inl rfl⟩
theorem fl_X1_36 : am_fl RX1 36 1 10 110 := ⟨rfl, (RX1, TX1, 14), "PipewrightExchange$District", rfl, by decide, uw_X1, tyX1_ok, nmX1, am_ws (i := 304) (by decide +kernel) rfl, Or.inl rfl⟩
theorem fl_X4_184 : am_fl RX4 184 1 10 110 := ⟨rfl, (RX1, TX1, 14), "PipewrightExchange$District", rfl, by decide, uw_X1, tyX1_ok, nmX1, am_ws (i := 305) (by decide +kernel) rfl, Or.inl rfl⟩
theorem fl_X1_39 : am_fl RX1 39 1 11 111 := ⟨rfl, (RX1, TX1, 14), "PipewrightExchange$District", rfl, by decide, uw_X1, tyX1_ok, nmX1, am_ws (i := 306) (by decide +kernel) rfl, Or.inl rfl⟩
theorem fl_X4_187 : am_fl RX4 187 1 11 111 := ⟨rfl, (RX1, TX1, 14), "PipewrightExchange$District", rfl, by decide, uw_X1, tyX1_ok, nmX1, am_ws (i := 307) (by decide +kernel) rfl, Or.inl rfl⟩
theorem fl_X1_42 : am_fl RX1 42 1 12 112 := ⟨rfl, (RX1, TX1, 14), "PipewrightExchange$District", rfl, by decide, uw_X1, tyX1_ok, nmX1, am_ws (i := 308) (by decide +kernel) rfl, Or.inl rfl⟩
theorem fl_X4_190 : am_fl RX4 190 1 12 112 := ⟨rfl, (RX1, TX1, 14), "PipewrightExchange$District", rfl, by decide, uw_X1, tyX1_ok, nmX1, am_ws (i := 309) (by decide +kernel) rfl, Or.inl rfl⟩
theorem fl_X1_45 : am_fl RX1 45 1 13 113 := ⟨rfl, (RX1, TX1, 14), "PipewrightExchange$District", rfl, by decide, uw_X1, tyX1_ok, nmX1, am_ws (i := 310) (by decide +kernel) rfl, Or.inl rfl⟩
theorem fl_X4_193 : am_fl RX4 193 1 13 113 := ⟨rfl, (RX1, TX1, 14), "PipewrightExchange$District", rfl, by decide, uw_X1, tyX1_ok, nmX1, am_ws (i := 311) (by decide +kernel) rfl, Or.inl rfl⟩
theorem fl_X3_13 : am_fl RX3 13 3 0 300 := ⟨rfl, (RX3, TX3, 4), "PipewrightExchange$Pipe", rfl, by decide, uw_X3, tyX3_ok, nmX3, am_ws (i := 431) (by decide +kernel) rfl, Or.inl rfl⟩
theorem fl_X2_54 : am_fl RX2 54 3 0 300 := ⟨rfl, (RX3, TX3, 4), "PipewrightExchange$Pipe", rfl, by decide, uw_X3, tyX3_ok, nmX3, am_ws (i := 432) (by decide +kernel) rfl, Or.inl rfl⟩
theorem fl_X3_17 : am_fl RX3 17 3 1 301 := ⟨rfl, (RX3, TX3, 4), "PipewrightExchange$Pipe", rfl, by decide, uw_X3, tyX3_ok, nmX3, am_ws (i := 433) (by decide +kernel) rfl, Or.inl rfl⟩
theorem fl_X2_61 : am_fl RX2 61 3 1 301 := ⟨rfl, (RX3, TX3, 4), "PipewrightExchange$Pipe", rfl, by decide, uw_X3, tyX3_ok, nmX3, am_ws (i := 434) (by decide +kernel) rfl, Or.inl rfl⟩
theorem fl_X3_20 : am_fl RX3 20 3 2 302 := ⟨rfl, (RX3, TX3, 4), "PipewrightExchange$Pipe", rfl, by decide, uw_X3, tyX3_ok, nmX3, am_ws (i := 435) (by decide +kernel) rfl, Or.inl rfl⟩
theorem fl_X2_64 : am_fl RX2 64 3 2 302 := ⟨rfl, (RX3, TX3, 4), "PipewrightExchange$Pipe", rfl, by decide, uw_X3, tyX3_ok, nmX3, am_ws (i := 436) (by decide +kernel) rfl, Or.inl rfl⟩
theorem fl_X3_7 : am_fl RX3 7 3 3 303 := ⟨rfl, (RX3, TX3, 4), "PipewrightExchange$Pipe", rfl, by decide, uw_X3, tyX3_ok, nmX3, am_ws (i := 437) (by decide +kernel) rfl, Or.inl rfl⟩
theorem fl_X2_50 : am_fl RX2 50 3 3 303 := ⟨rfl, (RX3, TX3, 4), "PipewrightExchange$Pipe", rfl, by decide, uw_X3, tyX3_ok, nmX3, am_ws (i := 438) (by decide +kernel) rfl, Or.inl rfl⟩
theorem fl_X4_148 : am_fl RX4 148 3 3 303 := ⟨rfl, (RX3, TX3, 4), "PipewrightExchange$Pipe", rfl, by decide, uw_X3, tyX3_ok, nmX3, am_ws (i := 439) (by decide +kernel) rfl, Or.inl rfl⟩
set_option maxRecDepth 1000000 in
theorem mc_L_118 : am_mc RL 118 yL_exchange cL_exchange 13 (some .boolean) 2 := ⟨am_ws (i := 47) (by decide +kernel) rfl, am_ws (i := 49) (by rfl) rfl, am_ws (i := 19) (by decide +kernel) rfl, ⟨by decide +kernel, by decide +kernel⟩, by decide +kernel⟩
theorem mc_L_89 : am_mc RL 89 yX4_init cX4_init 1 none 0 := ⟨am_ws (i := 52) (by decide +kernel) rfl, am_ws (i := 54) (by decide +kernel) rfl, am_ws (i := 20) (by decide +kernel) rfl, ⟨by decide +kernel, by decide +kernel⟩, by decide +kernel⟩
theorem mc_X4_11 : am_mc RX4 11 yJx4a65c_init_da8c8 cJx4a65c_init_da8c8 1 none 0 := ⟨am_ws (i := 60) (by decide +kernel) rfl, am_ws (i := 62) (by decide +kernel) rfl, am_ws (i := 23) (by decide +kernel) rfl, ⟨by decide +kernel, by decide +kernel⟩, by decide +kernel⟩
theorem mc_AL_1 : am_mc RJx4a65c 1 yJxc12de_init_da8c8 cJxc12de_init_da8c8 1 none 0 := ⟨am_ws (i := 63) (by decide +kernel) rfl, am_ws (i := 65) (by decide +kernel) rfl, am_ws (i := 22) (by decide +kernel) rfl, ⟨by decide +kernel, by decide +kernel⟩, by decide +kernel⟩
theorem mc_JL_1 : am_mc RJxc12de 1 yJxa1e45_init_da8c8 cJxa1e45_init_da8c8 1 none 0 := ⟨am_ws (i := 66) (by decide +kernel) rfl, am_ws (i := 68) (by decide +kernel) rfl, am_ws (i := 21) (by decide +kernel) rfl, ⟨by decide +kernel, by decide +kernel⟩, by decide +kernel⟩
theorem mc_X2_11 : am_mc RX2 11 yJx4a65c_init_da8c8 cJx4a65c_init_da8c8 1 none 0 := ⟨am_ws (i := 91) (by decide +kernel) rfl, am_ws (i := 62) (by decide +kernel) rfl, am_ws (i := 23) (by decide +kernel) rfl, ⟨by decide +kernel, by decide +kernel⟩, by decide +kernel⟩
set_option maxRecDepth 1000000 in
theorem mc_L_90 : am_mc RL 90 yL_draw cL_draw 4 (some .int) 3 := ⟨am_ws (i := 147) (by decide +kernel) rfl, am_ws (i := 149) (by rfl) rfl, am_ws (i := 19) (by decide +kernel) rfl, ⟨by decide +kernel, by decide +kernel⟩, by decide +kernel⟩
theorem mc_L_24 : am_mc RL 24 yX4_source cX4_source 3 (some .int) 1 := ⟨am_ws (i := 153) (by decide +kernel) rfl, am_ws (i := 156) (by decide +kernel) rfl, am_ws (i := 20) (by decide +kernel) rfl, ⟨by decide +kernel, by decide +kernel⟩, by decide +kernel⟩
theorem mc_X4_46 : am_mc RX4 46 yX4_isOutside cX4_isOutside 3 (some .boolean) 3 := ⟨am_ws (i := 157) (by decide +kernel) rfl, am_ws (i := 159) (by decide +kernel) rfl, am_ws (i := 20) (by decide +kernel) rfl, ⟨by decide +kernel, by decide +kernel⟩, by decide +kernel⟩
theorem mc_L_16 : am_mc RL 16 yX4_district cX4_district 4 (some .int) 2 := ⟨am_ws (i := 244) (by decide +kernel) rfl, am_ws (i := 247) (by decide +kernel) rfl, am_ws (i := 20) (by decide +kernel) rfl, ⟨by decide +kernel, by decide +kernel⟩, by decide +kernel⟩
theorem mc_X4_57 : am_mc RX4 57 yJx4a65c_size_8abf5 cJx4a65c_size_8abf5 1 (some .int) 0 := ⟨am_ws (i := 249) (by decide +kernel) rfl, am_ws (i := 252) (by decide +kernel) rfl, am_ws (i := 23) (by decide +kernel) rfl, ⟨by decide +kernel, by decide +kernel⟩, by decide +kernel⟩
theorem mc_X4_68 : am_mc RX4 68 yX1_init cX1_init 4 none 3 := ⟨am_ws (i := 256) (by decide +kernel) rfl, am_ws (i := 258) (by decide +kernel) rfl, am_ws (i := 30) (by decide +kernel) rfl, ⟨by decide +kernel, by decide +kernel⟩, by decide +kernel⟩
theorem mc_X4_71 : am_mc RX4 71 yJx4a65c_add_9ea2d cJx4a65c_add_9ea2d 2 (some .boolean) 1 := ⟨am_ws (i := 341) (by decide +kernel) rfl, am_ws (i := 344) (by decide +kernel) rfl, am_ws (i := 23) (by decide +kernel) rfl, ⟨by decide +kernel, by decide +kernel⟩, by decide +kernel⟩
theorem mc_AL_131 : am_mc RJx4a65c 131 yJx4a65c_add_72be8 cJx4a65c_add_72be8 4 none 3 := ⟨am_ws (i := 345) (by decide +kernel) rfl, am_ws (i := 348) (by decide +kernel) rfl, am_ws (i := 23) (by decide +kernel) rfl, ⟨by decide +kernel, by decide +kernel⟩, by decide +kernel⟩
theorem mc_AL_129 : am_mc RJx4a65c 129 yJx4a65c_grow_d5877 cJx4a65c_grow_d5877 1 (some (.array (.object "java/lang/Object"))) 0 := ⟨am_ws (i := 349) (by decide +kernel) rfl, am_ws (i := 352) (by decide +kernel) rfl, am_ws (i := 23) (by decide +kernel) rfl, ⟨by decide +kernel, by decide +kernel⟩, by decide +kernel⟩
theorem mc_AL_69 : am_mc RJx4a65c 69 yJx4a65c_grow_92f84 cJx4a65c_grow_92f84 4 (some (.array (.object "java/lang/Object"))) 1 := ⟨am_ws (i := 353) (by decide +kernel) rfl, am_ws (i := 356) (by decide +kernel) rfl, am_ws (i := 23) (by decide +kernel) rfl, ⟨by decide +kernel, by decide +kernel⟩, by decide +kernel⟩
theorem mc_AL_73 : am_mc RJx4a65c 73 yJ8_newLength_cabcc cJ8_newLength_cabcc 4 (some .int) 3 := ⟨am_ws (i := 357) (by decide +kernel) rfl, am_ws (i := 359) (by decide +kernel) rfl, am_ws (i := 32) (by decide +kernel) rfl, ⟨by decide +kernel, by decide +kernel⟩, by decide +kernel⟩
theorem mc_JS_194 : am_mc RJ8 194 yJ9_max_7cf53 cJ9_max_7cf53 2 (some .int) 2 := ⟨am_ws (i := 360) (by decide +kernel) rfl, am_ws (i := 362) (by decide +kernel) rfl, am_ws (i := 33) (by decide +kernel) rfl, ⟨by decide +kernel, by decide +kernel⟩, by decide +kernel⟩
theorem mc_JS_201 : am_mc RJ8 201 yJ8_hugeLength_7cf53 cJ8_hugeLength_7cf53 3 (some .int) 2 := ⟨am_ws (i := 364) (by decide +kernel) rfl, am_ws (i := 366) (by decide +kernel) rfl, am_ws (i := 32) (by decide +kernel) rfl, ⟨by decide +kernel, by decide +kernel⟩, by decide +kernel⟩
theorem mc_AL_66 : am_mc RJx4a65c 66 yJ7_copyOf_1904c cJ7_copyOf_1904c 2 (some (.array (.object "java/lang/Object"))) 2 := ⟨am_ws (i := 367) (by decide +kernel) rfl, am_ws (i := 369) (by decide +kernel) rfl, am_ws (i := 34) (by decide +kernel) rfl, ⟨by decide +kernel, by decide +kernel⟩, by decide +kernel⟩
theorem mc_JA_300 : am_mc RJ7 300 yJ7_copyOf_6403c cJ7_copyOf_6403c 4 (some (.array (.object "java/lang/Object"))) 3 := ⟨am_ws (i := 385) (by decide +kernel) rfl, am_ws (i := 387) (by decide +kernel) rfl, am_ws (i := 34) (by decide +kernel) rfl, ⟨by decide +kernel, by decide +kernel⟩, by decide +kernel⟩
theorem mc_JA_304 : am_mc RJ7 304 yJ9_min_7cf53 cJ9_min_7cf53 2 (some .int) 2 := ⟨am_ws (i := 391) (by decide +kernel) rfl, am_ws (i := 393) (by decide +kernel) rfl, am_ws (i := 33) (by decide +kernel) rfl, ⟨by decide +kernel, by decide +kernel⟩, by decide +kernel⟩
theorem mc_AL_79 : am_mc RJx4a65c 79 yJ9_max_7cf53 cJ9_max_7cf53 2 (some .int) 2 := ⟨am_ws (i := 397) (by decide +kernel) rfl, am_ws (i := 362) (by decide +kernel) rfl, am_ws (i := 33) (by decide +kernel) rfl, ⟨by decide +kernel, by decide +kernel⟩, by decide +kernel⟩
theorem mc_L_20 : am_mc RL 20 yX4_pipe cX4_pipe 5 (some .int) 3 := ⟨am_ws (i := 399) (by decide +kernel) rfl, am_ws (i := 402) (by decide +kernel) rfl, am_ws (i := 20) (by decide +kernel) rfl, ⟨by decide +kernel, by decide +kernel⟩, by decide +kernel⟩
theorem mc_X4_75 : am_mc RX4 75 yX4_isNoDistrict cX4_isNoDistrict 2 (some .boolean) 1 := ⟨am_ws (i := 403) (by decide +kernel) rfl, am_ws (i := 406) (by decide +kernel) rfl, am_ws (i := 20) (by decide +kernel) rfl, ⟨by decide +kernel, by decide +kernel⟩, by decide +kernel⟩
theorem mc_X4_93 : am_mc RX4 93 yX3_init cX3_init 4 none 3 := ⟨am_ws (i := 427) (by decide +kernel) rfl, am_ws (i := 429) (by decide +kernel) rfl, am_ws (i := 37) (by decide +kernel) rfl, ⟨by decide +kernel, by decide +kernel⟩, by decide +kernel⟩
set_option maxRecDepth 1000000 in
theorem mc_L_95 : am_mc RL 95 yL_bids cL_bids 8 (some .boolean) 4 := ⟨am_ws (i := 450) (by decide +kernel) rfl, am_ws (i := 452) (by rfl) rfl, am_ws (i := 19) (by decide +kernel) rfl, ⟨by decide +kernel, by decide +kernel⟩, by decide +kernel⟩
theorem mc_L_48 : am_mc RL 48 yX4_ofDistrict cX4_ofDistrict 4 (some .int) 2 := ⟨am_ws (i := 453) (by decide +kernel) rfl, am_ws (i := 456) (by decide +kernel) rfl, am_ws (i := 20) (by decide +kernel) rfl, ⟨by decide +kernel, by decide +kernel⟩, by decide +kernel⟩
theorem mc_X4_103 : am_mc RX4 103 yJx4a65c_get_915e3 cJx4a65c_get_915e3 2 (some (.object "java/lang/Object")) 1 := ⟨am_ws (i := 457) (by decide +kernel) rfl, am_ws (i := 460) (by decide +kernel) rfl, am_ws (i := 23) (by decide +kernel) rfl, ⟨by decide +kernel, by decide +kernel⟩, by decide +kernel⟩
theorem mc_AL_118 : am_mc RJx4a65c 118 yJ15_checkIndex_7cf53 cJ15_checkIndex_7cf53 2 (some .int) 2 := ⟨am_ws (i := 461) (by decide +kernel) rfl, am_ws (i := 463) (by decide +kernel) rfl, am_ws (i := 38) (by decide +kernel) rfl, ⟨by decide +kernel, by decide +kernel⟩, by decide +kernel⟩
theorem mc_JO_105 : am_mc RJ15 105 yJ3_checkIndex_8e157 cJ3_checkIndex_8e157 3 (some .int) 3 := ⟨am_ws (i := 464) (by decide +kernel) rfl, am_ws (i := 466) (by decide +kernel) rfl, am_ws (i := 39) (by decide +kernel) rfl, ⟨by decide +kernel, by decide +kernel⟩, by decide +kernel⟩
theorem mc_AL_123 : am_mc RJx4a65c 123 yJx4a65c_elementData_915e3 cJx4a65c_elementData_915e3 2 (some (.object "java/lang/Object")) 1 := ⟨am_ws (i := 467) (by decide +kernel) rfl, am_ws (i := 470) (by decide +kernel) rfl, am_ws (i := 23) (by decide +kernel) rfl, ⟨by decide +kernel, by decide +kernel⟩, by decide +kernel⟩
theorem mc_L_28 : am_mc RL 28 yX4_bid cX4_bid 5 (some .int) 3 := ⟨am_ws (i := 478) (by decide +kernel) rfl, am_ws (i := 481) (by decide +kernel) rfl, am_ws (i := 20) (by decide +kernel) rfl, ⟨by decide +kernel, by decide +kernel⟩, by decide +kernel⟩
theorem mc_X4_129 : am_mc RX4 129 yX0_set cX0_set 4 none 3 := ⟨am_ws (i := 484) (by decide +kernel) rfl, am_ws (i := 487) (by decide +kernel) rfl, am_ws (i := 31) (by decide +kernel) rfl, ⟨by decide +kernel, by decide +kernel⟩, by decide +kernel⟩
theorem mc_L_31 : am_mc RL 31 yX4_close cX4_close 3 (some .boolean) 0 := ⟨am_ws (i := 488) (by decide +kernel) rfl, am_ws (i := 491) (by decide +kernel) rfl, am_ws (i := 20) (by decide +kernel) rfl, ⟨by decide +kernel, by decide +kernel⟩, by decide +kernel⟩
theorem mc_X4_134 : am_mc RX4 134 yX1_settleRound cX1_settleRound 1 none 0 := ⟨am_ws (i := 493) (by decide +kernel) rfl, am_ws (i := 496) (by decide +kernel) rfl, am_ws (i := 30) (by decide +kernel) rfl, ⟨by decide +kernel, by decide +kernel⟩, by decide +kernel⟩
theorem mc_X1_69 : am_mc RX1 69 yX0_set cX0_set 4 none 3 := ⟨am_ws (i := 497) (by decide +kernel) rfl, am_ws (i := 487) (by decide +kernel) rfl, am_ws (i := 31) (by decide +kernel) rfl, ⟨by decide +kernel, by decide +kernel⟩, by decide +kernel⟩
theorem mc_X4_137 : am_mc RX4 137 yX4_orderBids cX4_orderBids 3 none 0 := ⟨am_ws (i := 498) (by decide +kernel) rfl, am_ws (i := 501) (by decide +kernel) rfl, am_ws (i := 20) (by decide +kernel) rfl, ⟨by decide +kernel, by decide +kernel⟩, by decide +kernel⟩
theorem mc_X4_172 : am_mc RX4 172 yJx4a65c_clear_da8c8 cJx4a65c_clear_da8c8 4 none 0 := ⟨am_ws (i := 502) (by decide +kernel) rfl, am_ws (i := 505) (by decide +kernel) rfl, am_ws (i := 23) (by decide +kernel) rfl, ⟨by decide +kernel, by decide +kernel⟩, by decide +kernel⟩
theorem mc_X4_198 : am_mc RX4 198 yX4_bidsAheadOf cX4_bidsAheadOf 4 (some .int) 1 := ⟨am_ws (i := 506) (by decide +kernel) rfl, am_ws (i := 509) (by decide +kernel) rfl, am_ws (i := 20) (by decide +kernel) rfl, ⟨by decide +kernel, by decide +kernel⟩, by decide +kernel⟩
theorem mc_X4_233 : am_mc RX4 233 yX0_isAheadOf cX0_isAheadOf 2 (some .boolean) 1 := ⟨am_ws (i := 510) (by decide +kernel) rfl, am_ws (i := 513) (by decide +kernel) rfl, am_ws (i := 31) (by decide +kernel) rfl, ⟨by decide +kernel, by decide +kernel⟩, by decide +kernel⟩
theorem mc_X4_230 : am_mc RX4 230 yJx4a65c_add_7a177 cJx4a65c_add_7a177 5 none 2 := ⟨am_ws (i := 514) (by decide +kernel) rfl, am_ws (i := 517) (by decide +kernel) rfl, am_ws (i := 23) (by decide +kernel) rfl, ⟨by decide +kernel, by decide +kernel⟩, by decide +kernel⟩
theorem mc_AL_135 : am_mc RJx4a65c 135 yJx4a65c_rangeCheckForAdd_d00df cJx4a65c_rangeCheckForAdd_d00df 2 none 1 := ⟨am_ws (i := 518) (by decide +kernel) rfl, am_ws (i := 521) (by decide +kernel) rfl, am_ws (i := 23) (by decide +kernel) rfl, ⟨by decide +kernel, by decide +kernel⟩, by decide +kernel⟩
theorem mc_AL_198 : am_mc RJx4a65c 198 yJx4a65c_outOfBoundsMsg_b52d3 cJx4a65c_outOfBoundsMsg_b52d3 2 (some (.object "java/lang/String")) 1 := ⟨am_ws (i := 523) (by decide +kernel) rfl, am_ws (i := 526) (by decide +kernel) rfl, am_ws (i := 23) (by decide +kernel) rfl, ⟨by decide +kernel, by decide +kernel⟩, by decide +kernel⟩
theorem mc_AL_22 : am_mc RJx4a65c 22 yJ4_init_da8c8 cJ4_init_da8c8 1 none 0 := ⟨am_ws (i := 529) (by decide +kernel) rfl, am_ws (i := 531) (by decide +kernel) rfl, am_ws (i := 41) (by decide +kernel) rfl, ⟨by decide +kernel, by decide +kernel⟩, by decide +kernel⟩
theorem mc_AL_25 : am_mc RJx4a65c 25 yJ4_append_15ec4 cJ4_append_15ec4 2 (some (.object "java/lang/StringBuilder")) 1 := ⟨am_ws (i := 559) (by decide +kernel) rfl, am_ws (i := 562) (by decide +kernel) rfl, am_ws (i := 41) (by decide +kernel) rfl, ⟨by decide +kernel, by decide +kernel⟩, by decide +kernel⟩
theorem mc_AL_29 : am_mc RJx4a65c 29 yJ4_append_bf812 cJ4_append_bf812 2 (some (.object "java/lang/StringBuilder")) 1 := ⟨am_ws (i := 664) (by decide +kernel) rfl, am_ws (i := 667) (by decide +kernel) rfl, am_ws (i := 41) (by decide +kernel) rfl, ⟨by decide +kernel, by decide +kernel⟩, by decide +kernel⟩
theorem mc_AL_32 : am_mc RJx4a65c 32 yJ4_toString_0e30d cJ4_toString_0e30d 1 (some (.object "java/lang/String")) 0 := ⟨am_ws (i := 690) (by decide +kernel) rfl, am_ws (i := 693) (by decide +kernel) rfl, am_ws (i := 41) (by decide +kernel) rfl, ⟨by decide +kernel, by decide +kernel⟩, by decide +kernel⟩
theorem mc_JA_339 : am_mc RJ7 339 yJ7_copyOfRangeByte_39247 cJ7_copyOfRangeByte_39247 5 (some (.array .byte)) 3 := ⟨am_ws (i := 720) (by decide +kernel) rfl, am_ws (i := 722) (by decide +kernel) rfl, am_ws (i := 34) (by decide +kernel) rfl, ⟨by decide +kernel, by decide +kernel⟩, by decide +kernel⟩
theorem mc_JA_343 : am_mc RJ7 343 yJ7_checkLength_df160 cJ7_checkLength_df160 2 none 2 := ⟨am_ws (i := 723) (by decide +kernel) rfl, am_ws (i := 725) (by decide +kernel) rfl, am_ws (i := 34) (by decide +kernel) rfl, ⟨by decide +kernel, by decide +kernel⟩, by decide +kernel⟩
theorem mc_JA_47 : am_mc RJ7 47 yJ4_init_da8c8 cJ4_init_da8c8 1 none 0 := ⟨am_ws (i := 728) (by decide +kernel) rfl, am_ws (i := 531) (by decide +kernel) rfl, am_ws (i := 41) (by decide +kernel) rfl, ⟨by decide +kernel, by decide +kernel⟩, by decide +kernel⟩
theorem mc_JA_54 : am_mc RJ7 54 yJ4_append_bf812 cJ4_append_bf812 2 (some (.object "java/lang/StringBuilder")) 1 := ⟨am_ws (i := 729) (by decide +kernel) rfl, am_ws (i := 667) (by decide +kernel) rfl, am_ws (i := 41) (by decide +kernel) rfl, ⟨by decide +kernel, by decide +kernel⟩, by decide +kernel⟩
theorem mc_JA_50 : am_mc RJ7 50 yJ4_append_15ec4 cJ4_append_15ec4 2 (some (.object "java/lang/StringBuilder")) 1 := ⟨am_ws (i := 731) (by decide +kernel) rfl, am_ws (i := 562) (by decide +kernel) rfl, am_ws (i := 41) (by decide +kernel) rfl, ⟨by decide +kernel, by decide +kernel⟩, by decide +kernel⟩
theorem mc_JA_61 : am_mc RJ7 61 yJ4_toString_0e30d cJ4_toString_0e30d 1 (some (.object "java/lang/String")) 0 := ⟨am_ws (i := 732) (by decide +kernel) rfl, am_ws (i := 693) (by decide +kernel) rfl, am_ws (i := 41) (by decide +kernel) rfl, ⟨by decide +kernel, by decide +kernel⟩, by decide +kernel⟩
theorem mc_X4_140 : am_mc RX4 140 yX4_beginFlowing cX4_beginFlowing 3 none 0 := ⟨am_ws (i := 760) (by decide +kernel) rfl, am_ws (i := 763) (by decide +kernel) rfl, am_ws (i := 20) (by decide +kernel) rfl, ⟨by decide +kernel, by decide +kernel⟩, by decide +kernel⟩
theorem mc_X4_240 : am_mc RX4 240 yX4_findFlows cX4_findFlows 3 none 0 := ⟨am_ws (i := 764) (by decide +kernel) rfl, am_ws (i := 767) (by decide +kernel) rfl, am_ws (i := 20) (by decide +kernel) rfl, ⟨by decide +kernel, by decide +kernel⟩, by decide +kernel⟩
theorem mc_X4_208 : am_mc RX4 208 yX2_empty cX2_empty 3 none 0 := ⟨am_ws (i := 768) (by decide +kernel) rfl, am_ws (i := 771) (by decide +kernel) rfl, am_ws (i := 24) (by decide +kernel) rfl, ⟨by decide +kernel, by decide +kernel⟩, by decide +kernel⟩
theorem mc_X2_40 : am_mc RX2 40 yJx4a65c_size_8abf5 cJx4a65c_size_8abf5 1 (some .int) 0 := ⟨am_ws (i := 772) (by decide +kernel) rfl, am_ws (i := 252) (by decide +kernel) rfl, am_ws (i := 23) (by decide +kernel) rfl, ⟨by decide +kernel, by decide +kernel⟩, by decide +kernel⟩
theorem mc_X2_44 : am_mc RX2 44 yJx4a65c_get_915e3 cJx4a65c_get_915e3 2 (some (.object "java/lang/Object")) 1 := ⟨am_ws (i := 773) (by decide +kernel) rfl, am_ws (i := 460) (by decide +kernel) rfl, am_ws (i := 23) (by decide +kernel) rfl, ⟨by decide +kernel, by decide +kernel⟩, by decide +kernel⟩
theorem mc_X2_57 : am_mc RX2 57 yX2_isNode cX2_isNode 1 (some .boolean) 1 := ⟨am_ws (i := 775) (by decide +kernel) rfl, am_ws (i := 777) (by decide +kernel) rfl, am_ws (i := 24) (by decide +kernel) rfl, ⟨by decide +kernel, by decide +kernel⟩, by decide +kernel⟩
theorem mc_X4_214 : am_mc RX4 214 yX2_pour cX2_pour 7 (some .int) 2 := ⟨am_ws (i := 778) (by decide +kernel) rfl, am_ws (i := 781) (by decide +kernel) rfl, am_ws (i := 24) (by decide +kernel) rfl, ⟨by decide +kernel, by decide +kernel⟩, by decide +kernel⟩
theorem mc_X2_67 : am_mc RX2 67 yJ9_min_7cf53 cJ9_min_7cf53 2 (some .int) 2 := ⟨am_ws (i := 782) (by decide +kernel) rfl, am_ws (i := 393) (by decide +kernel) rfl, am_ws (i := 33) (by decide +kernel) rfl, ⟨by decide +kernel, by decide +kernel⟩, by decide +kernel⟩
theorem mc_X2_73 : am_mc RX2 73 yX2_findWay cX2_findWay 7 (some .int) 2 := ⟨am_ws (i := 783) (by decide +kernel) rfl, am_ws (i := 786) (by decide +kernel) rfl, am_ws (i := 24) (by decide +kernel) rfl, ⟨by decide +kernel, by decide +kernel⟩, by decide +kernel⟩
theorem mc_X2_76 : am_mc RX2 76 yX2_flowOnWay cX2_flowOnWay 6 none 2 := ⟨am_ws (i := 787) (by decide +kernel) rfl, am_ws (i := 790) (by decide +kernel) rfl, am_ws (i := 24) (by decide +kernel) rfl, ⟨by decide +kernel, by decide +kernel⟩, by decide +kernel⟩
theorem mc_X4_243 : am_mc RX4 243 yX1_pay cX1_pay 1 none 0 := ⟨am_ws (i := 791) (by decide +kernel) rfl, am_ws (i := 794) (by decide +kernel) rfl, am_ws (i := 30) (by decide +kernel) rfl, ⟨by decide +kernel, by decide +kernel⟩, by decide +kernel⟩
theorem mc_L_35 : am_mc RL 35 yX4_burst cX4_burst 3 (some .int) 1 := ⟨am_ws (i := 795) (by decide +kernel) rfl, am_ws (i := 798) (by decide +kernel) rfl, am_ws (i := 20) (by decide +kernel) rfl, ⟨by decide +kernel, by decide +kernel⟩, by decide +kernel⟩
theorem mc_X4_143 : am_mc RX4 143 yX4_isNoPipe cX4_isNoPipe 2 (some .boolean) 1 := ⟨am_ws (i := 799) (by decide +kernel) rfl, am_ws (i := 802) (by decide +kernel) rfl, am_ws (i := 20) (by decide +kernel) rfl, ⟨by decide +kernel, by decide +kernel⟩, by decide +kernel⟩
theorem mc_X4_153 : am_mc RX4 153 yX4_flowLess cX4_flowLess 3 (some .int) 0 := ⟨am_ws (i := 805) (by decide +kernel) rfl, am_ws (i := 808) (by decide +kernel) rfl, am_ws (i := 20) (by decide +kernel) rfl, ⟨by decide +kernel, by decide +kernel⟩, by decide +kernel⟩
theorem mc_X4_246 : am_mc RX4 246 yX1_takeBackPay cX1_takeBackPay 3 (some .int) 0 := ⟨am_ws (i := 809) (by decide +kernel) rfl, am_ws (i := 812) (by decide +kernel) rfl, am_ws (i := 30) (by decide +kernel) rfl, ⟨by decide +kernel, by decide +kernel⟩, by decide +kernel⟩
set_option maxRecDepth 1000000 in
theorem mc_L_38 : am_mc RL 38 yL_mends cL_mends 2 (some .int) 2 := ⟨am_ws (i := 813) (by decide +kernel) rfl, am_ws (i := 815) (by rfl) rfl, am_ws (i := 19) (by decide +kernel) rfl, ⟨by decide +kernel, by decide +kernel⟩, by decide +kernel⟩
theorem mc_L_10 : am_mc RL 10 yX4_repair cX4_repair 3 none 1 := ⟨am_ws (i := 816) (by decide +kernel) rfl, am_ws (i := 819) (by decide +kernel) rfl, am_ws (i := 20) (by decide +kernel) rfl, ⟨by decide +kernel, by decide +kernel⟩, by decide +kernel⟩
theorem mc_L_44 : am_mc RL 44 yX4_end cX4_end 4 (some .int) 0 := ⟨am_ws (i := 821) (by decide +kernel) rfl, am_ws (i := 824) (by decide +kernel) rfl, am_ws (i := 20) (by decide +kernel) rfl, ⟨by decide +kernel, by decide +kernel⟩, by decide +kernel⟩
theorem mc_X4_163 : am_mc RX4 163 yX1_store cX1_store 2 none 0 := ⟨am_ws (i := 826) (by decide +kernel) rfl, am_ws (i := 829) (by decide +kernel) rfl, am_ws (i := 30) (by decide +kernel) rfl, ⟨by decide +kernel, by decide +kernel⟩, by decide +kernel⟩
theorem mc_X1_73 : am_mc RX1 73 yJ9_min_7cf53 cJ9_min_7cf53 2 (some .int) 2 := ⟨am_ws (i := 830) (by decide +kernel) rfl, am_ws (i := 393) (by decide +kernel) rfl, am_ws (i := 33) (by decide +kernel) rfl, ⟨by decide +kernel, by decide +kernel⟩, by decide +kernel⟩
theorem mc_X4_166 : am_mc RX4 166 yX1_takeNeed cX1_takeNeed 3 (some .int) 0 := ⟨am_ws (i := 831) (by decide +kernel) rfl, am_ws (i := 834) (by decide +kernel) rfl, am_ws (i := 30) (by decide +kernel) rfl, ⟨by decide +kernel, by decide +kernel⟩, by decide +kernel⟩
theorem mc_X4_169 : am_mc RX4 169 yX1_beginHour cX1_beginHour 1 none 0 := ⟨am_ws (i := 835) (by decide +kernel) rfl, am_ws (i := 838) (by decide +kernel) rfl, am_ws (i := 30) (by decide +kernel) rfl, ⟨by decide +kernel, by decide +kernel⟩, by decide +kernel⟩
set_option maxRecDepth 1000000 in
theorem mc_L_99 : am_mc RL 99 yL_closes cL_closes 6 (some .boolean) 3 := ⟨am_ws (i := 842) (by decide +kernel) rfl, am_ws (i := 844) (by rfl) rfl, am_ws (i := 19) (by decide +kernel) rfl, ⟨by decide +kernel, by decide +kernel⟩, by decide +kernel⟩
theorem mc_L_63 : am_mc RL 63 yX4_round cX4_round 1 (some .int) 0 := ⟨am_ws (i := 845) (by decide +kernel) rfl, am_ws (i := 848) (by decide +kernel) rfl, am_ws (i := 20) (by decide +kernel) rfl, ⟨by decide +kernel, by decide +kernel⟩, by decide +kernel⟩
set_option maxRecDepth 1000000 in
theorem mc_L_82 : am_mc RL 82 yL_isMost cL_isMost 12 (some .boolean) 3 := ⟨am_ws (i := 849) (by decide +kernel) rfl, am_ws (i := 851) (by rfl) rfl, am_ws (i := 19) (by decide +kernel) rfl, ⟨by decide +kernel, by decide +kernel⟩, by decide +kernel⟩
theorem mc_L_73 : am_mc RL 73 yX4_place cX4_place 3 (some .int) 1 := ⟨am_ws (i := 852) (by decide +kernel) rfl, am_ws (i := 855) (by decide +kernel) rfl, am_ws (i := 20) (by decide +kernel) rfl, ⟨by decide +kernel, by decide +kernel⟩, by decide +kernel⟩
theorem mc_L_79 : am_mc RL 79 yX4_most cX4_most 4 (some .int) 1 := ⟨am_ws (i := 856) (by decide +kernel) rfl, am_ws (i := 859) (by decide +kernel) rfl, am_ws (i := 20) (by decide +kernel) rfl, ⟨by decide +kernel, by decide +kernel⟩, by decide +kernel⟩
set_option maxRecDepth 1000000 in
theorem mc_L_103 : am_mc RL 103 yL_bursts cL_bursts 13 (some .boolean) 5 := ⟨am_ws (i := 861) (by decide +kernel) rfl, am_ws (i := 863) (by rfl) rfl, am_ws (i := 19) (by decide +kernel) rfl, ⟨by decide +kernel, by decide +kernel⟩, by decide +kernel⟩
set_option maxRecDepth 1000000 in
theorem mc_L_107 : am_mc RL 107 yL_ends cL_ends 15 (some .boolean) 3 := ⟨am_ws (i := 864) (by decide +kernel) rfl, am_ws (i := 866) (by rfl) rfl, am_ws (i := 19) (by decide +kernel) rfl, ⟨by decide +kernel, by decide +kernel⟩, by decide +kernel⟩
set_option maxRecDepth 1000000 in
theorem mc_L_110 : am_mc RL 110 yL_others cL_others 10 (some .boolean) 6 := ⟨am_ws (i := 867) (by decide +kernel) rfl, am_ws (i := 869) (by rfl) rfl, am_ws (i := 19) (by decide +kernel) rfl, ⟨by decide +kernel, by decide +kernel⟩, by decide +kernel⟩
theorem mc_L_86 : am_mc RL 86 yX4_need cX4_need 5 (some .int) 2 := ⟨am_ws (i := 870) (by decide +kernel) rfl, am_ws (i := 873) (by decide +kernel) rfl, am_ws (i := 20) (by decide +kernel) rfl, ⟨by decide +kernel, by decide +kernel⟩, by decide +kernel⟩
set_option maxRecDepth 1000000 in
theorem mc_L_114 : am_mc RL 114 yL_isSound cL_isSound 17 (some .boolean) 5 := ⟨am_ws (i := 875) (by decide +kernel) rfl, am_ws (i := 877) (by rfl) rfl, am_ws (i := 19) (by decide +kernel) rfl, ⟨by decide +kernel, by decide +kernel⟩, by decide +kernel⟩
theorem mc_L_60 : am_mc RL 60 yX4_hour cX4_hour 1 (some .int) 0 := ⟨am_ws (i := 878) (by decide +kernel) rfl, am_ws (i := 881) (by decide +kernel) rfl, am_ws (i := 20) (by decide +kernel) rfl, ⟨by decide +kernel, by decide +kernel⟩, by decide +kernel⟩
theorem mc_L_66 : am_mc RL 66 yX4_count cX4_count 2 (some .int) 1 := ⟨am_ws (i := 882) (by decide +kernel) rfl, am_ws (i := 885) (by decide +kernel) rfl, am_ws (i := 20) (by decide +kernel) rfl, ⟨by decide +kernel, by decide +kernel⟩, by decide +kernel⟩
theorem mc_X4_218 : am_mc RX4 218 yX2_countBurst cX2_countBurst 3 (some .int) 0 := ⟨am_ws (i := 886) (by decide +kernel) rfl, am_ws (i := 889) (by decide +kernel) rfl, am_ws (i := 24) (by decide +kernel) rfl, ⟨by decide +kernel, by decide +kernel⟩, by decide +kernel⟩
theorem mc_X4_221 : am_mc RX4 221 yX4_sumGot cX4_sumGot 3 (some .int) 0 := ⟨am_ws (i := 890) (by decide +kernel) rfl, am_ws (i := 893) (by decide +kernel) rfl, am_ws (i := 20) (by decide +kernel) rfl, ⟨by decide +kernel, by decide +kernel⟩, by decide +kernel⟩
theorem mc_X4_224 : am_mc RX4 224 yX4_sumWater cX4_sumWater 3 (some .int) 0 := ⟨am_ws (i := 894) (by decide +kernel) rfl, am_ws (i := 897) (by decide +kernel) rfl, am_ws (i := 20) (by decide +kernel) rfl, ⟨by decide +kernel, by decide +kernel⟩, by decide +kernel⟩
theorem mc_X4_227 : am_mc RX4 227 yX4_sumPaidLessPaidBack cX4_sumPaidLessPaidBack 4 (some .int) 0 := ⟨am_ws (i := 898) (by decide +kernel) rfl, am_ws (i := 901) (by decide +kernel) rfl, am_ws (i := 20) (by decide +kernel) rfl, ⟨by decide +kernel, by decide +kernel⟩, by decide +kernel⟩
theorem mc_L_76 : am_mc RL 76 yX4_flowAnew cX4_flowAnew 4 (some .int) 1 := ⟨am_ws (i := 902) (by decide +kernel) rfl, am_ws (i := 905) (by decide +kernel) rfl, am_ws (i := 20) (by decide +kernel) rfl, ⟨by decide +kernel, by decide +kernel⟩, by decide +kernel⟩
theorem mc_X4_202 : am_mc RX4 202 yX4_together cX4_together 5 (some .int) 1 := ⟨am_ws (i := 906) (by decide +kernel) rfl, am_ws (i := 909) (by decide +kernel) rfl, am_ws (i := 20) (by decide +kernel) rfl, ⟨by decide +kernel, by decide +kernel⟩, by decide +kernel⟩
theorem mi_X0_set : Cond.instanceMethod yX0_set ∈ am_WS := am_ws (i := 485) (by decide +kernel) rfl
theorem se_X0_set : Cond.selects RX0 yX0_set yX0_set ∈ am_WS := am_ws (i := 486) (by decide +kernel) rfl
theorem mi_X0_isAheadOf : Cond.instanceMethod yX0_isAheadOf ∈ am_WS := am_ws (i := 511) (by decide +kernel) rfl
theorem se_X0_isAheadOf : Cond.selects RX0 yX0_isAheadOf yX0_isAheadOf ∈ am_WS := am_ws (i := 512) (by decide +kernel) rfl
theorem mi_X1_init : Cond.instanceMethod yX1_init ∈ am_WS := am_ws (i := 257) (by decide +kernel) rfl
theorem mi_X1_settleRound : Cond.instanceMethod yX1_settleRound ∈ am_WS := am_ws (i := 494) (by decide +kernel) rfl
theorem se_X1_settleRound : Cond.selects RX1 yX1_settleRound yX1_settleRound ∈ am_WS := am_ws (i := 495) (by decide +kernel) rfl
theorem mi_X1_pay : Cond.instanceMethod yX1_pay ∈ am_WS := am_ws (i := 792) (by decide +kernel) rfl
theorem se_X1_pay : Cond.selects RX1 yX1_pay yX1_pay ∈ am_WS := am_ws (i := 793) (by decide +kernel) rfl
theorem mi_X1_takeBackPay : Cond.instanceMethod yX1_takeBackPay ∈ am_WS := am_ws (i := 810) (by decide +kernel) rfl
theorem se_X1_takeBackPay : Cond.selects RX1 yX1_takeBackPay yX1_takeBackPay ∈ am_WS := am_ws (i := 811) (by decide +kernel) rfl
theorem mi_X1_store : Cond.instanceMethod yX1_store ∈ am_WS := am_ws (i := 827) (by decide +kernel) rfl
theorem se_X1_store : Cond.selects RX1 yX1_store yX1_store ∈ am_WS := am_ws (i := 828) (by decide +kernel) rfl
theorem mi_X1_takeNeed : Cond.instanceMethod yX1_takeNeed ∈ am_WS := am_ws (i := 832) (by decide +kernel) rfl
theorem se_X1_takeNeed : Cond.selects RX1 yX1_takeNeed yX1_takeNeed ∈ am_WS := am_ws (i := 833) (by decide +kernel) rfl
theorem mi_X1_beginHour : Cond.instanceMethod yX1_beginHour ∈ am_WS := am_ws (i := 836) (by decide +kernel) rfl
theorem se_X1_beginHour : Cond.selects RX1 yX1_beginHour yX1_beginHour ∈ am_WS := am_ws (i := 837) (by decide +kernel) rfl
theorem mi_X2_countBurst : Cond.instanceMethod yX2_countBurst ∈ am_WS := am_ws (i := 887) (by decide +kernel) rfl
theorem se_X2_countBurst : Cond.selects RX2 yX2_countBurst yX2_countBurst ∈ am_WS := am_ws (i := 888) (by decide +kernel) rfl
theorem mi_X2_empty : Cond.instanceMethod yX2_empty ∈ am_WS := am_ws (i := 769) (by decide +kernel) rfl
theorem se_X2_empty : Cond.selects RX2 yX2_empty yX2_empty ∈ am_WS := am_ws (i := 770) (by decide +kernel) rfl
theorem mi_X2_pour : Cond.instanceMethod yX2_pour ∈ am_WS := am_ws (i := 779) (by decide +kernel) rfl
theorem se_X2_pour : Cond.selects RX2 yX2_pour yX2_pour ∈ am_WS := am_ws (i := 780) (by decide +kernel) rfl
theorem mi_X2_findWay : Cond.instanceMethod yX2_findWay ∈ am_WS := am_ws (i := 785) (by decide +kernel) rfl
theorem se_X2_findWay : Cond.selects RX2 yX2_findWay yX2_findWay ∈ am_WS := am_ws (i := 11) (by decide +kernel) rfl
theorem mi_X2_flowOnWay : Cond.instanceMethod yX2_flowOnWay ∈ am_WS := am_ws (i := 789) (by decide +kernel) rfl
theorem se_X2_flowOnWay : Cond.selects RX2 yX2_flowOnWay yX2_flowOnWay ∈ am_WS := am_ws (i := 12) (by decide +kernel) rfl
theorem ms_X2_isNode : Cond.static yX2_isNode ∈ am_WS := am_ws (i := 776) (by decide +kernel) rfl
theorem mi_X3_init : Cond.instanceMethod yX3_init ∈ am_WS := am_ws (i := 428) (by decide +kernel) rfl
theorem mi_X4_init : Cond.instanceMethod yX4_init ∈ am_WS := am_ws (i := 53) (by decide +kernel) rfl
theorem mi_X4_district : Cond.instanceMethod yX4_district ∈ am_WS := am_ws (i := 245) (by decide +kernel) rfl
theorem se_X4_district : Cond.selects RX4 yX4_district yX4_district ∈ am_WS := am_ws (i := 246) (by decide +kernel) rfl
theorem mi_X4_pipe : Cond.instanceMethod yX4_pipe ∈ am_WS := am_ws (i := 400) (by decide +kernel) rfl
theorem se_X4_pipe : Cond.selects RX4 yX4_pipe yX4_pipe ∈ am_WS := am_ws (i := 401) (by decide +kernel) rfl
theorem mi_X4_source : Cond.instanceMethod yX4_source ∈ am_WS := am_ws (i := 154) (by decide +kernel) rfl
theorem se_X4_source : Cond.selects RX4 yX4_source yX4_source ∈ am_WS := am_ws (i := 155) (by decide +kernel) rfl
theorem mi_X4_need : Cond.instanceMethod yX4_need ∈ am_WS := am_ws (i := 871) (by decide +kernel) rfl
theorem se_X4_need : Cond.selects RX4 yX4_need yX4_need ∈ am_WS := am_ws (i := 872) (by decide +kernel) rfl
theorem mi_X4_bid : Cond.instanceMethod yX4_bid ∈ am_WS := am_ws (i := 479) (by decide +kernel) rfl
theorem se_X4_bid : Cond.selects RX4 yX4_bid yX4_bid ∈ am_WS := am_ws (i := 480) (by decide +kernel) rfl
theorem mi_X4_close : Cond.instanceMethod yX4_close ∈ am_WS := am_ws (i := 489) (by decide +kernel) rfl
theorem se_X4_close : Cond.selects RX4 yX4_close yX4_close ∈ am_WS := am_ws (i := 490) (by decide +kernel) rfl
theorem mi_X4_burst : Cond.instanceMethod yX4_burst ∈ am_WS := am_ws (i := 796) (by decide +kernel) rfl
theorem se_X4_burst : Cond.selects RX4 yX4_burst yX4_burst ∈ am_WS := am_ws (i := 797) (by decide +kernel) rfl
theorem mi_X4_repair : Cond.instanceMethod yX4_repair ∈ am_WS := am_ws (i := 817) (by decide +kernel) rfl
theorem se_X4_repair : Cond.selects RX4 yX4_repair yX4_repair ∈ am_WS := am_ws (i := 818) (by decide +kernel) rfl
theorem mi_X4_end : Cond.instanceMethod yX4_end ∈ am_WS := am_ws (i := 822) (by decide +kernel) rfl
theorem se_X4_end : Cond.selects RX4 yX4_end yX4_end ∈ am_WS := am_ws (i := 823) (by decide +kernel) rfl
theorem mi_X4_hour : Cond.instanceMethod yX4_hour ∈ am_WS := am_ws (i := 879) (by decide +kernel) rfl
theorem se_X4_hour : Cond.selects RX4 yX4_hour yX4_hour ∈ am_WS := am_ws (i := 880) (by decide +kernel) rfl
theorem mi_X4_round : Cond.instanceMethod yX4_round ∈ am_WS := am_ws (i := 846) (by decide +kernel) rfl
theorem se_X4_round : Cond.selects RX4 yX4_round yX4_round ∈ am_WS := am_ws (i := 847) (by decide +kernel) rfl
theorem mi_X4_ofDistrict : Cond.instanceMethod yX4_ofDistrict ∈ am_WS := am_ws (i := 454) (by decide +kernel) rfl
theorem se_X4_ofDistrict : Cond.selects RX4 yX4_ofDistrict yX4_ofDistrict ∈ am_WS := am_ws (i := 455) (by decide +kernel) rfl
theorem mi_X4_flowAnew : Cond.instanceMethod yX4_flowAnew ∈ am_WS := am_ws (i := 903) (by decide +kernel) rfl
theorem se_X4_flowAnew : Cond.selects RX4 yX4_flowAnew yX4_flowAnew ∈ am_WS := am_ws (i := 904) (by decide +kernel) rfl
theorem mi_X4_most : Cond.instanceMethod yX4_most ∈ am_WS := am_ws (i := 857) (by decide +kernel) rfl
theorem se_X4_most : Cond.selects RX4 yX4_most yX4_most ∈ am_WS := am_ws (i := 858) (by decide +kernel) rfl
theorem mi_X4_place : Cond.instanceMethod yX4_place ∈ am_WS := am_ws (i := 853) (by decide +kernel) rfl
theorem se_X4_place : Cond.selects RX4 yX4_place yX4_place ∈ am_WS := am_ws (i := 854) (by decide +kernel) rfl
theorem mi_X4_count : Cond.instanceMethod yX4_count ∈ am_WS := am_ws (i := 883) (by decide +kernel) rfl
theorem se_X4_count : Cond.selects RX4 yX4_count yX4_count ∈ am_WS := am_ws (i := 884) (by decide +kernel) rfl
theorem ms_X4_isOutside : Cond.static yX4_isOutside ∈ am_WS := am_ws (i := 158) (by decide +kernel) rfl
theorem mi_X4_isNoDistrict : Cond.instanceMethod yX4_isNoDistrict ∈ am_WS := am_ws (i := 405) (by decide +kernel) rfl
theorem se_X4_isNoDistrict : Cond.selects RX4 yX4_isNoDistrict yX4_isNoDistrict ∈ am_WS := am_ws (i := 4) (by decide +kernel) rfl
theorem mi_X4_isNoPipe : Cond.instanceMethod yX4_isNoPipe ∈ am_WS := am_ws (i := 801) (by decide +kernel) rfl
theorem se_X4_isNoPipe : Cond.selects RX4 yX4_isNoPipe yX4_isNoPipe ∈ am_WS := am_ws (i := 13) (by decide +kernel) rfl
theorem mi_X4_orderBids : Cond.instanceMethod yX4_orderBids ∈ am_WS := am_ws (i := 500) (by decide +kernel) rfl
theorem se_X4_orderBids : Cond.selects RX4 yX4_orderBids yX4_orderBids ∈ am_WS := am_ws (i := 5) (by decide +kernel) rfl
theorem mi_X4_bidsAheadOf : Cond.instanceMethod yX4_bidsAheadOf ∈ am_WS := am_ws (i := 508) (by decide +kernel) rfl
theorem se_X4_bidsAheadOf : Cond.selects RX4 yX4_bidsAheadOf yX4_bidsAheadOf ∈ am_WS := am_ws (i := 6) (by decide +kernel) rfl
theorem mi_X4_beginFlowing : Cond.instanceMethod yX4_beginFlowing ∈ am_WS := am_ws (i := 762) (by decide +kernel) rfl
theorem se_X4_beginFlowing : Cond.selects RX4 yX4_beginFlowing yX4_beginFlowing ∈ am_WS := am_ws (i := 9) (by decide +kernel) rfl
theorem mi_X4_flowLess : Cond.instanceMethod yX4_flowLess ∈ am_WS := am_ws (i := 807) (by decide +kernel) rfl
theorem se_X4_flowLess : Cond.selects RX4 yX4_flowLess yX4_flowLess ∈ am_WS := am_ws (i := 14) (by decide +kernel) rfl
theorem mi_X4_findFlows : Cond.instanceMethod yX4_findFlows ∈ am_WS := am_ws (i := 766) (by decide +kernel) rfl
theorem se_X4_findFlows : Cond.selects RX4 yX4_findFlows yX4_findFlows ∈ am_WS := am_ws (i := 10) (by decide +kernel) rfl
theorem mi_X4_together : Cond.instanceMethod yX4_together ∈ am_WS := am_ws (i := 908) (by decide +kernel) rfl
theorem se_X4_together : Cond.selects RX4 yX4_together yX4_together ∈ am_WS := am_ws (i := 18) (by decide +kernel) rfl
theorem mi_X4_sumGot : Cond.instanceMethod yX4_sumGot ∈ am_WS := am_ws (i := 892) (by decide +kernel) rfl
theorem se_X4_sumGot : Cond.selects RX4 yX4_sumGot yX4_sumGot ∈ am_WS := am_ws (i := 15) (by decide +kernel) rfl
theorem mi_X4_sumWater : Cond.instanceMethod yX4_sumWater ∈ am_WS := am_ws (i := 896) (by decide +kernel) rfl
theorem se_X4_sumWater : Cond.selects RX4 yX4_sumWater yX4_sumWater ∈ am_WS := am_ws (i := 16) (by decide +kernel) rfl
theorem mi_X4_sumPaidLessPaidBack : Cond.instanceMethod yX4_sumPaidLessPaidBack ∈ am_WS := am_ws (i := 900) (by decide +kernel) rfl
theorem se_X4_sumPaidLessPaidBack : Cond.selects RX4 yX4_sumPaidLessPaidBack yX4_sumPaidLessPaidBack ∈ am_WS := am_ws (i := 17) (by decide +kernel) rfl
theorem ms_J9_max_7cf53 : Cond.static yJ9_max_7cf53 ∈ am_WS := am_ws (i := 361) (by decide +kernel) rfl
theorem ms_J9_min_7cf53 : Cond.static yJ9_min_7cf53 ∈ am_WS := am_ws (i := 392) (by decide +kernel) rfl
theorem mi_J4_init_da8c8 : Cond.instanceMethod yJ4_init_da8c8 ∈ am_WS := am_ws (i := 530) (by decide +kernel) rfl
theorem mi_J4_append_15ec4 : Cond.instanceMethod yJ4_append_15ec4 ∈ am_WS := am_ws (i := 560) (by decide +kernel) rfl
theorem se_J4_append_15ec4 : Cond.selects RJ4 yJ4_append_15ec4 yJ4_append_15ec4 ∈ am_WS := am_ws (i := 561) (by decide +kernel) rfl
theorem mi_J4_append_bf812 : Cond.instanceMethod yJ4_append_bf812 ∈ am_WS := am_ws (i := 665) (by decide +kernel) rfl
theorem se_J4_append_bf812 : Cond.selects RJ4 yJ4_append_bf812 yJ4_append_bf812 ∈ am_WS := am_ws (i := 666) (by decide +kernel) rfl
theorem mi_J4_toString_0e30d : Cond.instanceMethod yJ4_toString_0e30d ∈ am_WS := am_ws (i := 691) (by decide +kernel) rfl
theorem se_J4_toString_0e30d : Cond.selects RJ4 yJ4_toString_0e30d yJ4_toString_0e30d ∈ am_WS := am_ws (i := 692) (by decide +kernel) rfl
theorem mi_Jxa1e45_init_da8c8 : Cond.instanceMethod yJxa1e45_init_da8c8 ∈ am_WS := am_ws (i := 67) (by decide +kernel) rfl
theorem mi_Jxc12de_init_da8c8 : Cond.instanceMethod yJxc12de_init_da8c8 ∈ am_WS := am_ws (i := 64) (by decide +kernel) rfl
theorem mi_Jx4a65c_init_da8c8 : Cond.instanceMethod yJx4a65c_init_da8c8 ∈ am_WS := am_ws (i := 61) (by decide +kernel) rfl
theorem mi_Jx4a65c_grow_92f84 : Cond.instanceMethod yJx4a65c_grow_92f84 ∈ am_WS := am_ws (i := 355) (by decide +kernel) rfl
theorem se_Jx4a65c_grow_92f84 : Cond.selects RJx4a65c yJx4a65c_grow_92f84 yJx4a65c_grow_92f84 ∈ am_WS := am_ws (i := 3) (by decide +kernel) rfl
theorem mi_Jx4a65c_grow_d5877 : Cond.instanceMethod yJx4a65c_grow_d5877 ∈ am_WS := am_ws (i := 351) (by decide +kernel) rfl
theorem se_Jx4a65c_grow_d5877 : Cond.selects RJx4a65c yJx4a65c_grow_d5877 yJx4a65c_grow_d5877 ∈ am_WS := am_ws (i := 2) (by decide +kernel) rfl
theorem mi_Jx4a65c_size_8abf5 : Cond.instanceMethod yJx4a65c_size_8abf5 ∈ am_WS := am_ws (i := 250) (by decide +kernel) rfl
theorem se_Jx4a65c_size_8abf5 : Cond.selects RJx4a65c yJx4a65c_size_8abf5 yJx4a65c_size_8abf5 ∈ am_WS := am_ws (i := 251) (by decide +kernel) rfl
theorem mi_Jx4a65c_elementData_915e3 : Cond.instanceMethod yJx4a65c_elementData_915e3 ∈ am_WS := am_ws (i := 468) (by decide +kernel) rfl
theorem se_Jx4a65c_elementData_915e3 : Cond.selects RJx4a65c yJx4a65c_elementData_915e3 yJx4a65c_elementData_915e3 ∈ am_WS := am_ws (i := 469) (by decide +kernel) rfl
theorem mi_Jx4a65c_get_915e3 : Cond.instanceMethod yJx4a65c_get_915e3 ∈ am_WS := am_ws (i := 458) (by decide +kernel) rfl
theorem se_Jx4a65c_get_915e3 : Cond.selects RJx4a65c yJx4a65c_get_915e3 yJx4a65c_get_915e3 ∈ am_WS := am_ws (i := 459) (by decide +kernel) rfl
theorem mi_Jx4a65c_add_72be8 : Cond.instanceMethod yJx4a65c_add_72be8 ∈ am_WS := am_ws (i := 347) (by decide +kernel) rfl
theorem se_Jx4a65c_add_72be8 : Cond.selects RJx4a65c yJx4a65c_add_72be8 yJx4a65c_add_72be8 ∈ am_WS := am_ws (i := 1) (by decide +kernel) rfl
theorem mi_Jx4a65c_add_9ea2d : Cond.instanceMethod yJx4a65c_add_9ea2d ∈ am_WS := am_ws (i := 342) (by decide +kernel) rfl
theorem se_Jx4a65c_add_9ea2d : Cond.selects RJx4a65c yJx4a65c_add_9ea2d yJx4a65c_add_9ea2d ∈ am_WS := am_ws (i := 343) (by decide +kernel) rfl
theorem mi_Jx4a65c_add_7a177 : Cond.instanceMethod yJx4a65c_add_7a177 ∈ am_WS := am_ws (i := 515) (by decide +kernel) rfl
theorem se_Jx4a65c_add_7a177 : Cond.selects RJx4a65c yJx4a65c_add_7a177 yJx4a65c_add_7a177 ∈ am_WS := am_ws (i := 516) (by decide +kernel) rfl
theorem mi_Jx4a65c_clear_da8c8 : Cond.instanceMethod yJx4a65c_clear_da8c8 ∈ am_WS := am_ws (i := 503) (by decide +kernel) rfl
theorem se_Jx4a65c_clear_da8c8 : Cond.selects RJx4a65c yJx4a65c_clear_da8c8 yJx4a65c_clear_da8c8 ∈ am_WS := am_ws (i := 504) (by decide +kernel) rfl
theorem mi_Jx4a65c_rangeCheckForAdd_d00df : Cond.instanceMethod yJx4a65c_rangeCheckForAdd_d00df ∈ am_WS := am_ws (i := 520) (by decide +kernel) rfl
theorem se_Jx4a65c_rangeCheckForAdd_d00df : Cond.selects RJx4a65c yJx4a65c_rangeCheckForAdd_d00df yJx4a65c_rangeCheckForAdd_d00df ∈ am_WS := am_ws (i := 7) (by decide +kernel) rfl
theorem mi_Jx4a65c_outOfBoundsMsg_b52d3 : Cond.instanceMethod yJx4a65c_outOfBoundsMsg_b52d3 ∈ am_WS := am_ws (i := 525) (by decide +kernel) rfl
theorem se_Jx4a65c_outOfBoundsMsg_b52d3 : Cond.selects RJx4a65c yJx4a65c_outOfBoundsMsg_b52d3 yJx4a65c_outOfBoundsMsg_b52d3 ∈ am_WS := am_ws (i := 8) (by decide +kernel) rfl
theorem ms_J7_copyOf_1904c : Cond.static yJ7_copyOf_1904c ∈ am_WS := am_ws (i := 368) (by decide +kernel) rfl
theorem ms_J7_copyOf_6403c : Cond.static yJ7_copyOf_6403c ∈ am_WS := am_ws (i := 386) (by decide +kernel) rfl
theorem ms_J7_checkLength_df160 : Cond.static yJ7_checkLength_df160 ∈ am_WS := am_ws (i := 724) (by decide +kernel) rfl
theorem ms_J7_copyOfRangeByte_39247 : Cond.static yJ7_copyOfRangeByte_39247 ∈ am_WS := am_ws (i := 721) (by decide +kernel) rfl
theorem ms_J15_checkIndex_7cf53 : Cond.static yJ15_checkIndex_7cf53 ∈ am_WS := am_ws (i := 462) (by decide +kernel) rfl
theorem ms_J8_newLength_cabcc : Cond.static yJ8_newLength_cabcc ∈ am_WS := am_ws (i := 358) (by decide +kernel) rfl
theorem ms_J8_hugeLength_7cf53 : Cond.static yJ8_hugeLength_7cf53 ∈ am_WS := am_ws (i := 365) (by decide +kernel) rfl
theorem ms_J3_checkIndex_8e157 : Cond.static yJ3_checkIndex_8e157 ∈ am_WS := am_ws (i := 465) (by decide +kernel) rfl
theorem ms_L_draw : Cond.static yL_draw ∈ am_WS := am_ws (i := 148) (by decide +kernel) rfl
theorem ms_L_mends : Cond.static yL_mends ∈ am_WS := am_ws (i := 814) (by decide +kernel) rfl
theorem ms_L_isSound : Cond.static yL_isSound ∈ am_WS := am_ws (i := 876) (by decide +kernel) rfl
theorem ms_L_isMost : Cond.static yL_isMost ∈ am_WS := am_ws (i := 850) (by decide +kernel) rfl
theorem ms_L_bids : Cond.static yL_bids ∈ am_WS := am_ws (i := 451) (by decide +kernel) rfl
theorem ms_L_closes : Cond.static yL_closes ∈ am_WS := am_ws (i := 843) (by decide +kernel) rfl
theorem ms_L_bursts : Cond.static yL_bursts ∈ am_WS := am_ws (i := 862) (by decide +kernel) rfl
theorem ms_L_ends : Cond.static yL_ends ∈ am_WS := am_ws (i := 865) (by decide +kernel) rfl
theorem ms_L_others : Cond.static yL_others ∈ am_WS := am_ws (i := 868) (by decide +kernel) rfl
theorem ms_L_exchange : Cond.static yL_exchange ∈ am_WS := am_ws (i := 48) (by decide +kernel) rfl
theorem kl_L_11 : Cond.classLink RL 11 "PipewrightExchange" ∈ am_WS := am_ws (i := 50) (by decide +kernel) rfl
theorem kl_X4_9 : Cond.classLink RX4 9 "java/util/ArrayList" ∈ am_WS := am_ws (i := 58) (by decide +kernel) rfl
theorem kl_X4_16 : Cond.classLink RX4 16 "PipewrightExchange$Net" ∈ am_WS := am_ws (i := 84) (by decide +kernel) rfl
theorem kl_X2_9 : Cond.classLink RX2 9 "java/util/ArrayList" ∈ am_WS := am_ws (i := 90) (by decide +kernel) rfl
theorem kl_X2_25 : Cond.classLink RX2 25 "[[I" ∈ am_WS := am_ws (i := 92) (by decide +kernel) rfl
theorem kl_X4_50 : Cond.classLink RX4 50 "java/lang/IllegalArgumentException" ∈ am_WS := am_ws (i := 160) (by decide +kernel) rfl
theorem kl_X4_61 : Cond.classLink RX4 61 "java/lang/IllegalStateException" ∈ am_WS := am_ws (i := 228) (by decide +kernel) rfl
theorem kl_X4_66 : Cond.classLink RX4 66 "PipewrightExchange$District" ∈ am_WS := am_ws (i := 254) (by decide +kernel) rfl
theorem kl_X1_13 : Cond.classLink RX1 13 "PipewrightExchange$Bid" ∈ am_WS := am_ws (i := 260) (by decide +kernel) rfl
theorem kl_JA_110 : Cond.classLink RJ7 110 "[Ljava/lang/Object;" ∈ am_WS := am_ws (i := 388) (by decide +kernel) rfl
theorem kl_JA_2 : Cond.classLink RJ7 2 "java/lang/Object" ∈ am_WS := am_ws (i := 390) (by decide +kernel) rfl
theorem kl_AL_7 : Cond.classLink RJx4a65c 7 "java/lang/Object" ∈ am_WS := am_ws (i := 398) (by decide +kernel) rfl
theorem kl_X4_79 : Cond.classLink RX4 79 "java/lang/IndexOutOfBoundsException" ∈ am_WS := am_ws (i := 407) (by decide +kernel) rfl
theorem kl_X4_91 : Cond.classLink RX4 91 "PipewrightExchange$Pipe" ∈ am_WS := am_ws (i := 425) (by decide +kernel) rfl
theorem kl_L_51 : Cond.classLink RL 51 "java/lang/IndexOutOfBoundsException" ∈ am_WS := am_ws (i := 475) (by decide +kernel) rfl
theorem kl_L_54 : Cond.classLink RL 54 "java/lang/IllegalArgumentException" ∈ am_WS := am_ws (i := 476) (by decide +kernel) rfl
theorem kl_L_57 : Cond.classLink RL 57 "java/lang/IllegalStateException" ∈ am_WS := am_ws (i := 477) (by decide +kernel) rfl
theorem kl_AL_187 : Cond.classLink RJx4a65c 187 "java/lang/IndexOutOfBoundsException" ∈ am_WS := am_ws (i := 522) (by decide +kernel) rfl
theorem kl_AL_20 : Cond.classLink RJx4a65c 20 "java/lang/StringBuilder" ∈ am_WS := am_ws (i := 527) (by decide +kernel) rfl
theorem kl_JA_311 : Cond.classLink RJ7 311 "[B" ∈ am_WS := am_ws (i := 589) (by decide +kernel) rfl
theorem kl_JA_43 : Cond.classLink RJ7 43 "java/lang/IllegalArgumentException" ∈ am_WS := am_ws (i := 726) (by decide +kernel) rfl
theorem kl_JA_45 : Cond.classLink RJ7 45 "java/lang/StringBuilder" ∈ am_WS := am_ws (i := 727) (by decide +kernel) rfl
theorem kl_X2_48 : Cond.classLink RX2 48 "PipewrightExchange$Pipe" ∈ am_WS := am_ws (i := 774) (by decide +kernel) rfl
theorem cn_L_7 : Cond.constant RL 7 1003218897 ∈ am_WS := am_ws (i := 150) (by decide +kernel) rfl
theorem cn_L_8 : Cond.constant RL 8 799650255 ∈ am_WS := am_ws (i := 151) (by decide +kernel) rfl
theorem cn_L_9 : Cond.constant RL 9 2147483647 ∈ am_WS := am_ws (i := 152) (by decide +kernel) rfl
theorem cn_L_94 : Cond.constant RL 94 1073741824 ∈ am_WS := am_ws (i := 449) (by decide +kernel) rfl
theorem cn_L_53 : Cond.constant RL 53 (-70007) ∈ am_WS := am_ws (i := 839) (by decide +kernel) rfl
theorem cn_L_56 : Cond.constant RL 56 (-70009) ∈ am_WS := am_ws (i := 840) (by decide +kernel) rfl
theorem cn_L_59 : Cond.constant RL 59 (-70008) ∈ am_WS := am_ws (i := 841) (by decide +kernel) rfl
theorem oi_i : Cond.instanceMethod Lib.objectInit ∈ am_WS := am_ws (i := 56) (by decide +kernel) rfl
theorem oi_c : Cond.code Lib.objectInit ⟨#[0xb1]⟩ 1 none ∈ am_WS := am_ws (i := 57) (by decide +kernel) rfl
theorem oi_X4 : Cond.methodLink RX4 3 Lib.objectInit ∈ am_WS := am_ws (i := 55) (by decide +kernel) rfl
theorem oi_JC : Cond.methodLink RJxa1e45 1 Lib.objectInit ∈ am_WS := am_ws (i := 69) (by decide +kernel) rfl
theorem oi_X2 : Cond.methodLink RX2 3 Lib.objectInit ∈ am_WS := am_ws (i := 89) (by decide +kernel) rfl
theorem oi_X1 : Cond.methodLink RX1 1 Lib.objectInit ∈ am_WS := am_ws (i := 259) (by decide +kernel) rfl
theorem oi_X0 : Cond.methodLink RX0 1 Lib.objectInit ∈ am_WS := am_ws (i := 265) (by decide +kernel) rfl
theorem ml_JS_194 : Cond.methodLink RJ8 194 Lib.Math.max.name ∈ am_WS := am_ws (i := 360) (by decide +kernel) rfl
theorem ml_JA_304 : Cond.methodLink RJ7 304 Lib.Math.min.name ∈ am_WS := am_ws (i := 391) (by decide +kernel) rfl
theorem ml_AL_79 : Cond.methodLink RJx4a65c 79 Lib.Math.max.name ∈ am_WS := am_ws (i := 397) (by decide +kernel) rfl
theorem oi_X3 : Cond.methodLink RX3 1 Lib.objectInit ∈ am_WS := am_ws (i := 430) (by decide +kernel) rfl
theorem ml_X2_67 : Cond.methodLink RX2 67 Lib.Math.min.name ∈ am_WS := am_ws (i := 782) (by decide +kernel) rfl
theorem ml_X1_73 : Cond.methodLink RX1 73 Lib.Math.min.name ∈ am_WS := am_ws (i := 830) (by decide +kernel) rfl
theorem ms_min : Cond.static Lib.Math.min.name ∈ am_WS := am_ws (i := 392) (by decide +kernel) rfl
theorem mcode_min : Cond.code Lib.Math.min.name Lib.Math.min.code 2 (some .int) ∈ am_WS := am_ws (i := 393) (by decide +kernel) rfl
theorem ms_max : Cond.static Lib.Math.max.name ∈ am_WS := am_ws (i := 361) (by decide +kernel) rfl
theorem mcode_max : Cond.code Lib.Math.max.name Lib.Math.max.code 2 (some .int) ∈ am_WS := am_ws (i := 362) (by decide +kernel) rfl
theorem ini_Math : Cond.initialized "java/lang/Math" ∈ am_WS := am_ws (i := 33) (by decide +kernel) rfl
theorem aw_int : Cond.arrayClass .int ∈ am_WS := am_ws (i := 118) (by decide +kernel) rfl
