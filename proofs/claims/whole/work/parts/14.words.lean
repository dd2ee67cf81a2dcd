theorem am_in {ws : List Cond} (ps : List Nat) (h : ws.map some = ps.map (fun i => lw_tbl[i]?)) (g : ws.all goodWord = true) : ∀ w ∈ ws, w ∈ am_WS := by
  intro w hw
  refine List.mem_filter.mpr ⟨?_, List.all_eq_true.mp g w hw⟩
  obtain ⟨i, hi⟩ := List.getElem?_of_mem hw
  have h1 : (ws.map some)[i]? = some (some w) := by rw [List.getElem?_map, hi]; rfl
  rw [h, List.getElem?_map] at h1
  cases hp : ps[i]? with
  | none => rw [hp] at h1; cases h1
  | some j => rw [hp] at h1; exact List.mem_of_getElem? (Option.some.inj h1)
theorem uw_X0 : ∀ w ∈ u_ws RX0 TX0 4, w ∈ am_WS := am_in [293, 295, 297, 299] (by decide +kernel) (by decide +kernel)
theorem cl_X0 : am_cl 0 (RX0, TX0, 4) := ⟨rfl, uw_X0, tyX0_ok, by decide +kernel, am_ws (i := 277) (by decide +kernel) rfl, am_ws (i := 49) (by decide +kernel) rfl⟩
theorem uw_X1 : ∀ w ∈ u_ws RX1 TX1 14, w ∈ am_WS := am_in [328, 330, 332, 334, 336, 338, 340, 342, 344, 346, 348, 350, 352, 354] (by decide +kernel) (by decide +kernel)
theorem cl_X1 : am_cl 1 (RX1, TX1, 14) := ⟨rfl, uw_X1, tyX1_ok, by decide +kernel, am_ws (i := 271) (by decide +kernel) rfl, am_ws (i := 48) (by decide +kernel) rfl⟩
theorem uw_X2 : ∀ w ∈ u_ws RX2 TX2 7, w ∈ am_WS := am_in [118, 120, 122, 124, 126, 128, 130] (by decide +kernel) (by decide +kernel)
theorem cl_X2 : am_cl 2 (RX2, TX2, 7) := ⟨rfl, uw_X2, tyX2_ok, by decide +kernel, am_ws (i := 100) (by decide +kernel) rfl, am_ws (i := 41) (by decide +kernel) rfl⟩
theorem uw_X3 : ∀ w ∈ u_ws RX3 TX3 4, w ∈ am_WS := am_in [461, 463, 465, 467] (by decide +kernel) (by decide +kernel)
theorem cl_X3 : am_cl 3 (RX3, TX3, 4) := ⟨rfl, uw_X3, tyX3_ok, by decide +kernel, am_ws (i := 447) (by decide +kernel) rfl, am_ws (i := 55) (by decide +kernel) rfl⟩
theorem uw_X4 : ∀ w ∈ u_ws RX4 TX4 9, w ∈ am_WS := am_in [143, 145, 147, 149, 151, 153, 155, 157, 159] (by decide +kernel) (by decide +kernel)
theorem cl_X4 : am_cl 4 (RX4, TX4, 9) := ⟨rfl, uw_X4, tyX4_ok, by decide +kernel, am_ws (i := 66) (by decide +kernel) rfl, am_ws (i := 37) (by decide +kernel) rfl⟩
theorem uw_X5 : ∀ w ∈ u_ws RX5 TX5 35, w ∈ am_WS := am_in [972, 974, 976, 978, 980, 982, 984, 986, 988, 990, 992, 994, 996, 998, 1000, 1002, 1004, 1006, 1008, 1010, 1012, 1014, 1016, 1018, 1020, 1022, 1024, 1026, 1028, 1030, 1032, 1034, 1036, 1038, 1040] (by decide +kernel) (by decide +kernel)
theorem cl_X5 : am_cl 5 (RX5, TX5, 35) := ⟨rfl, uw_X5, tyX5_ok, by decide +kernel, am_ws (i := 932) (by decide +kernel) rfl, am_ws (i := 42) (by decide +kernel) rfl⟩
theorem uw_AL : ∀ w ∈ u_ws RJx4a65c TJx4a65c 3, w ∈ am_WS := am_in [96, 92, 94] (by decide +kernel) (by decide +kernel)
theorem cl_AL : am_cl 6 (RJx4a65c, TJx4a65c, 3) := ⟨rfl, uw_AL, tyJx4a65c_ok, by decide +kernel, am_ws (i := 74) (by decide +kernel) rfl, am_ws (i := 40) (by decide +kernel) rfl⟩
theorem fl_AL_9 : am_fl RJx4a65c 9 6 1 601 := ⟨rfl, (RJx4a65c, TJx4a65c, 3), "java/util/ArrayList", rfl, by decide, uw_AL, tyJx4a65c_ok, nmJx4a65c, am_ws (i := 87) (by decide +kernel) rfl, Or.inl rfl⟩
theorem fl_AL_48 : am_fl RJx4a65c 48 6 2 602 := ⟨rfl, (RJx4a65c, TJx4a65c, 3), "java/util/ArrayList", rfl, by decide, uw_AL, tyJx4a65c_ok, nmJx4a65c, am_ws (i := 88) (by decide +kernel) rfl, Or.inl rfl⟩
theorem fl_JL_7 : am_fl RJxc12de 7 6 0 600 := ⟨rfl, (RJx4a65c, TJx4a65c, 3), "java/util/AbstractList", rfl, by decide, uw_AL, tyJx4a65c_ok, nmJx4a65c, am_ws (i := 89) (by decide +kernel) rfl, Or.inl rfl⟩
theorem fl_AL_63 : am_fl RJx4a65c 63 6 0 600 := ⟨rfl, (RJx4a65c, TJx4a65c, 3), "java/util/ArrayList", rfl, by decide, uw_AL, tyJx4a65c_ok, nmJx4a65c, am_ws (i := 90) (by decide +kernel) rfl, Or.inr (am_ws (i := 91) (by decide +kernel) rfl)⟩
theorem fl_X2_12 : am_fl RX2 12 2 0 200 := ⟨rfl, (RX2, TX2, 7), "PipewrightExchange$Net", rfl, by decide, uw_X2, tyX2_ok, nmX2, am_ws (i := 109) (by decide +kernel) rfl, Or.inl rfl⟩
theorem fl_X4_86 : am_fl RX4 86 2 0 200 := ⟨rfl, (RX2, TX2, 7), "PipewrightExchange$Net", rfl, by decide, uw_X2, tyX2_ok, nmX2, am_ws (i := 110) (by decide +kernel) rfl, Or.inl rfl⟩
theorem fl_X2_18 : am_fl RX2 18 2 1 201 := ⟨rfl, (RX2, TX2, 7), "PipewrightExchange$Net", rfl, by decide, uw_X2, tyX2_ok, nmX2, am_ws (i := 111) (by decide +kernel) rfl, Or.inl rfl⟩
theorem fl_X4_98 : am_fl RX4 98 2 1 201 := ⟨rfl, (RX2, TX2, 7), "PipewrightExchange$Net", rfl, by decide, uw_X2, tyX2_ok, nmX2, am_ws (i := 112) (by decide +kernel) rfl, Or.inl rfl⟩
theorem fl_X2_22 : am_fl RX2 22 2 2 202 := ⟨rfl, (RX2, TX2, 7), "PipewrightExchange$Net", rfl, by decide, uw_X2, tyX2_ok, nmX2, am_ws (i := 113) (by decide +kernel) rfl, Or.inl rfl⟩
theorem fl_X2_27 : am_fl RX2 27 2 3 203 := ⟨rfl, (RX2, TX2, 7), "PipewrightExchange$Net", rfl, by decide, uw_X2, tyX2_ok, nmX2, am_ws (i := 114) (by decide +kernel) rfl, Or.inl rfl⟩
theorem fl_X2_30 : am_fl RX2 30 2 4 204 := ⟨rfl, (RX2, TX2, 7), "PipewrightExchange$Net", rfl, by decide, uw_X2, tyX2_ok, nmX2, am_ws (i := 115) (by decide +kernel) rfl, Or.inl rfl⟩
theorem fl_X2_34 : am_fl RX2 34 2 5 205 := ⟨rfl, (RX2, TX2, 7), "PipewrightExchange$Net", rfl, by decide, uw_X2, tyX2_ok, nmX2, am_ws (i := 116) (by decide +kernel) rfl, Or.inl rfl⟩
theorem fl_X2_37 : am_fl RX2 37 2 6 206 := ⟨rfl, (RX2, TX2, 7), "PipewrightExchange$Net", rfl, by decide, uw_X2, tyX2_ok, nmX2, am_ws (i := 117) (by decide +kernel) rfl, Or.inl rfl⟩
theorem fl_X4_12 : am_fl RX4 12 4 0 400 := ⟨rfl, (RX4, TX4, 9), "PipewrightExchange", rfl, by decide, uw_X4, tyX4_ok, nmX4, am_ws (i := 134) (by decide +kernel) rfl, Or.inl rfl⟩
theorem fl_X4_19 : am_fl RX4 19 4 1 401 := ⟨rfl, (RX4, TX4, 9), "PipewrightExchange", rfl, by decide, uw_X4, tyX4_ok, nmX4, am_ws (i := 135) (by decide +kernel) rfl, Or.inl rfl⟩
theorem fl_X4_23 : am_fl RX4 23 4 2 402 := ⟨rfl, (RX4, TX4, 9), "PipewrightExchange", rfl, by decide, uw_X4, tyX4_ok, nmX4, am_ws (i := 136) (by decide +kernel) rfl, Or.inl rfl⟩
theorem fl_X4_26 : am_fl RX4 26 4 3 403 := ⟨rfl, (RX4, TX4, 9), "PipewrightExchange", rfl, by decide, uw_X4, tyX4_ok, nmX4, am_ws (i := 137) (by decide +kernel) rfl, Or.inl rfl⟩
theorem fl_X4_30 : am_fl RX4 30 4 4 404 := ⟨rfl, (RX4, TX4, 9), "PipewrightExchange", rfl, by decide, uw_X4, tyX4_ok, nmX4, am_ws (i := 138) (by decide +kernel) rfl, Or.inl rfl⟩
theorem fl_X4_33 : am_fl RX4 33 4 5 405 := ⟨rfl, (RX4, TX4, 9), "PipewrightExchange", rfl, by decide, uw_X4, tyX4_ok, nmX4, am_ws (i := 139) (by decide +kernel) rfl, Or.inl rfl⟩
theorem fl_X4_37 : am_fl RX4 37 4 6 406 := ⟨rfl, (RX4, TX4, 9), "PipewrightExchange", rfl, by decide, uw_X4, tyX4_ok, nmX4, am_ws (i := 140) (by decide +kernel) rfl, Or.inl rfl⟩
theorem fl_X4_40 : am_fl RX4 40 4 7 407 := ⟨rfl, (RX4, TX4, 9), "PipewrightExchange", rfl, by decide, uw_X4, tyX4_ok, nmX4, am_ws (i := 141) (by decide +kernel) rfl, Or.inl rfl⟩
theorem fl_X4_43 : am_fl RX4 43 4 8 408 := ⟨rfl, (RX4, TX4, 9), "PipewrightExchange", rfl, by decide, uw_X4, tyX4_ok, nmX4, am_ws (i := 142) (by decide +kernel) rfl, Or.inl rfl⟩
theorem fl_X0_7 : am_fl RX0 7 0 0 0 := ⟨rfl, (RX0, TX0, 4), "PipewrightExchange$Bid", rfl, by decide, uw_X0, tyX0_ok, nmX0, am_ws (i := 282) (by decide +kernel) rfl, Or.inl rfl⟩
theorem fl_X1_57 : am_fl RX1 57 0 0 0 := ⟨rfl, (RX0, TX0, 4), "PipewrightExchange$Bid", rfl, by decide, uw_X0, tyX0_ok, nmX0, am_ws (i := 283) (by decide +kernel) rfl, Or.inl rfl⟩
theorem fl_X4_116 : am_fl RX4 116 0 0 0 := ⟨rfl, (RX0, TX0, 4), "PipewrightExchange$Bid", rfl, by decide, uw_X0, tyX0_ok, nmX0, am_ws (i := 284) (by decide +kernel) rfl, Or.inl rfl⟩
theorem fl_X0_13 : am_fl RX0 13 0 1 1 := ⟨rfl, (RX0, TX0, 4), "PipewrightExchange$Bid", rfl, by decide, uw_X0, tyX0_ok, nmX0, am_ws (i := 285) (by decide +kernel) rfl, Or.inl rfl⟩
theorem fl_X1_60 : am_fl RX1 60 0 1 1 := ⟨rfl, (RX0, TX0, 4), "PipewrightExchange$Bid", rfl, by decide, uw_X0, tyX0_ok, nmX0, am_ws (i := 286) (by decide +kernel) rfl, Or.inl rfl⟩
theorem fl_X4_121 : am_fl RX4 121 0 1 1 := ⟨rfl, (RX0, TX0, 4), "PipewrightExchange$Bid", rfl, by decide, uw_X0, tyX0_ok, nmX0, am_ws (i := 287) (by decide +kernel) rfl, Or.inl rfl⟩
theorem fl_X0_17 : am_fl RX0 17 0 2 2 := ⟨rfl, (RX0, TX0, 4), "PipewrightExchange$Bid", rfl, by decide, uw_X0, tyX0_ok, nmX0, am_ws (i := 288) (by decide +kernel) rfl, Or.inl rfl⟩
theorem fl_X1_63 : am_fl RX1 63 0 2 2 := ⟨rfl, (RX0, TX0, 4), "PipewrightExchange$Bid", rfl, by decide, uw_X0, tyX0_ok, nmX0, am_ws (i := 289) (by decide +kernel) rfl, Or.inl rfl⟩
theorem fl_X4_178 : am_fl RX4 178 0 2 2 := ⟨rfl, (RX0, TX0, 4), "PipewrightExchange$Bid", rfl, by decide, uw_X0, tyX0_ok, nmX0, am_ws (i := 290) (by decide +kernel) rfl, Or.inl rfl⟩
theorem fl_X0_20 : am_fl RX0 20 0 3 3 := ⟨rfl, (RX0, TX0, 4), "PipewrightExchange$Bid", rfl, by decide, uw_X0, tyX0_ok, nmX0, am_ws (i := 291) (by decide +kernel) rfl, Or.inl rfl⟩
theorem fl_X1_66 : am_fl RX1 66 0 3 3 := ⟨rfl, (RX0, TX0, 4), "PipewrightExchange$Bid", rfl, by decide, uw_X0, tyX0_ok, nmX0, am_ws (i := 292) (by decide +kernel) rfl, Or.inl rfl⟩
theorem fl_X1_48 : am_fl RX1 48 1 0 100 := ⟨rfl, (RX1, TX1, 14), "PipewrightExchange$District", rfl, by decide, uw_X1, tyX1_ok, nmX1, am_ws (i := 302) (by decide +kernel) rfl, Or.inl rfl⟩
theorem fl_X4_211 : am_fl RX4 211 1 0 100 := ⟨rfl, (RX1, TX1, 14), "PipewrightExchange$District", rfl, by decide, uw_X1, tyX1_ok, nmX1, am_ws (i := 303) (by decide +kernel) rfl, Or.inl rfl⟩
theorem fl_X1_51 : am_fl RX1 51 1 1 101 := ⟨rfl, (RX1, TX1, 14), "PipewrightExchange$District", rfl, by decide, uw_X1, tyX1_ok, nmX1, am_ws (i := 304) (by decide +kernel) rfl, Or.inl rfl⟩
theorem fl_X1_54 : am_fl RX1 54 1 2 102 := ⟨rfl, (RX1, TX1, 14), "PipewrightExchange$District", rfl, by decide, uw_X1, tyX1_ok, nmX1, am_ws (i := 305) (by decide +kernel) rfl, Or.inl rfl⟩
theorem fl_X4_107 : am_fl RX4 107 1 2 102 := ⟨rfl, (RX1, TX1, 14), "PipewrightExchange$District", rfl, by decide, uw_X1, tyX1_ok, nmX1, am_ws (i := 306) (by decide +kernel) rfl, Or.inl rfl⟩
theorem fl_X1_7 : am_fl RX1 7 1 3 103 := ⟨rfl, (RX1, TX1, 14), "PipewrightExchange$District", rfl, by decide, uw_X1, tyX1_ok, nmX1, am_ws (i := 307) (by decide +kernel) rfl, Or.inl rfl⟩
theorem fl_X4_175 : am_fl RX4 175 1 3 103 := ⟨rfl, (RX1, TX1, 14), "PipewrightExchange$District", rfl, by decide, uw_X1, tyX1_ok, nmX1, am_ws (i := 308) (by decide +kernel) rfl, Or.inl rfl⟩
theorem fl_X1_16 : am_fl RX1 16 1 4 104 := ⟨rfl, (RX1, TX1, 14), "PipewrightExchange$District", rfl, by decide, uw_X1, tyX1_ok, nmX1, am_ws (i := 309) (by decide +kernel) rfl, Or.inl rfl⟩
theorem fl_X4_112 : am_fl RX4 112 1 4 104 := ⟨rfl, (RX1, TX1, 14), "PipewrightExchange$District", rfl, by decide, uw_X1, tyX1_ok, nmX1, am_ws (i := 310) (by decide +kernel) rfl, Or.inl rfl⟩
theorem fl_X1_20 : am_fl RX1 20 1 5 105 := ⟨rfl, (RX1, TX1, 14), "PipewrightExchange$District", rfl, by decide, uw_X1, tyX1_ok, nmX1, am_ws (i := 311) (by decide +kernel) rfl, Or.inl rfl⟩
theorem fl_X4_126 : am_fl RX4 126 1 5 105 := ⟨rfl, (RX1, TX1, 14), "PipewrightExchange$District", rfl, by decide, uw_X1, tyX1_ok, nmX1, am_ws (i := 312) (by decide +kernel) rfl, Or.inl rfl⟩
theorem fl_X1_23 : am_fl RX1 23 1 6 106 := ⟨rfl, (RX1, TX1, 14), "PipewrightExchange$District", rfl, by decide, uw_X1, tyX1_ok, nmX1, am_ws (i := 313) (by decide +kernel) rfl, Or.inl rfl⟩
theorem fl_X1_27 : am_fl RX1 27 1 7 107 := ⟨rfl, (RX1, TX1, 14), "PipewrightExchange$District", rfl, by decide, uw_X1, tyX1_ok, nmX1, am_ws (i := 314) (by decide +kernel) rfl, Or.inl rfl⟩
theorem fl_X4_237 : am_fl RX4 237 1 7 107 := ⟨rfl, (RX1, TX1, 14), "PipewrightExchange$District", rfl, by decide, uw_X1, tyX1_ok, nmX1, am_ws (i := 315) (by decide +kernel) rfl, Or.inl rfl⟩
theorem fl_X1_30 : am_fl RX1 30 1 8 108 := ⟨rfl, (RX1, TX1, 14), "PipewrightExchange$District", rfl, by decide, uw_X1, tyX1_ok, nmX1, am_ws (i := 316) (by decide +kernel) rfl, Or.inl rfl⟩
theorem fl_X4_160 : am_fl RX4 160 1 8 108 := ⟨rfl, (RX1, TX1, 14), "PipewrightExchange$District", rfl, by decide, uw_X1, tyX1_ok, nmX1, am_ws (i := 317) (by decide +kernel) rfl, Or.inl rfl⟩
theorem fl_X1_33 : am_fl RX1 33 1 9 109 := ⟨rfl, (RX1, TX1, 14), "PipewrightExchange$District", rfl, by decide, uw_X1, tyX1_ok, nmX1, am_ws (i := 318) (by decide +kernel) rfl, Or.inl rfl⟩
theorem fl_X4_181 : am_fl RX4 181 1 9 109 := ⟨rfl, (RX1, TX1, 14), "PipewrightExchange$District", rfl, by decide, uw_X1, tyX1_ok, nmX1, am_ws (i := 319) (by decide +kernel) rfl, Or.inl rfl⟩
theorem fl_X1_36 : am_fl RX1 36 1 10 110 := ⟨rfl, (RX1, TX1, 14), "PipewrightExchange$District", rfl, by decide, uw_X1, tyX1_ok, nmX1, am_ws (i := 320) (by decide +kernel) rfl, Or.inl rfl⟩
theorem fl_X4_184 : am_fl RX4 184 1 10 110 := ⟨rfl, (RX1, TX1, 14), "PipewrightExchange$District", rfl, by decide, uw_X1, tyX1_ok, nmX1, am_ws (i := 321) (by decide +kernel) rfl, Or.inl rfl⟩
theorem fl_X1_39 : am_fl RX1 39 1 11 111 := ⟨rfl, (RX1, TX1, 14), "PipewrightExchange$District", rfl, by decide, uw_X1, tyX1_ok, nmX1, am_ws (i := 322) (by decide +kernel) rfl, Or.inl rfl⟩
theorem fl_X4_187 : am_fl RX4 187 1 11 111 := ⟨rfl, (RX1, TX1, 14), "PipewrightExchange$District", rfl, by decide, uw_X1, tyX1_ok, nmX1, am_ws (i := 323) (by decide +kernel) rfl, Or.inl rfl⟩
theorem fl_X1_42 : am_fl RX1 42 1 12 112 := ⟨rfl, (RX1, TX1, 14), "PipewrightExchange$District", rfl, by decide, uw_X1, tyX1_ok, nmX1, am_ws (i := 324) (by decide +kernel) rfl, Or.inl rfl⟩
theorem fl_X4_190 : am_fl RX4 190 1 12 112 := ⟨rfl, (RX1, TX1, 14), "PipewrightExchange$District", rfl, by decide, uw_X1, tyX1_ok, nmX1, am_ws (i := 325) (by decide +kernel) rfl, Or.inl rfl⟩
theorem fl_X1_45 : am_fl RX1 45 1 13 113 := ⟨rfl, (RX1, TX1, 14), "PipewrightExchange$District", rfl, by decide, uw_X1, tyX1_ok, nmX1, am_ws (i := 326) (by decide +kernel) rfl, Or.inl rfl⟩
theorem fl_X4_193 : am_fl RX4 193 1 13 113 := ⟨rfl, (RX1, TX1, 14), "PipewrightExchange$District", rfl, by decide, uw_X1, tyX1_ok, nmX1, am_ws (i := 327) (by decide +kernel) rfl, Or.inl rfl⟩
theorem fl_X3_13 : am_fl RX3 13 3 0 300 := ⟨rfl, (RX3, TX3, 4), "PipewrightExchange$Pipe", rfl, by decide, uw_X3, tyX3_ok, nmX3, am_ws (i := 452) (by decide +kernel) rfl, Or.inl rfl⟩
theorem fl_X2_54 : am_fl RX2 54 3 0 300 := ⟨rfl, (RX3, TX3, 4), "PipewrightExchange$Pipe", rfl, by decide, uw_X3, tyX3_ok, nmX3, am_ws (i := 453) (by decide +kernel) rfl, Or.inl rfl⟩
theorem fl_X3_17 : am_fl RX3 17 3 1 301 := ⟨rfl, (RX3, TX3, 4), "PipewrightExchange$Pipe", rfl, by decide, uw_X3, tyX3_ok, nmX3, am_ws (i := 454) (by decide +kernel) rfl, Or.inl rfl⟩
theorem fl_X2_61 : am_fl RX2 61 3 1 301 := ⟨rfl, (RX3, TX3, 4), "PipewrightExchange$Pipe", rfl, by decide, uw_X3, tyX3_ok, nmX3, am_ws (i := 455) (by decide +kernel) rfl, Or.inl rfl⟩
theorem fl_X3_20 : am_fl RX3 20 3 2 302 := ⟨rfl, (RX3, TX3, 4), "PipewrightExchange$Pipe", rfl, by decide, uw_X3, tyX3_ok, nmX3, am_ws (i := 456) (by decide +kernel) rfl, Or.inl rfl⟩
theorem fl_X2_64 : am_fl RX2 64 3 2 302 := ⟨rfl, (RX3, TX3, 4), "PipewrightExchange$Pipe", rfl, by decide, uw_X3, tyX3_ok, nmX3, am_ws (i := 457) (by decide +kernel) rfl, Or.inl rfl⟩
theorem fl_X3_7 : am_fl RX3 7 3 3 303 := ⟨rfl, (RX3, TX3, 4), "PipewrightExchange$Pipe", rfl, by decide, uw_X3, tyX3_ok, nmX3, am_ws (i := 458) (by decide +kernel) rfl, Or.inl rfl⟩
theorem fl_X2_50 : am_fl RX2 50 3 3 303 := ⟨rfl, (RX3, TX3, 4), "PipewrightExchange$Pipe", rfl, by decide, uw_X3, tyX3_ok, nmX3, am_ws (i := 459) (by decide +kernel) rfl, Or.inl rfl⟩
theorem fl_X4_148 : am_fl RX4 148 3 3 303 := ⟨rfl, (RX3, TX3, 4), "PipewrightExchange$Pipe", rfl, by decide, uw_X3, tyX3_ok, nmX3, am_ws (i := 460) (by decide +kernel) rfl, Or.inl rfl⟩
theorem fl_X5_169 : am_fl RX5 169 5 0 500 := ⟨rfl, (RX5, TX5, 35), "PipewrightExchangeModel", rfl, by decide, uw_X5, tyX5_ok, nmX5, am_ws (i := 937) (by decide +kernel) rfl, Or.inl rfl⟩
theorem fl_X5_110 : am_fl RX5 110 5 1 501 := ⟨rfl, (RX5, TX5, 35), "PipewrightExchangeModel", rfl, by decide, uw_X5, tyX5_ok, nmX5, am_ws (i := 938) (by decide +kernel) rfl, Or.inl rfl⟩
theorem fl_X5_113 : am_fl RX5 113 5 2 502 := ⟨rfl, (RX5, TX5, 35), "PipewrightExchangeModel", rfl, by decide, uw_X5, tyX5_ok, nmX5, am_ws (i := 939) (by decide +kernel) rfl, Or.inl rfl⟩
theorem fl_X5_93 : am_fl RX5 93 5 3 503 := ⟨rfl, (RX5, TX5, 35), "PipewrightExchangeModel", rfl, by decide, uw_X5, tyX5_ok, nmX5, am_ws (i := 940) (by decide +kernel) rfl, Or.inl rfl⟩
theorem fl_X5_7 : am_fl RX5 7 5 4 504 := ⟨rfl, (RX5, TX5, 35), "PipewrightExchangeModel", rfl, by decide, uw_X5, tyX5_ok, nmX5, am_ws (i := 941) (by decide +kernel) rfl, Or.inl rfl⟩
theorem fl_X5_13 : am_fl RX5 13 5 5 505 := ⟨rfl, (RX5, TX5, 35), "PipewrightExchangeModel", rfl, by decide, uw_X5, tyX5_ok, nmX5, am_ws (i := 942) (by decide +kernel) rfl, Or.inl rfl⟩
theorem fl_X5_16 : am_fl RX5 16 5 6 506 := ⟨rfl, (RX5, TX5, 35), "PipewrightExchangeModel", rfl, by decide, uw_X5, tyX5_ok, nmX5, am_ws (i := 943) (by decide +kernel) rfl, Or.inl rfl⟩
theorem fl_X5_19 : am_fl RX5 19 5 7 507 := ⟨rfl, (RX5, TX5, 35), "PipewrightExchangeModel", rfl, by decide, uw_X5, tyX5_ok, nmX5, am_ws (i := 944) (by decide +kernel) rfl, Or.inl rfl⟩
theorem fl_X5_22 : am_fl RX5 22 5 8 508 := ⟨rfl, (RX5, TX5, 35), "PipewrightExchangeModel", rfl, by decide, uw_X5, tyX5_ok, nmX5, am_ws (i := 945) (by decide +kernel) rfl, Or.inl rfl⟩
theorem fl_X5_25 : am_fl RX5 25 5 9 509 := ⟨rfl, (RX5, TX5, 35), "PipewrightExchangeModel", rfl, by decide, uw_X5, tyX5_ok, nmX5, am_ws (i := 946) (by decide +kernel) rfl, Or.inl rfl⟩
theorem fl_X5_28 : am_fl RX5 28 5 10 510 := ⟨rfl, (RX5, TX5, 35), "PipewrightExchangeModel", rfl, by decide, uw_X5, tyX5_ok, nmX5, am_ws (i := 947) (by decide +kernel) rfl, Or.inl rfl⟩
theorem fl_X5_32 : am_fl RX5 32 5 11 511 := ⟨rfl, (RX5, TX5, 35), "PipewrightExchangeModel", rfl, by decide, uw_X5, tyX5_ok, nmX5, am_ws (i := 948) (by decide +kernel) rfl, Or.inl rfl⟩
theorem fl_X5_35 : am_fl RX5 35 5 12 512 := ⟨rfl, (RX5, TX5, 35), "PipewrightExchangeModel", rfl, by decide, uw_X5, tyX5_ok, nmX5, am_ws (i := 949) (by decide +kernel) rfl, Or.inl rfl⟩
theorem fl_X5_38 : am_fl RX5 38 5 13 513 := ⟨rfl, (RX5, TX5, 35), "PipewrightExchangeModel", rfl, by decide, uw_X5, tyX5_ok, nmX5, am_ws (i := 950) (by decide +kernel) rfl, Or.inl rfl⟩
theorem fl_X5_41 : am_fl RX5 41 5 14 514 := ⟨rfl, (RX5, TX5, 35), "PipewrightExchangeModel", rfl, by decide, uw_X5, tyX5_ok, nmX5, am_ws (i := 951) (by decide +kernel) rfl, Or.inl rfl⟩
theorem fl_X5_44 : am_fl RX5 44 5 15 515 := ⟨rfl, (RX5, TX5, 35), "PipewrightExchangeModel", rfl, by decide, uw_X5, tyX5_ok, nmX5, am_ws (i := 952) (by decide +kernel) rfl, Or.inl rfl⟩
theorem fl_X5_154 : am_fl RX5 154 5 16 516 := ⟨rfl, (RX5, TX5, 35), "PipewrightExchangeModel", rfl, by decide, uw_X5, tyX5_ok, nmX5, am_ws (i := 953) (by decide +kernel) rfl, Or.inl rfl⟩
theorem fl_X5_47 : am_fl RX5 47 5 17 517 := ⟨rfl, (RX5, TX5, 35), "PipewrightExchangeModel", rfl, by decide, uw_X5, tyX5_ok, nmX5, am_ws (i := 954) (by decide +kernel) rfl, Or.inl rfl⟩
theorem fl_X5_50 : am_fl RX5 50 5 18 518 := ⟨rfl, (RX5, TX5, 35), "PipewrightExchangeModel", rfl, by decide, uw_X5, tyX5_ok, nmX5, am_ws (i := 955) (by decide +kernel) rfl, Or.inl rfl⟩
theorem fl_X5_53 : am_fl RX5 53 5 19 519 := ⟨rfl, (RX5, TX5, 35), "PipewrightExchangeModel", rfl, by decide, uw_X5, tyX5_ok, nmX5, am_ws (i := 956) (by decide +kernel) rfl, Or.inl rfl⟩
theorem fl_X5_56 : am_fl RX5 56 5 20 520 := ⟨rfl, (RX5, TX5, 35), "PipewrightExchangeModel", rfl, by decide, uw_X5, tyX5_ok, nmX5, am_ws (i := 957) (by decide +kernel) rfl, Or.inl rfl⟩
theorem fl_X5_59 : am_fl RX5 59 5 21 521 := ⟨rfl, (RX5, TX5, 35), "PipewrightExchangeModel", rfl, by decide, uw_X5, tyX5_ok, nmX5, am_ws (i := 958) (by decide +kernel) rfl, Or.inl rfl⟩
theorem fl_X5_62 : am_fl RX5 62 5 22 522 := ⟨rfl, (RX5, TX5, 35), "PipewrightExchangeModel", rfl, by decide, uw_X5, tyX5_ok, nmX5, am_ws (i := 959) (by decide +kernel) rfl, Or.inl rfl⟩
theorem fl_X5_172 : am_fl RX5 172 5 23 523 := ⟨rfl, (RX5, TX5, 35), "PipewrightExchangeModel", rfl, by decide, uw_X5, tyX5_ok, nmX5, am_ws (i := 960) (by decide +kernel) rfl, Or.inl rfl⟩
theorem fl_X5_100 : am_fl RX5 100 5 24 524 := ⟨rfl, (RX5, TX5, 35), "PipewrightExchangeModel", rfl, by decide, uw_X5, tyX5_ok, nmX5, am_ws (i := 961) (by decide +kernel) rfl, Or.inl rfl⟩
theorem fl_X5_65 : am_fl RX5 65 5 25 525 := ⟨rfl, (RX5, TX5, 35), "PipewrightExchangeModel", rfl, by decide, uw_X5, tyX5_ok, nmX5, am_ws (i := 962) (by decide +kernel) rfl, Or.inl rfl⟩
theorem fl_X5_68 : am_fl RX5 68 5 26 526 := ⟨rfl, (RX5, TX5, 35), "PipewrightExchangeModel", rfl, by decide, uw_X5, tyX5_ok, nmX5, am_ws (i := 963) (by decide +kernel) rfl, Or.inl rfl⟩
theorem fl_X5_71 : am_fl RX5 71 5 27 527 := ⟨rfl, (RX5, TX5, 35), "PipewrightExchangeModel", rfl, by decide, uw_X5, tyX5_ok, nmX5, am_ws (i := 964) (by decide +kernel) rfl, Or.inl rfl⟩
theorem fl_X5_74 : am_fl RX5 74 5 28 528 := ⟨rfl, (RX5, TX5, 35), "PipewrightExchangeModel", rfl, by decide, uw_X5, tyX5_ok, nmX5, am_ws (i := 965) (by decide +kernel) rfl, Or.inl rfl⟩
theorem fl_X5_77 : am_fl RX5 77 5 29 529 := ⟨rfl, (RX5, TX5, 35), "PipewrightExchangeModel", rfl, by decide, uw_X5, tyX5_ok, nmX5, am_ws (i := 966) (by decide +kernel) rfl, Or.inl rfl⟩
theorem fl_X5_116 : am_fl RX5 116 5 30 530 := ⟨rfl, (RX5, TX5, 35), "PipewrightExchangeModel", rfl, by decide, uw_X5, tyX5_ok, nmX5, am_ws (i := 967) (by decide +kernel) rfl, Or.inl rfl⟩
theorem fl_X5_80 : am_fl RX5 80 5 31 531 := ⟨rfl, (RX5, TX5, 35), "PipewrightExchangeModel", rfl, by decide, uw_X5, tyX5_ok, nmX5, am_ws (i := 968) (by decide +kernel) rfl, Or.inl rfl⟩
theorem fl_X5_83 : am_fl RX5 83 5 32 532 := ⟨rfl, (RX5, TX5, 35), "PipewrightExchangeModel", rfl, by decide, uw_X5, tyX5_ok, nmX5, am_ws (i := 969) (by decide +kernel) rfl, Or.inl rfl⟩
theorem fl_X5_86 : am_fl RX5 86 5 33 533 := ⟨rfl, (RX5, TX5, 35), "PipewrightExchangeModel", rfl, by decide, uw_X5, tyX5_ok, nmX5, am_ws (i := 970) (by decide +kernel) rfl, Or.inl rfl⟩
theorem fl_X5_89 : am_fl RX5 89 5 34 534 := ⟨rfl, (RX5, TX5, 35), "PipewrightExchangeModel", rfl, by decide, uw_X5, tyX5_ok, nmX5, am_ws (i := 971) (by decide +kernel) rfl, Or.inl rfl⟩
theorem mc_L_63 : am_mc RL 63 yX4_init cX4_init 1 none 0 := ⟨am_ws (i := 67) (by decide +kernel) rfl, am_ws (i := 69) (by decide +kernel) rfl, am_ws (i := 37) (by decide +kernel) rfl, ⟨by decide +kernel, by decide +kernel⟩, by decide +kernel⟩
theorem mc_X4_11 : am_mc RX4 11 yJx4a65c_init_da8c8 cJx4a65c_init_da8c8 1 none 0 := ⟨am_ws (i := 75) (by decide +kernel) rfl, am_ws (i := 77) (by decide +kernel) rfl, am_ws (i := 40) (by decide +kernel) rfl, ⟨by decide +kernel, by decide +kernel⟩, by decide +kernel⟩
theorem mc_AL_1 : am_mc RJx4a65c 1 yJxc12de_init_da8c8 cJxc12de_init_da8c8 1 none 0 := ⟨am_ws (i := 78) (by decide +kernel) rfl, am_ws (i := 80) (by decide +kernel) rfl, am_ws (i := 39) (by decide +kernel) rfl, ⟨by decide +kernel, by decide +kernel⟩, by decide +kernel⟩
theorem mc_JL_1 : am_mc RJxc12de 1 yJxa1e45_init_da8c8 cJxa1e45_init_da8c8 1 none 0 := ⟨am_ws (i := 81) (by decide +kernel) rfl, am_ws (i := 83) (by decide +kernel) rfl, am_ws (i := 38) (by decide +kernel) rfl, ⟨by decide +kernel, by decide +kernel⟩, by decide +kernel⟩
theorem mc_X2_11 : am_mc RX2 11 yJx4a65c_init_da8c8 cJx4a65c_init_da8c8 1 none 0 := ⟨am_ws (i := 106) (by decide +kernel) rfl, am_ws (i := 77) (by decide +kernel) rfl, am_ws (i := 40) (by decide +kernel) rfl, ⟨by decide +kernel, by decide +kernel⟩, by decide +kernel⟩
theorem mc_L_104 : am_mc RL 104 yX4_hour cX4_hour 1 (some .int) 0 := ⟨am_ws (i := 162) (by decide +kernel) rfl, am_ws (i := 165) (by decide +kernel) rfl, am_ws (i := 37) (by decide +kernel) rfl, ⟨by decide +kernel, by decide +kernel⟩, by decide +kernel⟩
theorem mc_L_108 : am_mc RL 108 yX4_round cX4_round 1 (some .int) 0 := ⟨am_ws (i := 166) (by decide +kernel) rfl, am_ws (i := 169) (by decide +kernel) rfl, am_ws (i := 37) (by decide +kernel) rfl, ⟨by decide +kernel, by decide +kernel⟩, by decide +kernel⟩
theorem mc_L_7 : am_mc RL 7 yX4_district cX4_district 4 (some .int) 2 := ⟨am_ws (i := 175) (by decide +kernel) rfl, am_ws (i := 178) (by decide +kernel) rfl, am_ws (i := 37) (by decide +kernel) rfl, ⟨by decide +kernel, by decide +kernel⟩, by decide +kernel⟩
theorem mc_X4_46 : am_mc RX4 46 yX4_isOutside cX4_isOutside 3 (some .boolean) 3 := ⟨am_ws (i := 179) (by decide +kernel) rfl, am_ws (i := 181) (by decide +kernel) rfl, am_ws (i := 37) (by decide +kernel) rfl, ⟨by decide +kernel, by decide +kernel⟩, by decide +kernel⟩
theorem mc_X4_57 : am_mc RX4 57 yJx4a65c_size_8abf5 cJx4a65c_size_8abf5 1 (some .int) 0 := ⟨am_ws (i := 250) (by decide +kernel) rfl, am_ws (i := 253) (by decide +kernel) rfl, am_ws (i := 40) (by decide +kernel) rfl, ⟨by decide +kernel, by decide +kernel⟩, by decide +kernel⟩
theorem mc_X4_68 : am_mc RX4 68 yX1_init cX1_init 4 none 3 := ⟨am_ws (i := 272) (by decide +kernel) rfl, am_ws (i := 274) (by decide +kernel) rfl, am_ws (i := 48) (by decide +kernel) rfl, ⟨by decide +kernel, by decide +kernel⟩, by decide +kernel⟩
theorem mc_X4_71 : am_mc RX4 71 yJx4a65c_add_9ea2d cJx4a65c_add_9ea2d 2 (some .boolean) 1 := ⟨am_ws (i := 357) (by decide +kernel) rfl, am_ws (i := 360) (by decide +kernel) rfl, am_ws (i := 40) (by decide +kernel) rfl, ⟨by decide +kernel, by decide +kernel⟩, by decide +kernel⟩
theorem mc_AL_131 : am_mc RJx4a65c 131 yJx4a65c_add_72be8 cJx4a65c_add_72be8 4 none 3 := ⟨am_ws (i := 361) (by decide +kernel) rfl, am_ws (i := 364) (by decide +kernel) rfl, am_ws (i := 40) (by decide +kernel) rfl, ⟨by decide +kernel, by decide +kernel⟩, by decide +kernel⟩
theorem mc_AL_129 : am_mc RJx4a65c 129 yJx4a65c_grow_d5877 cJx4a65c_grow_d5877 1 (some (.array (.object "java/lang/Object"))) 0 := ⟨am_ws (i := 365) (by decide +kernel) rfl, am_ws (i := 368) (by decide +kernel) rfl, am_ws (i := 40) (by decide +kernel) rfl, ⟨by decide +kernel, by decide +kernel⟩, by decide +kernel⟩
theorem mc_AL_69 : am_mc RJx4a65c 69 yJx4a65c_grow_92f84 cJx4a65c_grow_92f84 4 (some (.array (.object "java/lang/Object"))) 1 := ⟨am_ws (i := 369) (by decide +kernel) rfl, am_ws (i := 372) (by decide +kernel) rfl, am_ws (i := 40) (by decide +kernel) rfl, ⟨by decide +kernel, by decide +kernel⟩, by decide +kernel⟩
theorem mc_AL_73 : am_mc RJx4a65c 73 yJ8_newLength_cabcc cJ8_newLength_cabcc 4 (some .int) 3 := ⟨am_ws (i := 373) (by decide +kernel) rfl, am_ws (i := 375) (by decide +kernel) rfl, am_ws (i := 50) (by decide +kernel) rfl, ⟨by decide +kernel, by decide +kernel⟩, by decide +kernel⟩
theorem mc_JS_194 : am_mc RJ8 194 yJ9_max_7cf53 cJ9_max_7cf53 2 (some .int) 2 := ⟨am_ws (i := 376) (by decide +kernel) rfl, am_ws (i := 378) (by decide +kernel) rfl, am_ws (i := 51) (by decide +kernel) rfl, ⟨by decide +kernel, by decide +kernel⟩, by decide +kernel⟩
theorem mc_JS_201 : am_mc RJ8 201 yJ8_hugeLength_7cf53 cJ8_hugeLength_7cf53 3 (some .int) 2 := ⟨am_ws (i := 380) (by decide +kernel) rfl, am_ws (i := 382) (by decide +kernel) rfl, am_ws (i := 50) (by decide +kernel) rfl, ⟨by decide +kernel, by decide +kernel⟩, by decide +kernel⟩
theorem mc_AL_66 : am_mc RJx4a65c 66 yJ7_copyOf_1904c cJ7_copyOf_1904c 2 (some (.array (.object "java/lang/Object"))) 2 := ⟨am_ws (i := 383) (by decide +kernel) rfl, am_ws (i := 385) (by decide +kernel) rfl, am_ws (i := 52) (by decide +kernel) rfl, ⟨by decide +kernel, by decide +kernel⟩, by decide +kernel⟩
theorem mc_JA_300 : am_mc RJ7 300 yJ7_copyOf_6403c cJ7_copyOf_6403c 4 (some (.array (.object "java/lang/Object"))) 3 := ⟨am_ws (i := 402) (by decide +kernel) rfl, am_ws (i := 404) (by decide +kernel) rfl, am_ws (i := 52) (by decide +kernel) rfl, ⟨by decide +kernel, by decide +kernel⟩, by decide +kernel⟩
theorem mc_JA_304 : am_mc RJ7 304 yJ9_min_7cf53 cJ9_min_7cf53 2 (some .int) 2 := ⟨am_ws (i := 408) (by decide +kernel) rfl, am_ws (i := 410) (by decide +kernel) rfl, am_ws (i := 51) (by decide +kernel) rfl, ⟨by decide +kernel, by decide +kernel⟩, by decide +kernel⟩
theorem mc_AL_79 : am_mc RJx4a65c 79 yJ9_max_7cf53 cJ9_max_7cf53 2 (some .int) 2 := ⟨am_ws (i := 414) (by decide +kernel) rfl, am_ws (i := 378) (by decide +kernel) rfl, am_ws (i := 51) (by decide +kernel) rfl, ⟨by decide +kernel, by decide +kernel⟩, by decide +kernel⟩
theorem mc_L_17 : am_mc RL 17 yX4_pipe cX4_pipe 5 (some .int) 3 := ⟨am_ws (i := 420) (by decide +kernel) rfl, am_ws (i := 423) (by decide +kernel) rfl, am_ws (i := 37) (by decide +kernel) rfl, ⟨by decide +kernel, by decide +kernel⟩, by decide +kernel⟩
theorem mc_X4_75 : am_mc RX4 75 yX4_isNoDistrict cX4_isNoDistrict 2 (some .boolean) 1 := ⟨am_ws (i := 424) (by decide +kernel) rfl, am_ws (i := 427) (by decide +kernel) rfl, am_ws (i := 37) (by decide +kernel) rfl, ⟨by decide +kernel, by decide +kernel⟩, by decide +kernel⟩
theorem mc_X4_93 : am_mc RX4 93 yX3_init cX3_init 4 none 3 := ⟨am_ws (i := 448) (by decide +kernel) rfl, am_ws (i := 450) (by decide +kernel) rfl, am_ws (i := 55) (by decide +kernel) rfl, ⟨by decide +kernel, by decide +kernel⟩, by decide +kernel⟩
theorem mc_L_23 : am_mc RL 23 yX4_source cX4_source 3 (some .int) 1 := ⟨am_ws (i := 473) (by decide +kernel) rfl, am_ws (i := 476) (by decide +kernel) rfl, am_ws (i := 37) (by decide +kernel) rfl, ⟨by decide +kernel, by decide +kernel⟩, by decide +kernel⟩
theorem mc_L_27 : am_mc RL 27 yX4_need cX4_need 5 (some .int) 2 := ⟨am_ws (i := 482) (by decide +kernel) rfl, am_ws (i := 485) (by decide +kernel) rfl, am_ws (i := 37) (by decide +kernel) rfl, ⟨by decide +kernel, by decide +kernel⟩, by decide +kernel⟩
theorem mc_X4_103 : am_mc RX4 103 yJx4a65c_get_915e3 cJx4a65c_get_915e3 2 (some (.object "java/lang/Object")) 1 := ⟨am_ws (i := 487) (by decide +kernel) rfl, am_ws (i := 490) (by decide +kernel) rfl, am_ws (i := 40) (by decide +kernel) rfl, ⟨by decide +kernel, by decide +kernel⟩, by decide +kernel⟩
theorem mc_AL_118 : am_mc RJx4a65c 118 yJ15_checkIndex_7cf53 cJ15_checkIndex_7cf53 2 (some .int) 2 := ⟨am_ws (i := 491) (by decide +kernel) rfl, am_ws (i := 493) (by decide +kernel) rfl, am_ws (i := 56) (by decide +kernel) rfl, ⟨by decide +kernel, by decide +kernel⟩, by decide +kernel⟩
theorem mc_JO_105 : am_mc RJ15 105 yJ3_checkIndex_8e157 cJ3_checkIndex_8e157 3 (some .int) 3 := ⟨am_ws (i := 494) (by decide +kernel) rfl, am_ws (i := 496) (by decide +kernel) rfl, am_ws (i := 57) (by decide +kernel) rfl, ⟨by decide +kernel, by decide +kernel⟩, by decide +kernel⟩
theorem mc_AL_123 : am_mc RJx4a65c 123 yJx4a65c_elementData_915e3 cJx4a65c_elementData_915e3 2 (some (.object "java/lang/Object")) 1 := ⟨am_ws (i := 497) (by decide +kernel) rfl, am_ws (i := 500) (by decide +kernel) rfl, am_ws (i := 40) (by decide +kernel) rfl, ⟨by decide +kernel, by decide +kernel⟩, by decide +kernel⟩
theorem mc_L_30 : am_mc RL 30 yX4_bid cX4_bid 5 (some .int) 3 := ⟨am_ws (i := 504) (by decide +kernel) rfl, am_ws (i := 507) (by decide +kernel) rfl, am_ws (i := 37) (by decide +kernel) rfl, ⟨by decide +kernel, by decide +kernel⟩, by decide +kernel⟩
theorem mc_X4_129 : am_mc RX4 129 yX0_set cX0_set 4 none 3 := ⟨am_ws (i := 510) (by decide +kernel) rfl, am_ws (i := 513) (by decide +kernel) rfl, am_ws (i := 49) (by decide +kernel) rfl, ⟨by decide +kernel, by decide +kernel⟩, by decide +kernel⟩
theorem mc_L_33 : am_mc RL 33 yX4_close cX4_close 3 (some .boolean) 0 := ⟨am_ws (i := 517) (by decide +kernel) rfl, am_ws (i := 520) (by decide +kernel) rfl, am_ws (i := 37) (by decide +kernel) rfl, ⟨by decide +kernel, by decide +kernel⟩, by decide +kernel⟩
theorem mc_X4_134 : am_mc RX4 134 yX1_settleRound cX1_settleRound 1 none 0 := ⟨am_ws (i := 522) (by decide +kernel) rfl, am_ws (i := 525) (by decide +kernel) rfl, am_ws (i := 48) (by decide +kernel) rfl, ⟨by decide +kernel, by decide +kernel⟩, by decide +kernel⟩
theorem mc_X1_69 : am_mc RX1 69 yX0_set cX0_set 4 none 3 := ⟨am_ws (i := 526) (by decide +kernel) rfl, am_ws (i := 513) (by decide +kernel) rfl, am_ws (i := 49) (by decide +kernel) rfl, ⟨by decide +kernel, by decide +kernel⟩, by decide +kernel⟩
theorem mc_X4_137 : am_mc RX4 137 yX4_orderBids cX4_orderBids 3 none 0 := ⟨am_ws (i := 527) (by decide +kernel) rfl, am_ws (i := 530) (by decide +kernel) rfl, am_ws (i := 37) (by decide +kernel) rfl, ⟨by decide +kernel, by decide +kernel⟩, by decide +kernel⟩
theorem mc_X4_172 : am_mc RX4 172 yJx4a65c_clear_da8c8 cJx4a65c_clear_da8c8 4 none 0 := ⟨am_ws (i := 531) (by decide +kernel) rfl, am_ws (i := 534) (by decide +kernel) rfl, am_ws (i := 40) (by decide +kernel) rfl, ⟨by decide +kernel, by decide +kernel⟩, by decide +kernel⟩
theorem mc_X4_198 : am_mc RX4 198 yX4_bidsAheadOf cX4_bidsAheadOf 4 (some .int) 1 := ⟨am_ws (i := 535) (by decide +kernel) rfl, am_ws (i := 538) (by decide +kernel) rfl, am_ws (i := 37) (by decide +kernel) rfl, ⟨by decide +kernel, by decide +kernel⟩, by decide +kernel⟩
theorem mc_X4_233 : am_mc RX4 233 yX0_isAheadOf cX0_isAheadOf 2 (some .boolean) 1 := ⟨am_ws (i := 539) (by decide +kernel) rfl, am_ws (i := 542) (by decide +kernel) rfl, am_ws (i := 49) (by decide +kernel) rfl, ⟨by decide +kernel, by decide +kernel⟩, by decide +kernel⟩
theorem mc_X4_230 : am_mc RX4 230 yJx4a65c_add_7a177 cJx4a65c_add_7a177 5 none 2 := ⟨am_ws (i := 543) (by decide +kernel) rfl, am_ws (i := 546) (by decide +kernel) rfl, am_ws (i := 40) (by decide +kernel) rfl, ⟨by decide +kernel, by decide +kernel⟩, by decide +kernel⟩
theorem mc_AL_135 : am_mc RJx4a65c 135 yJx4a65c_rangeCheckForAdd_d00df cJx4a65c_rangeCheckForAdd_d00df 2 none 1 := ⟨am_ws (i := 547) (by decide +kernel) rfl, am_ws (i := 550) (by decide +kernel) rfl, am_ws (i := 40) (by decide +kernel) rfl, ⟨by decide +kernel, by decide +kernel⟩, by decide +kernel⟩
theorem mc_AL_198 : am_mc RJx4a65c 198 yJx4a65c_outOfBoundsMsg_b52d3 cJx4a65c_outOfBoundsMsg_b52d3 2 (some (.object "java/lang/String")) 1 := ⟨am_ws (i := 552) (by decide +kernel) rfl, am_ws (i := 555) (by decide +kernel) rfl, am_ws (i := 40) (by decide +kernel) rfl, ⟨by decide +kernel, by decide +kernel⟩, by decide +kernel⟩
theorem mc_AL_22 : am_mc RJx4a65c 22 yJ4_init_da8c8 cJ4_init_da8c8 1 none 0 := ⟨am_ws (i := 558) (by decide +kernel) rfl, am_ws (i := 560) (by decide +kernel) rfl, am_ws (i := 59) (by decide +kernel) rfl, ⟨by decide +kernel, by decide +kernel⟩, by decide +kernel⟩
theorem mc_AL_25 : am_mc RJx4a65c 25 yJ4_append_15ec4 cJ4_append_15ec4 2 (some (.object "java/lang/StringBuilder")) 1 := ⟨am_ws (i := 588) (by decide +kernel) rfl, am_ws (i := 591) (by decide +kernel) rfl, am_ws (i := 59) (by decide +kernel) rfl, ⟨by decide +kernel, by decide +kernel⟩, by decide +kernel⟩
theorem mc_AL_29 : am_mc RJx4a65c 29 yJ4_append_bf812 cJ4_append_bf812 2 (some (.object "java/lang/StringBuilder")) 1 := ⟨am_ws (i := 693) (by decide +kernel) rfl, am_ws (i := 696) (by decide +kernel) rfl, am_ws (i := 59) (by decide +kernel) rfl, ⟨by decide +kernel, by decide +kernel⟩, by decide +kernel⟩
theorem mc_AL_32 : am_mc RJx4a65c 32 yJ4_toString_0e30d cJ4_toString_0e30d 1 (some (.object "java/lang/String")) 0 := ⟨am_ws (i := 719) (by decide +kernel) rfl, am_ws (i := 722) (by decide +kernel) rfl, am_ws (i := 59) (by decide +kernel) rfl, ⟨by decide +kernel, by decide +kernel⟩, by decide +kernel⟩
theorem mc_JA_339 : am_mc RJ7 339 yJ7_copyOfRangeByte_39247 cJ7_copyOfRangeByte_39247 5 (some (.array .byte)) 3 := ⟨am_ws (i := 749) (by decide +kernel) rfl, am_ws (i := 751) (by decide +kernel) rfl, am_ws (i := 52) (by decide +kernel) rfl, ⟨by decide +kernel, by decide +kernel⟩, by decide +kernel⟩
theorem mc_JA_343 : am_mc RJ7 343 yJ7_checkLength_df160 cJ7_checkLength_df160 2 none 2 := ⟨am_ws (i := 752) (by decide +kernel) rfl, am_ws (i := 754) (by decide +kernel) rfl, am_ws (i := 52) (by decide +kernel) rfl, ⟨by decide +kernel, by decide +kernel⟩, by decide +kernel⟩
theorem mc_JA_47 : am_mc RJ7 47 yJ4_init_da8c8 cJ4_init_da8c8 1 none 0 := ⟨am_ws (i := 757) (by decide +kernel) rfl, am_ws (i := 560) (by decide +kernel) rfl, am_ws (i := 59) (by decide +kernel) rfl, ⟨by decide +kernel, by decide +kernel⟩, by decide +kernel⟩
theorem mc_JA_54 : am_mc RJ7 54 yJ4_append_bf812 cJ4_append_bf812 2 (some (.object "java/lang/StringBuilder")) 1 := ⟨am_ws (i := 758) (by decide +kernel) rfl, am_ws (i := 696) (by decide +kernel) rfl, am_ws (i := 59) (by decide +kernel) rfl, ⟨by decide +kernel, by decide +kernel⟩, by decide +kernel⟩
theorem mc_JA_50 : am_mc RJ7 50 yJ4_append_15ec4 cJ4_append_15ec4 2 (some (.object "java/lang/StringBuilder")) 1 := ⟨am_ws (i := 760) (by decide +kernel) rfl, am_ws (i := 591) (by decide +kernel) rfl, am_ws (i := 59) (by decide +kernel) rfl, ⟨by decide +kernel, by decide +kernel⟩, by decide +kernel⟩
theorem mc_JA_61 : am_mc RJ7 61 yJ4_toString_0e30d cJ4_toString_0e30d 1 (some (.object "java/lang/String")) 0 := ⟨am_ws (i := 761) (by decide +kernel) rfl, am_ws (i := 722) (by decide +kernel) rfl, am_ws (i := 59) (by decide +kernel) rfl, ⟨by decide +kernel, by decide +kernel⟩, by decide +kernel⟩
theorem mc_X4_140 : am_mc RX4 140 yX4_beginFlowing cX4_beginFlowing 3 none 0 := ⟨am_ws (i := 789) (by decide +kernel) rfl, am_ws (i := 792) (by decide +kernel) rfl, am_ws (i := 37) (by decide +kernel) rfl, ⟨by decide +kernel, by decide +kernel⟩, by decide +kernel⟩
theorem mc_X4_240 : am_mc RX4 240 yX4_findFlows cX4_findFlows 3 none 0 := ⟨am_ws (i := 793) (by decide +kernel) rfl, am_ws (i := 796) (by decide +kernel) rfl, am_ws (i := 37) (by decide +kernel) rfl, ⟨by decide +kernel, by decide +kernel⟩, by decide +kernel⟩
theorem mc_X4_208 : am_mc RX4 208 yX2_empty cX2_empty 3 none 0 := ⟨am_ws (i := 797) (by decide +kernel) rfl, am_ws (i := 800) (by decide +kernel) rfl, am_ws (i := 41) (by decide +kernel) rfl, ⟨by decide +kernel, by decide +kernel⟩, by decide +kernel⟩
theorem mc_X2_40 : am_mc RX2 40 yJx4a65c_size_8abf5 cJx4a65c_size_8abf5 1 (some .int) 0 := ⟨am_ws (i := 801) (by decide +kernel) rfl, am_ws (i := 253) (by decide +kernel) rfl, am_ws (i := 40) (by decide +kernel) rfl, ⟨by decide +kernel, by decide +kernel⟩, by decide +kernel⟩
theorem mc_X2_44 : am_mc RX2 44 yJx4a65c_get_915e3 cJx4a65c_get_915e3 2 (some (.object "java/lang/Object")) 1 := ⟨am_ws (i := 802) (by decide +kernel) rfl, am_ws (i := 490) (by decide +kernel) rfl, am_ws (i := 40) (by decide +kernel) rfl, ⟨by decide +kernel, by decide +kernel⟩, by decide +kernel⟩
theorem mc_X2_57 : am_mc RX2 57 yX2_isNode cX2_isNode 1 (some .boolean) 1 := ⟨am_ws (i := 804) (by decide +kernel) rfl, am_ws (i := 806) (by decide +kernel) rfl, am_ws (i := 41) (by decide +kernel) rfl, ⟨by decide +kernel, by decide +kernel⟩, by decide +kernel⟩
theorem mc_X4_214 : am_mc RX4 214 yX2_pour cX2_pour 7 (some .int) 2 := ⟨am_ws (i := 807) (by decide +kernel) rfl, am_ws (i := 810) (by decide +kernel) rfl, am_ws (i := 41) (by decide +kernel) rfl, ⟨by decide +kernel, by decide +kernel⟩, by decide +kernel⟩
theorem mc_X2_67 : am_mc RX2 67 yJ9_min_7cf53 cJ9_min_7cf53 2 (some .int) 2 := ⟨am_ws (i := 811) (by decide +kernel) rfl, am_ws (i := 410) (by decide +kernel) rfl, am_ws (i := 51) (by decide +kernel) rfl, ⟨by decide +kernel, by decide +kernel⟩, by decide +kernel⟩
theorem mc_X2_73 : am_mc RX2 73 yX2_findWay cX2_findWay 7 (some .int) 2 := ⟨am_ws (i := 812) (by decide +kernel) rfl, am_ws (i := 815) (by decide +kernel) rfl, am_ws (i := 41) (by decide +kernel) rfl, ⟨by decide +kernel, by decide +kernel⟩, by decide +kernel⟩
theorem mc_X2_76 : am_mc RX2 76 yX2_flowOnWay cX2_flowOnWay 6 none 2 := ⟨am_ws (i := 816) (by decide +kernel) rfl, am_ws (i := 819) (by decide +kernel) rfl, am_ws (i := 41) (by decide +kernel) rfl, ⟨by decide +kernel, by decide +kernel⟩, by decide +kernel⟩
theorem mc_X4_243 : am_mc RX4 243 yX1_pay cX1_pay 1 none 0 := ⟨am_ws (i := 820) (by decide +kernel) rfl, am_ws (i := 823) (by decide +kernel) rfl, am_ws (i := 48) (by decide +kernel) rfl, ⟨by decide +kernel, by decide +kernel⟩, by decide +kernel⟩
theorem mc_L_37 : am_mc RL 37 yX4_burst cX4_burst 3 (some .int) 1 := ⟨am_ws (i := 827) (by decide +kernel) rfl, am_ws (i := 830) (by decide +kernel) rfl, am_ws (i := 37) (by decide +kernel) rfl, ⟨by decide +kernel, by decide +kernel⟩, by decide +kernel⟩
theorem mc_X4_143 : am_mc RX4 143 yX4_isNoPipe cX4_isNoPipe 2 (some .boolean) 1 := ⟨am_ws (i := 831) (by decide +kernel) rfl, am_ws (i := 834) (by decide +kernel) rfl, am_ws (i := 37) (by decide +kernel) rfl, ⟨by decide +kernel, by decide +kernel⟩, by decide +kernel⟩
theorem mc_X4_153 : am_mc RX4 153 yX4_flowLess cX4_flowLess 3 (some .int) 0 := ⟨am_ws (i := 837) (by decide +kernel) rfl, am_ws (i := 840) (by decide +kernel) rfl, am_ws (i := 37) (by decide +kernel) rfl, ⟨by decide +kernel, by decide +kernel⟩, by decide +kernel⟩
theorem mc_X4_246 : am_mc RX4 246 yX1_takeBackPay cX1_takeBackPay 3 (some .int) 0 := ⟨am_ws (i := 841) (by decide +kernel) rfl, am_ws (i := 844) (by decide +kernel) rfl, am_ws (i := 48) (by decide +kernel) rfl, ⟨by decide +kernel, by decide +kernel⟩, by decide +kernel⟩
theorem mc_L_40 : am_mc RL 40 yX4_repair cX4_repair 3 none 1 := ⟨am_ws (i := 848) (by decide +kernel) rfl, am_ws (i := 851) (by decide +kernel) rfl, am_ws (i := 37) (by decide +kernel) rfl, ⟨by decide +kernel, by decide +kernel⟩, by decide +kernel⟩
theorem mc_L_44 : am_mc RL 44 yX4_end cX4_end 4 (some .int) 0 := ⟨am_ws (i := 856) (by decide +kernel) rfl, am_ws (i := 859) (by decide +kernel) rfl, am_ws (i := 37) (by decide +kernel) rfl, ⟨by decide +kernel, by decide +kernel⟩, by decide +kernel⟩
theorem mc_X4_163 : am_mc RX4 163 yX1_store cX1_store 2 none 0 := ⟨am_ws (i := 861) (by decide +kernel) rfl, am_ws (i := 864) (by decide +kernel) rfl, am_ws (i := 48) (by decide +kernel) rfl, ⟨by decide +kernel, by decide +kernel⟩, by decide +kernel⟩
theorem mc_X1_73 : am_mc RX1 73 yJ9_min_7cf53 cJ9_min_7cf53 2 (some .int) 2 := ⟨am_ws (i := 865) (by decide +kernel) rfl, am_ws (i := 410) (by decide +kernel) rfl, am_ws (i := 51) (by decide +kernel) rfl, ⟨by decide +kernel, by decide +kernel⟩, by decide +kernel⟩
theorem mc_X4_166 : am_mc RX4 166 yX1_takeNeed cX1_takeNeed 3 (some .int) 0 := ⟨am_ws (i := 866) (by decide +kernel) rfl, am_ws (i := 869) (by decide +kernel) rfl, am_ws (i := 48) (by decide +kernel) rfl, ⟨by decide +kernel, by decide +kernel⟩, by decide +kernel⟩
theorem mc_X4_169 : am_mc RX4 169 yX1_beginHour cX1_beginHour 1 none 0 := ⟨am_ws (i := 870) (by decide +kernel) rfl, am_ws (i := 873) (by decide +kernel) rfl, am_ws (i := 48) (by decide +kernel) rfl, ⟨by decide +kernel, by decide +kernel⟩, by decide +kernel⟩
theorem mc_L_48 : am_mc RL 48 yX4_ofDistrict cX4_ofDistrict 4 (some .int) 2 := ⟨am_ws (i := 877) (by decide +kernel) rfl, am_ws (i := 880) (by decide +kernel) rfl, am_ws (i := 37) (by decide +kernel) rfl, ⟨by decide +kernel, by decide +kernel⟩, by decide +kernel⟩
theorem mc_L_51 : am_mc RL 51 yX4_flowAnew cX4_flowAnew 4 (some .int) 1 := ⟨am_ws (i := 885) (by decide +kernel) rfl, am_ws (i := 888) (by decide +kernel) rfl, am_ws (i := 37) (by decide +kernel) rfl, ⟨by decide +kernel, by decide +kernel⟩, by decide +kernel⟩
theorem mc_X4_202 : am_mc RX4 202 yX4_together cX4_together 5 (some .int) 1 := ⟨am_ws (i := 889) (by decide +kernel) rfl, am_ws (i := 892) (by decide +kernel) rfl, am_ws (i := 37) (by decide +kernel) rfl, ⟨by decide +kernel, by decide +kernel⟩, by decide +kernel⟩
theorem mc_L_54 : am_mc RL 54 yX4_most cX4_most 4 (some .int) 1 := ⟨am_ws (i := 896) (by decide +kernel) rfl, am_ws (i := 899) (by decide +kernel) rfl, am_ws (i := 37) (by decide +kernel) rfl, ⟨by decide +kernel, by decide +kernel⟩, by decide +kernel⟩
theorem mc_L_57 : am_mc RL 57 yX4_place cX4_place 3 (some .int) 1 := ⟨am_ws (i := 904) (by decide +kernel) rfl, am_ws (i := 907) (by decide +kernel) rfl, am_ws (i := 37) (by decide +kernel) rfl, ⟨by decide +kernel, by decide +kernel⟩, by decide +kernel⟩
theorem mc_L_60 : am_mc RL 60 yX4_count cX4_count 2 (some .int) 1 := ⟨am_ws (i := 911) (by decide +kernel) rfl, am_ws (i := 914) (by decide +kernel) rfl, am_ws (i := 37) (by decide +kernel) rfl, ⟨by decide +kernel, by decide +kernel⟩, by decide +kernel⟩
theorem mc_X4_218 : am_mc RX4 218 yX2_countBurst cX2_countBurst 3 (some .int) 0 := ⟨am_ws (i := 915) (by decide +kernel) rfl, am_ws (i := 918) (by decide +kernel) rfl, am_ws (i := 41) (by decide +kernel) rfl, ⟨by decide +kernel, by decide +kernel⟩, by decide +kernel⟩
theorem mc_X4_221 : am_mc RX4 221 yX4_sumGot cX4_sumGot 3 (some .int) 0 := ⟨am_ws (i := 919) (by decide +kernel) rfl, am_ws (i := 922) (by decide +kernel) rfl, am_ws (i := 37) (by decide +kernel) rfl, ⟨by decide +kernel, by decide +kernel⟩, by decide +kernel⟩
theorem mc_X4_224 : am_mc RX4 224 yX4_sumWater cX4_sumWater 3 (some .int) 0 := ⟨am_ws (i := 923) (by decide +kernel) rfl, am_ws (i := 926) (by decide +kernel) rfl, am_ws (i := 37) (by decide +kernel) rfl, ⟨by decide +kernel, by decide +kernel⟩, by decide +kernel⟩
theorem mc_X4_227 : am_mc RX4 227 yX4_sumPaidLessPaidBack cX4_sumPaidLessPaidBack 4 (some .int) 0 := ⟨am_ws (i := 927) (by decide +kernel) rfl, am_ws (i := 930) (by decide +kernel) rfl, am_ws (i := 37) (by decide +kernel) rfl, ⟨by decide +kernel, by decide +kernel⟩, by decide +kernel⟩
theorem mc_L_66 : am_mc RL 66 yX5_init cX5_init 1 none 0 := ⟨am_ws (i := 933) (by decide +kernel) rfl, am_ws (i := 935) (by decide +kernel) rfl, am_ws (i := 42) (by decide +kernel) rfl, ⟨by decide +kernel, by decide +kernel⟩, by decide +kernel⟩
theorem mc_L_73 : am_mc RL 73 yX5_thrown cX5_thrown 1 (some .int) 0 := ⟨am_ws (i := 1044) (by decide +kernel) rfl, am_ws (i := 1047) (by decide +kernel) rfl, am_ws (i := 42) (by decide +kernel) rfl, ⟨by decide +kernel, by decide +kernel⟩, by decide +kernel⟩
theorem mc_L_72 : am_mc RL 72 yX5_district cX5_district 4 (some .int) 2 := ⟨am_ws (i := 1048) (by decide +kernel) rfl, am_ws (i := 1051) (by decide +kernel) rfl, am_ws (i := 42) (by decide +kernel) rfl, ⟨by decide +kernel, by decide +kernel⟩, by decide +kernel⟩
theorem mc_X5_96 : am_mc RX5 96 yX5_isIn cX5_isIn 3 (some .boolean) 3 := ⟨am_ws (i := 1052) (by decide +kernel) rfl, am_ws (i := 1054) (by decide +kernel) rfl, am_ws (i := 42) (by decide +kernel) rfl, ⟨by decide +kernel, by decide +kernel⟩, by decide +kernel⟩
theorem mc_X5_103 : am_mc RX5 103 yX5_can cX5_can 2 (some .boolean) 1 := ⟨am_ws (i := 1055) (by decide +kernel) rfl, am_ws (i := 1058) (by decide +kernel) rfl, am_ws (i := 42) (by decide +kernel) rfl, ⟨by decide +kernel, by decide +kernel⟩, by decide +kernel⟩
theorem mc_L_79 : am_mc RL 79 yX5_pipe cX5_pipe 6 (some .int) 3 := ⟨am_ws (i := 1059) (by decide +kernel) rfl, am_ws (i := 1062) (by decide +kernel) rfl, am_ws (i := 42) (by decide +kernel) rfl, ⟨by decide +kernel, by decide +kernel⟩, by decide +kernel⟩
theorem mc_X5_107 : am_mc RX5 107 yX5_isDistrict cX5_isDistrict 2 (some .boolean) 1 := ⟨am_ws (i := 1063) (by decide +kernel) rfl, am_ws (i := 1066) (by decide +kernel) rfl, am_ws (i := 42) (by decide +kernel) rfl, ⟨by decide +kernel, by decide +kernel⟩, by decide +kernel⟩
theorem mc_L_83 : am_mc RL 83 yX5_source cX5_source 3 (some .int) 1 := ⟨am_ws (i := 1067) (by decide +kernel) rfl, am_ws (i := 1070) (by decide +kernel) rfl, am_ws (i := 42) (by decide +kernel) rfl, ⟨by decide +kernel, by decide +kernel⟩, by decide +kernel⟩
theorem mc_L_86 : am_mc RL 86 yX5_need cX5_need 4 (some .int) 2 := ⟨am_ws (i := 1071) (by decide +kernel) rfl, am_ws (i := 1074) (by decide +kernel) rfl, am_ws (i := 42) (by decide +kernel) rfl, ⟨by decide +kernel, by decide +kernel⟩, by decide +kernel⟩
theorem mc_L_89 : am_mc RL 89 yX5_bid cX5_bid 7 (some .int) 3 := ⟨am_ws (i := 1075) (by decide +kernel) rfl, am_ws (i := 1078) (by decide +kernel) rfl, am_ws (i := 42) (by decide +kernel) rfl, ⟨by decide +kernel, by decide +kernel⟩, by decide +kernel⟩
theorem mc_X5_157 : am_mc RX5 157 yX5_toldNow cX5_toldNow 3 (some .int) 0 := ⟨am_ws (i := 1079) (by decide +kernel) rfl, am_ws (i := 1082) (by decide +kernel) rfl, am_ws (i := 42) (by decide +kernel) rfl, ⟨by decide +kernel, by decide +kernel⟩, by decide +kernel⟩
theorem mc_L_93 : am_mc RL 93 yX5_close cX5_close 3 (some .boolean) 0 := ⟨am_ws (i := 1083) (by decide +kernel) rfl, am_ws (i := 1086) (by decide +kernel) rfl, am_ws (i := 42) (by decide +kernel) rfl, ⟨by decide +kernel, by decide +kernel⟩, by decide +kernel⟩
theorem mc_X5_163 : am_mc RX5 163 yX5_begins cX5_begins 2 none 0 := ⟨am_ws (i := 1087) (by decide +kernel) rfl, am_ws (i := 1090) (by decide +kernel) rfl, am_ws (i := 42) (by decide +kernel) rfl, ⟨by decide +kernel, by decide +kernel⟩, by decide +kernel⟩
theorem mc_X5_160 : am_mc RX5 160 yX5_settles cX5_settles 4 none 0 := ⟨am_ws (i := 1091) (by decide +kernel) rfl, am_ws (i := 1094) (by decide +kernel) rfl, am_ws (i := 42) (by decide +kernel) rfl, ⟨by decide +kernel, by decide +kernel⟩, by decide +kernel⟩
theorem mc_X5_141 : am_mc RX5 141 yX5_dries cX5_dries 2 none 0 := ⟨am_ws (i := 1095) (by decide +kernel) rfl, am_ws (i := 1098) (by decide +kernel) rfl, am_ws (i := 42) (by decide +kernel) rfl, ⟨by decide +kernel, by decide +kernel⟩, by decide +kernel⟩
theorem mc_X5_144 : am_mc RX5 144 yX5_standing cX5_standing 3 (some .int) 0 := ⟨am_ws (i := 1099) (by decide +kernel) rfl, am_ws (i := 1102) (by decide +kernel) rfl, am_ws (i := 42) (by decide +kernel) rfl, ⟨by decide +kernel, by decide +kernel⟩, by decide +kernel⟩
theorem mc_X5_148 : am_mc RX5 148 yX5_at cX5_at 4 (some .int) 1 := ⟨am_ws (i := 1103) (by decide +kernel) rfl, am_ws (i := 1106) (by decide +kernel) rfl, am_ws (i := 42) (by decide +kernel) rfl, ⟨by decide +kernel, by decide +kernel⟩, by decide +kernel⟩
theorem mc_X5_138 : am_mc RX5 138 yX5_placeOf cX5_placeOf 4 (some .int) 1 := ⟨am_ws (i := 1107) (by decide +kernel) rfl, am_ws (i := 1110) (by decide +kernel) rfl, am_ws (i := 42) (by decide +kernel) rfl, ⟨by decide +kernel, by decide +kernel⟩, by decide +kernel⟩
theorem mc_X5_134 : am_mc RX5 134 yX5_isAhead cX5_isAhead 3 (some .boolean) 2 := ⟨am_ws (i := 1111) (by decide +kernel) rfl, am_ws (i := 1114) (by decide +kernel) rfl, am_ws (i := 42) (by decide +kernel) rfl, ⟨by decide +kernel, by decide +kernel⟩, by decide +kernel⟩
theorem mc_X5_151 : am_mc RX5 151 yX5_flows cX5_flows 6 (some .int) 2 := ⟨am_ws (i := 1115) (by decide +kernel) rfl, am_ws (i := 1118) (by decide +kernel) rfl, am_ws (i := 42) (by decide +kernel) rfl, ⟨by decide +kernel, by decide +kernel⟩, by decide +kernel⟩
theorem mc_X5_123 : am_mc RX5 123 yX5_finds cX5_finds 9 (some .boolean) 1 := ⟨am_ws (i := 1119) (by decide +kernel) rfl, am_ws (i := 1122) (by decide +kernel) rfl, am_ws (i := 42) (by decide +kernel) rfl, ⟨by decide +kernel, by decide +kernel⟩, by decide +kernel⟩
theorem mc_X5_119 : am_mc RX5 119 yX5_room cX5_room 3 (some .int) 2 := ⟨am_ws (i := 1123) (by decide +kernel) rfl, am_ws (i := 1126) (by decide +kernel) rfl, am_ws (i := 42) (by decide +kernel) rfl, ⟨by decide +kernel, by decide +kernel⟩, by decide +kernel⟩
theorem mc_X5_126 : am_mc RX5 126 yX5_lesser cX5_lesser 2 (some .int) 2 := ⟨am_ws (i := 1127) (by decide +kernel) rfl, am_ws (i := 1129) (by decide +kernel) rfl, am_ws (i := 42) (by decide +kernel) rfl, ⟨by decide +kernel, by decide +kernel⟩, by decide +kernel⟩
theorem mc_X5_130 : am_mc RX5 130 yX5_before cX5_before 2 (some .int) 1 := ⟨am_ws (i := 1130) (by decide +kernel) rfl, am_ws (i := 1133) (by decide +kernel) rfl, am_ws (i := 42) (by decide +kernel) rfl, ⟨by decide +kernel, by decide +kernel⟩, by decide +kernel⟩
theorem mc_L_96 : am_mc RL 96 yX5_burst cX5_burst 6 (some .int) 1 := ⟨am_ws (i := 1134) (by decide +kernel) rfl, am_ws (i := 1137) (by decide +kernel) rfl, am_ws (i := 42) (by decide +kernel) rfl, ⟨by decide +kernel, by decide +kernel⟩, by decide +kernel⟩
theorem mc_X5_166 : am_mc RX5 166 yX5_isPipe cX5_isPipe 2 (some .boolean) 1 := ⟨am_ws (i := 1138) (by decide +kernel) rfl, am_ws (i := 1141) (by decide +kernel) rfl, am_ws (i := 42) (by decide +kernel) rfl, ⟨by decide +kernel, by decide +kernel⟩, by decide +kernel⟩
theorem mc_L_100 : am_mc RL 100 yX5_repair cX5_repair 3 none 1 := ⟨am_ws (i := 1142) (by decide +kernel) rfl, am_ws (i := 1145) (by decide +kernel) rfl, am_ws (i := 42) (by decide +kernel) rfl, ⟨by decide +kernel, by decide +kernel⟩, by decide +kernel⟩
theorem mc_L_103 : am_mc RL 103 yX5_end cX5_end 5 (some .int) 0 := ⟨am_ws (i := 1146) (by decide +kernel) rfl, am_ws (i := 1149) (by decide +kernel) rfl, am_ws (i := 42) (by decide +kernel) rfl, ⟨by decide +kernel, by decide +kernel⟩, by decide +kernel⟩
theorem mc_L_107 : am_mc RL 107 yX5_hour cX5_hour 1 (some .int) 0 := ⟨am_ws (i := 1150) (by decide +kernel) rfl, am_ws (i := 1153) (by decide +kernel) rfl, am_ws (i := 42) (by decide +kernel) rfl, ⟨by decide +kernel, by decide +kernel⟩, by decide +kernel⟩
theorem mc_L_111 : am_mc RL 111 yX5_round cX5_round 1 (some .int) 0 := ⟨am_ws (i := 1154) (by decide +kernel) rfl, am_ws (i := 1157) (by decide +kernel) rfl, am_ws (i := 42) (by decide +kernel) rfl, ⟨by decide +kernel, by decide +kernel⟩, by decide +kernel⟩
theorem mc_L_114 : am_mc RL 114 yX5_ofDistrict cX5_ofDistrict 3 (some .int) 2 := ⟨am_ws (i := 1158) (by decide +kernel) rfl, am_ws (i := 1161) (by decide +kernel) rfl, am_ws (i := 42) (by decide +kernel) rfl, ⟨by decide +kernel, by decide +kernel⟩, by decide +kernel⟩
theorem mc_L_117 : am_mc RL 117 yX5_flowAnew cX5_flowAnew 2 (some .int) 1 := ⟨am_ws (i := 1162) (by decide +kernel) rfl, am_ws (i := 1165) (by decide +kernel) rfl, am_ws (i := 42) (by decide +kernel) rfl, ⟨by decide +kernel, by decide +kernel⟩, by decide +kernel⟩
theorem mc_L_120 : am_mc RL 120 yX5_most cX5_most 4 (some .int) 1 := ⟨am_ws (i := 1166) (by decide +kernel) rfl, am_ws (i := 1169) (by decide +kernel) rfl, am_ws (i := 42) (by decide +kernel) rfl, ⟨by decide +kernel, by decide +kernel⟩, by decide +kernel⟩
theorem mc_L_123 : am_mc RL 123 yX5_place cX5_place 2 (some .int) 1 := ⟨am_ws (i := 1170) (by decide +kernel) rfl, am_ws (i := 1173) (by decide +kernel) rfl, am_ws (i := 42) (by decide +kernel) rfl, ⟨by decide +kernel, by decide +kernel⟩, by decide +kernel⟩
theorem mc_L_126 : am_mc RL 126 yX5_count cX5_count 2 (some .int) 1 := ⟨am_ws (i := 1174) (by decide +kernel) rfl, am_ws (i := 1177) (by decide +kernel) rfl, am_ws (i := 42) (by decide +kernel) rfl, ⟨by decide +kernel, by decide +kernel⟩, by decide +kernel⟩
theorem mc_X5_175 : am_mc RX5 175 yX5_burstPipes cX5_burstPipes 3 (some .int) 0 := ⟨am_ws (i := 1178) (by decide +kernel) rfl, am_ws (i := 1181) (by decide +kernel) rfl, am_ws (i := 42) (by decide +kernel) rfl, ⟨by decide +kernel, by decide +kernel⟩, by decide +kernel⟩
theorem mc_X5_178 : am_mc RX5 178 yX5_sum cX5_sum 4 (some .int) 1 := ⟨am_ws (i := 1182) (by decide +kernel) rfl, am_ws (i := 1185) (by decide +kernel) rfl, am_ws (i := 42) (by decide +kernel) rfl, ⟨by decide +kernel, by decide +kernel⟩, by decide +kernel⟩
theorem mi_X0_set : Cond.instanceMethod yX0_set ∈ am_WS := am_ws (i := 511) (by decide +kernel) rfl
theorem se_X0_set : Cond.selects RX0 yX0_set yX0_set ∈ am_WS := am_ws (i := 512) (by decide +kernel) rfl
theorem mi_X0_isAheadOf : Cond.instanceMethod yX0_isAheadOf ∈ am_WS := am_ws (i := 540) (by decide +kernel) rfl
theorem se_X0_isAheadOf : Cond.selects RX0 yX0_isAheadOf yX0_isAheadOf ∈ am_WS := am_ws (i := 541) (by decide +kernel) rfl
theorem mi_X1_init : Cond.instanceMethod yX1_init ∈ am_WS := am_ws (i := 273) (by decide +kernel) rfl
theorem mi_X1_settleRound : Cond.instanceMethod yX1_settleRound ∈ am_WS := am_ws (i := 523) (by decide +kernel) rfl
theorem se_X1_settleRound : Cond.selects RX1 yX1_settleRound yX1_settleRound ∈ am_WS := am_ws (i := 524) (by decide +kernel) rfl
theorem mi_X1_pay : Cond.instanceMethod yX1_pay ∈ am_WS := am_ws (i := 821) (by decide +kernel) rfl
theorem se_X1_pay : Cond.selects RX1 yX1_pay yX1_pay ∈ am_WS := am_ws (i := 822) (by decide +kernel) rfl
theorem mi_X1_takeBackPay : Cond.instanceMethod yX1_takeBackPay ∈ am_WS := am_ws (i := 842) (by decide +kernel) rfl
theorem se_X1_takeBackPay : Cond.selects RX1 yX1_takeBackPay yX1_takeBackPay ∈ am_WS := am_ws (i := 843) (by decide +kernel) rfl
theorem mi_X1_store : Cond.instanceMethod yX1_store ∈ am_WS := am_ws (i := 862) (by decide +kernel) rfl
theorem se_X1_store : Cond.selects RX1 yX1_store yX1_store ∈ am_WS := am_ws (i := 863) (by decide +kernel) rfl
theorem mi_X1_takeNeed : Cond.instanceMethod yX1_takeNeed ∈ am_WS := am_ws (i := 867) (by decide +kernel) rfl
theorem se_X1_takeNeed : Cond.selects RX1 yX1_takeNeed yX1_takeNeed ∈ am_WS := am_ws (i := 868) (by decide +kernel) rfl
theorem mi_X1_beginHour : Cond.instanceMethod yX1_beginHour ∈ am_WS := am_ws (i := 871) (by decide +kernel) rfl
theorem se_X1_beginHour : Cond.selects RX1 yX1_beginHour yX1_beginHour ∈ am_WS := am_ws (i := 872) (by decide +kernel) rfl
theorem mi_X2_countBurst : Cond.instanceMethod yX2_countBurst ∈ am_WS := am_ws (i := 916) (by decide +kernel) rfl
theorem se_X2_countBurst : Cond.selects RX2 yX2_countBurst yX2_countBurst ∈ am_WS := am_ws (i := 917) (by decide +kernel) rfl
theorem mi_X2_empty : Cond.instanceMethod yX2_empty ∈ am_WS := am_ws (i := 798) (by decide +kernel) rfl
theorem se_X2_empty : Cond.selects RX2 yX2_empty yX2_empty ∈ am_WS := am_ws (i := 799) (by decide +kernel) rfl
theorem mi_X2_pour : Cond.instanceMethod yX2_pour ∈ am_WS := am_ws (i := 808) (by decide +kernel) rfl
theorem se_X2_pour : Cond.selects RX2 yX2_pour yX2_pour ∈ am_WS := am_ws (i := 809) (by decide +kernel) rfl
theorem mi_X2_findWay : Cond.instanceMethod yX2_findWay ∈ am_WS := am_ws (i := 814) (by decide +kernel) rfl
theorem se_X2_findWay : Cond.selects RX2 yX2_findWay yX2_findWay ∈ am_WS := am_ws (i := 11) (by decide +kernel) rfl
theorem mi_X2_flowOnWay : Cond.instanceMethod yX2_flowOnWay ∈ am_WS := am_ws (i := 818) (by decide +kernel) rfl
theorem se_X2_flowOnWay : Cond.selects RX2 yX2_flowOnWay yX2_flowOnWay ∈ am_WS := am_ws (i := 12) (by decide +kernel) rfl
theorem ms_X2_isNode : Cond.static yX2_isNode ∈ am_WS := am_ws (i := 805) (by decide +kernel) rfl
theorem mi_X3_init : Cond.instanceMethod yX3_init ∈ am_WS := am_ws (i := 449) (by decide +kernel) rfl
theorem mi_X4_init : Cond.instanceMethod yX4_init ∈ am_WS := am_ws (i := 68) (by decide +kernel) rfl
theorem mi_X4_district : Cond.instanceMethod yX4_district ∈ am_WS := am_ws (i := 176) (by decide +kernel) rfl
theorem se_X4_district : Cond.selects RX4 yX4_district yX4_district ∈ am_WS := am_ws (i := 177) (by decide +kernel) rfl
theorem mi_X4_pipe : Cond.instanceMethod yX4_pipe ∈ am_WS := am_ws (i := 421) (by decide +kernel) rfl
theorem se_X4_pipe : Cond.selects RX4 yX4_pipe yX4_pipe ∈ am_WS := am_ws (i := 422) (by decide +kernel) rfl
theorem mi_X4_source : Cond.instanceMethod yX4_source ∈ am_WS := am_ws (i := 474) (by decide +kernel) rfl
theorem se_X4_source : Cond.selects RX4 yX4_source yX4_source ∈ am_WS := am_ws (i := 475) (by decide +kernel) rfl
theorem mi_X4_need : Cond.instanceMethod yX4_need ∈ am_WS := am_ws (i := 483) (by decide +kernel) rfl
theorem se_X4_need : Cond.selects RX4 yX4_need yX4_need ∈ am_WS := am_ws (i := 484) (by decide +kernel) rfl
theorem mi_X4_bid : Cond.instanceMethod yX4_bid ∈ am_WS := am_ws (i := 505) (by decide +kernel) rfl
theorem se_X4_bid : Cond.selects RX4 yX4_bid yX4_bid ∈ am_WS := am_ws (i := 506) (by decide +kernel) rfl
theorem mi_X4_close : Cond.instanceMethod yX4_close ∈ am_WS := am_ws (i := 518) (by decide +kernel) rfl
theorem se_X4_close : Cond.selects RX4 yX4_close yX4_close ∈ am_WS := am_ws (i := 519) (by decide +kernel) rfl
theorem mi_X4_burst : Cond.instanceMethod yX4_burst ∈ am_WS := am_ws (i := 828) (by decide +kernel) rfl
theorem se_X4_burst : Cond.selects RX4 yX4_burst yX4_burst ∈ am_WS := am_ws (i := 829) (by decide +kernel) rfl
theorem mi_X4_repair : Cond.instanceMethod yX4_repair ∈ am_WS := am_ws (i := 849) (by decide +kernel) rfl
theorem se_X4_repair : Cond.selects RX4 yX4_repair yX4_repair ∈ am_WS := am_ws (i := 850) (by decide +kernel) rfl
theorem mi_X4_end : Cond.instanceMethod yX4_end ∈ am_WS := am_ws (i := 857) (by decide +kernel) rfl
theorem se_X4_end : Cond.selects RX4 yX4_end yX4_end ∈ am_WS := am_ws (i := 858) (by decide +kernel) rfl
theorem mi_X4_hour : Cond.instanceMethod yX4_hour ∈ am_WS := am_ws (i := 163) (by decide +kernel) rfl
theorem se_X4_hour : Cond.selects RX4 yX4_hour yX4_hour ∈ am_WS := am_ws (i := 164) (by decide +kernel) rfl
theorem mi_X4_round : Cond.instanceMethod yX4_round ∈ am_WS := am_ws (i := 167) (by decide +kernel) rfl
theorem se_X4_round : Cond.selects RX4 yX4_round yX4_round ∈ am_WS := am_ws (i := 168) (by decide +kernel) rfl
theorem mi_X4_ofDistrict : Cond.instanceMethod yX4_ofDistrict ∈ am_WS := am_ws (i := 878) (by decide +kernel) rfl
theorem se_X4_ofDistrict : Cond.selects RX4 yX4_ofDistrict yX4_ofDistrict ∈ am_WS := am_ws (i := 879) (by decide +kernel) rfl
theorem mi_X4_flowAnew : Cond.instanceMethod yX4_flowAnew ∈ am_WS := am_ws (i := 886) (by decide +kernel) rfl
theorem se_X4_flowAnew : Cond.selects RX4 yX4_flowAnew yX4_flowAnew ∈ am_WS := am_ws (i := 887) (by decide +kernel) rfl
theorem mi_X4_most : Cond.instanceMethod yX4_most ∈ am_WS := am_ws (i := 897) (by decide +kernel) rfl
theorem se_X4_most : Cond.selects RX4 yX4_most yX4_most ∈ am_WS := am_ws (i := 898) (by decide +kernel) rfl
theorem mi_X4_place : Cond.instanceMethod yX4_place ∈ am_WS := am_ws (i := 905) (by decide +kernel) rfl
theorem se_X4_place : Cond.selects RX4 yX4_place yX4_place ∈ am_WS := am_ws (i := 906) (by decide +kernel) rfl
theorem mi_X4_count : Cond.instanceMethod yX4_count ∈ am_WS := am_ws (i := 912) (by decide +kernel) rfl
theorem se_X4_count : Cond.selects RX4 yX4_count yX4_count ∈ am_WS := am_ws (i := 913) (by decide +kernel) rfl
theorem ms_X4_isOutside : Cond.static yX4_isOutside ∈ am_WS := am_ws (i := 180) (by decide +kernel) rfl
theorem mi_X4_isNoDistrict : Cond.instanceMethod yX4_isNoDistrict ∈ am_WS := am_ws (i := 426) (by decide +kernel) rfl
theorem se_X4_isNoDistrict : Cond.selects RX4 yX4_isNoDistrict yX4_isNoDistrict ∈ am_WS := am_ws (i := 4) (by decide +kernel) rfl
theorem mi_X4_isNoPipe : Cond.instanceMethod yX4_isNoPipe ∈ am_WS := am_ws (i := 833) (by decide +kernel) rfl
theorem se_X4_isNoPipe : Cond.selects RX4 yX4_isNoPipe yX4_isNoPipe ∈ am_WS := am_ws (i := 13) (by decide +kernel) rfl
theorem mi_X4_orderBids : Cond.instanceMethod yX4_orderBids ∈ am_WS := am_ws (i := 529) (by decide +kernel) rfl
theorem se_X4_orderBids : Cond.selects RX4 yX4_orderBids yX4_orderBids ∈ am_WS := am_ws (i := 5) (by decide +kernel) rfl
theorem mi_X4_bidsAheadOf : Cond.instanceMethod yX4_bidsAheadOf ∈ am_WS := am_ws (i := 537) (by decide +kernel) rfl
theorem se_X4_bidsAheadOf : Cond.selects RX4 yX4_bidsAheadOf yX4_bidsAheadOf ∈ am_WS := am_ws (i := 6) (by decide +kernel) rfl
theorem mi_X4_beginFlowing : Cond.instanceMethod yX4_beginFlowing ∈ am_WS := am_ws (i := 791) (by decide +kernel) rfl
theorem se_X4_beginFlowing : Cond.selects RX4 yX4_beginFlowing yX4_beginFlowing ∈ am_WS := am_ws (i := 9) (by decide +kernel) rfl
theorem mi_X4_flowLess : Cond.instanceMethod yX4_flowLess ∈ am_WS := am_ws (i := 839) (by decide +kernel) rfl
theorem se_X4_flowLess : Cond.selects RX4 yX4_flowLess yX4_flowLess ∈ am_WS := am_ws (i := 14) (by decide +kernel) rfl
theorem mi_X4_findFlows : Cond.instanceMethod yX4_findFlows ∈ am_WS := am_ws (i := 795) (by decide +kernel) rfl
theorem se_X4_findFlows : Cond.selects RX4 yX4_findFlows yX4_findFlows ∈ am_WS := am_ws (i := 10) (by decide +kernel) rfl
theorem mi_X4_together : Cond.instanceMethod yX4_together ∈ am_WS := am_ws (i := 891) (by decide +kernel) rfl
theorem se_X4_together : Cond.selects RX4 yX4_together yX4_together ∈ am_WS := am_ws (i := 15) (by decide +kernel) rfl
theorem mi_X4_sumGot : Cond.instanceMethod yX4_sumGot ∈ am_WS := am_ws (i := 921) (by decide +kernel) rfl
theorem se_X4_sumGot : Cond.selects RX4 yX4_sumGot yX4_sumGot ∈ am_WS := am_ws (i := 16) (by decide +kernel) rfl
theorem mi_X4_sumWater : Cond.instanceMethod yX4_sumWater ∈ am_WS := am_ws (i := 925) (by decide +kernel) rfl
theorem se_X4_sumWater : Cond.selects RX4 yX4_sumWater yX4_sumWater ∈ am_WS := am_ws (i := 17) (by decide +kernel) rfl
theorem mi_X4_sumPaidLessPaidBack : Cond.instanceMethod yX4_sumPaidLessPaidBack ∈ am_WS := am_ws (i := 929) (by decide +kernel) rfl
theorem se_X4_sumPaidLessPaidBack : Cond.selects RX4 yX4_sumPaidLessPaidBack yX4_sumPaidLessPaidBack ∈ am_WS := am_ws (i := 18) (by decide +kernel) rfl
theorem mi_X5_init : Cond.instanceMethod yX5_init ∈ am_WS := am_ws (i := 934) (by decide +kernel) rfl
theorem mi_X5_thrown : Cond.instanceMethod yX5_thrown ∈ am_WS := am_ws (i := 1045) (by decide +kernel) rfl
theorem se_X5_thrown : Cond.selects RX5 yX5_thrown yX5_thrown ∈ am_WS := am_ws (i := 1046) (by decide +kernel) rfl
theorem mi_X5_can : Cond.instanceMethod yX5_can ∈ am_WS := am_ws (i := 1057) (by decide +kernel) rfl
theorem se_X5_can : Cond.selects RX5 yX5_can yX5_can ∈ am_WS := am_ws (i := 19) (by decide +kernel) rfl
theorem ms_X5_isIn : Cond.static yX5_isIn ∈ am_WS := am_ws (i := 1053) (by decide +kernel) rfl
theorem mi_X5_isDistrict : Cond.instanceMethod yX5_isDistrict ∈ am_WS := am_ws (i := 1065) (by decide +kernel) rfl
theorem se_X5_isDistrict : Cond.selects RX5 yX5_isDistrict yX5_isDistrict ∈ am_WS := am_ws (i := 20) (by decide +kernel) rfl
theorem mi_X5_isPipe : Cond.instanceMethod yX5_isPipe ∈ am_WS := am_ws (i := 1140) (by decide +kernel) rfl
theorem se_X5_isPipe : Cond.selects RX5 yX5_isPipe yX5_isPipe ∈ am_WS := am_ws (i := 33) (by decide +kernel) rfl
theorem ms_X5_lesser : Cond.static yX5_lesser ∈ am_WS := am_ws (i := 1128) (by decide +kernel) rfl
theorem mi_X5_district : Cond.instanceMethod yX5_district ∈ am_WS := am_ws (i := 1049) (by decide +kernel) rfl
theorem se_X5_district : Cond.selects RX5 yX5_district yX5_district ∈ am_WS := am_ws (i := 1050) (by decide +kernel) rfl
theorem mi_X5_pipe : Cond.instanceMethod yX5_pipe ∈ am_WS := am_ws (i := 1060) (by decide +kernel) rfl
theorem se_X5_pipe : Cond.selects RX5 yX5_pipe yX5_pipe ∈ am_WS := am_ws (i := 1061) (by decide +kernel) rfl
theorem mi_X5_source : Cond.instanceMethod yX5_source ∈ am_WS := am_ws (i := 1068) (by decide +kernel) rfl
theorem se_X5_source : Cond.selects RX5 yX5_source yX5_source ∈ am_WS := am_ws (i := 1069) (by decide +kernel) rfl
theorem mi_X5_need : Cond.instanceMethod yX5_need ∈ am_WS := am_ws (i := 1072) (by decide +kernel) rfl
theorem se_X5_need : Cond.selects RX5 yX5_need yX5_need ∈ am_WS := am_ws (i := 1073) (by decide +kernel) rfl
theorem mi_X5_dries : Cond.instanceMethod yX5_dries ∈ am_WS := am_ws (i := 1097) (by decide +kernel) rfl
theorem se_X5_dries : Cond.selects RX5 yX5_dries yX5_dries ∈ am_WS := am_ws (i := 24) (by decide +kernel) rfl
theorem mi_X5_room : Cond.instanceMethod yX5_room ∈ am_WS := am_ws (i := 1125) (by decide +kernel) rfl
theorem se_X5_room : Cond.selects RX5 yX5_room yX5_room ∈ am_WS := am_ws (i := 31) (by decide +kernel) rfl
theorem mi_X5_finds : Cond.instanceMethod yX5_finds ∈ am_WS := am_ws (i := 1121) (by decide +kernel) rfl
theorem se_X5_finds : Cond.selects RX5 yX5_finds yX5_finds ∈ am_WS := am_ws (i := 30) (by decide +kernel) rfl
theorem mi_X5_flows : Cond.instanceMethod yX5_flows ∈ am_WS := am_ws (i := 1117) (by decide +kernel) rfl
theorem se_X5_flows : Cond.selects RX5 yX5_flows yX5_flows ∈ am_WS := am_ws (i := 29) (by decide +kernel) rfl
theorem mi_X5_before : Cond.instanceMethod yX5_before ∈ am_WS := am_ws (i := 1132) (by decide +kernel) rfl
theorem se_X5_before : Cond.selects RX5 yX5_before yX5_before ∈ am_WS := am_ws (i := 32) (by decide +kernel) rfl
theorem mi_X5_isAhead : Cond.instanceMethod yX5_isAhead ∈ am_WS := am_ws (i := 1113) (by decide +kernel) rfl
theorem se_X5_isAhead : Cond.selects RX5 yX5_isAhead yX5_isAhead ∈ am_WS := am_ws (i := 28) (by decide +kernel) rfl
theorem mi_X5_placeOf : Cond.instanceMethod yX5_placeOf ∈ am_WS := am_ws (i := 1109) (by decide +kernel) rfl
theorem se_X5_placeOf : Cond.selects RX5 yX5_placeOf yX5_placeOf ∈ am_WS := am_ws (i := 27) (by decide +kernel) rfl
theorem mi_X5_at : Cond.instanceMethod yX5_at ∈ am_WS := am_ws (i := 1105) (by decide +kernel) rfl
theorem se_X5_at : Cond.selects RX5 yX5_at yX5_at ∈ am_WS := am_ws (i := 26) (by decide +kernel) rfl
theorem mi_X5_standing : Cond.instanceMethod yX5_standing ∈ am_WS := am_ws (i := 1101) (by decide +kernel) rfl
theorem se_X5_standing : Cond.selects RX5 yX5_standing yX5_standing ∈ am_WS := am_ws (i := 25) (by decide +kernel) rfl
theorem mi_X5_settles : Cond.instanceMethod yX5_settles ∈ am_WS := am_ws (i := 1093) (by decide +kernel) rfl
theorem se_X5_settles : Cond.selects RX5 yX5_settles yX5_settles ∈ am_WS := am_ws (i := 23) (by decide +kernel) rfl
theorem mi_X5_toldNow : Cond.instanceMethod yX5_toldNow ∈ am_WS := am_ws (i := 1081) (by decide +kernel) rfl
theorem se_X5_toldNow : Cond.selects RX5 yX5_toldNow yX5_toldNow ∈ am_WS := am_ws (i := 21) (by decide +kernel) rfl
theorem mi_X5_bid : Cond.instanceMethod yX5_bid ∈ am_WS := am_ws (i := 1076) (by decide +kernel) rfl
theorem se_X5_bid : Cond.selects RX5 yX5_bid yX5_bid ∈ am_WS := am_ws (i := 1077) (by decide +kernel) rfl
theorem mi_X5_begins : Cond.instanceMethod yX5_begins ∈ am_WS := am_ws (i := 1089) (by decide +kernel) rfl
theorem se_X5_begins : Cond.selects RX5 yX5_begins yX5_begins ∈ am_WS := am_ws (i := 22) (by decide +kernel) rfl
theorem mi_X5_close : Cond.instanceMethod yX5_close ∈ am_WS := am_ws (i := 1084) (by decide +kernel) rfl
theorem se_X5_close : Cond.selects RX5 yX5_close yX5_close ∈ am_WS := am_ws (i := 1085) (by decide +kernel) rfl
theorem mi_X5_burst : Cond.instanceMethod yX5_burst ∈ am_WS := am_ws (i := 1135) (by decide +kernel) rfl
theorem se_X5_burst : Cond.selects RX5 yX5_burst yX5_burst ∈ am_WS := am_ws (i := 1136) (by decide +kernel) rfl
theorem mi_X5_repair : Cond.instanceMethod yX5_repair ∈ am_WS := am_ws (i := 1143) (by decide +kernel) rfl
theorem se_X5_repair : Cond.selects RX5 yX5_repair yX5_repair ∈ am_WS := am_ws (i := 1144) (by decide +kernel) rfl
theorem mi_X5_end : Cond.instanceMethod yX5_end ∈ am_WS := am_ws (i := 1147) (by decide +kernel) rfl
theorem se_X5_end : Cond.selects RX5 yX5_end yX5_end ∈ am_WS := am_ws (i := 1148) (by decide +kernel) rfl
theorem mi_X5_hour : Cond.instanceMethod yX5_hour ∈ am_WS := am_ws (i := 1151) (by decide +kernel) rfl
theorem se_X5_hour : Cond.selects RX5 yX5_hour yX5_hour ∈ am_WS := am_ws (i := 1152) (by decide +kernel) rfl
theorem mi_X5_round : Cond.instanceMethod yX5_round ∈ am_WS := am_ws (i := 1155) (by decide +kernel) rfl
theorem se_X5_round : Cond.selects RX5 yX5_round yX5_round ∈ am_WS := am_ws (i := 1156) (by decide +kernel) rfl
theorem mi_X5_ofDistrict : Cond.instanceMethod yX5_ofDistrict ∈ am_WS := am_ws (i := 1159) (by decide +kernel) rfl
theorem se_X5_ofDistrict : Cond.selects RX5 yX5_ofDistrict yX5_ofDistrict ∈ am_WS := am_ws (i := 1160) (by decide +kernel) rfl
theorem mi_X5_flowAnew : Cond.instanceMethod yX5_flowAnew ∈ am_WS := am_ws (i := 1163) (by decide +kernel) rfl
theorem se_X5_flowAnew : Cond.selects RX5 yX5_flowAnew yX5_flowAnew ∈ am_WS := am_ws (i := 1164) (by decide +kernel) rfl
theorem mi_X5_most : Cond.instanceMethod yX5_most ∈ am_WS := am_ws (i := 1167) (by decide +kernel) rfl
theorem se_X5_most : Cond.selects RX5 yX5_most yX5_most ∈ am_WS := am_ws (i := 1168) (by decide +kernel) rfl
theorem mi_X5_place : Cond.instanceMethod yX5_place ∈ am_WS := am_ws (i := 1171) (by decide +kernel) rfl
theorem se_X5_place : Cond.selects RX5 yX5_place yX5_place ∈ am_WS := am_ws (i := 1172) (by decide +kernel) rfl
theorem mi_X5_sum : Cond.instanceMethod yX5_sum ∈ am_WS := am_ws (i := 1184) (by decide +kernel) rfl
theorem se_X5_sum : Cond.selects RX5 yX5_sum yX5_sum ∈ am_WS := am_ws (i := 35) (by decide +kernel) rfl
theorem mi_X5_burstPipes : Cond.instanceMethod yX5_burstPipes ∈ am_WS := am_ws (i := 1180) (by decide +kernel) rfl
theorem se_X5_burstPipes : Cond.selects RX5 yX5_burstPipes yX5_burstPipes ∈ am_WS := am_ws (i := 34) (by decide +kernel) rfl
theorem mi_X5_count : Cond.instanceMethod yX5_count ∈ am_WS := am_ws (i := 1175) (by decide +kernel) rfl
theorem se_X5_count : Cond.selects RX5 yX5_count yX5_count ∈ am_WS := am_ws (i := 1176) (by decide +kernel) rfl
theorem ms_J9_max_7cf53 : Cond.static yJ9_max_7cf53 ∈ am_WS := am_ws (i := 377) (by decide +kernel) rfl
theorem ms_J9_min_7cf53 : Cond.static yJ9_min_7cf53 ∈ am_WS := am_ws (i := 409) (by decide +kernel) rfl
theorem mi_J4_init_da8c8 : Cond.instanceMethod yJ4_init_da8c8 ∈ am_WS := am_ws (i := 559) (by decide +kernel) rfl
theorem mi_J4_append_15ec4 : Cond.instanceMethod yJ4_append_15ec4 ∈ am_WS := am_ws (i := 589) (by decide +kernel) rfl
theorem se_J4_append_15ec4 : Cond.selects RJ4 yJ4_append_15ec4 yJ4_append_15ec4 ∈ am_WS := am_ws (i := 590) (by decide +kernel) rfl
theorem mi_J4_append_bf812 : Cond.instanceMethod yJ4_append_bf812 ∈ am_WS := am_ws (i := 694) (by decide +kernel) rfl
theorem se_J4_append_bf812 : Cond.selects RJ4 yJ4_append_bf812 yJ4_append_bf812 ∈ am_WS := am_ws (i := 695) (by decide +kernel) rfl
theorem mi_J4_toString_0e30d : Cond.instanceMethod yJ4_toString_0e30d ∈ am_WS := am_ws (i := 720) (by decide +kernel) rfl
theorem se_J4_toString_0e30d : Cond.selects RJ4 yJ4_toString_0e30d yJ4_toString_0e30d ∈ am_WS := am_ws (i := 721) (by decide +kernel) rfl
theorem mi_Jxa1e45_init_da8c8 : Cond.instanceMethod yJxa1e45_init_da8c8 ∈ am_WS := am_ws (i := 82) (by decide +kernel) rfl
theorem mi_Jxc12de_init_da8c8 : Cond.instanceMethod yJxc12de_init_da8c8 ∈ am_WS := am_ws (i := 79) (by decide +kernel) rfl
theorem mi_Jx4a65c_init_da8c8 : Cond.instanceMethod yJx4a65c_init_da8c8 ∈ am_WS := am_ws (i := 76) (by decide +kernel) rfl
theorem mi_Jx4a65c_grow_92f84 : Cond.instanceMethod yJx4a65c_grow_92f84 ∈ am_WS := am_ws (i := 371) (by decide +kernel) rfl
theorem se_Jx4a65c_grow_92f84 : Cond.selects RJx4a65c yJx4a65c_grow_92f84 yJx4a65c_grow_92f84 ∈ am_WS := am_ws (i := 3) (by decide +kernel) rfl
theorem mi_Jx4a65c_grow_d5877 : Cond.instanceMethod yJx4a65c_grow_d5877 ∈ am_WS := am_ws (i := 367) (by decide +kernel) rfl
theorem se_Jx4a65c_grow_d5877 : Cond.selects RJx4a65c yJx4a65c_grow_d5877 yJx4a65c_grow_d5877 ∈ am_WS := am_ws (i := 2) (by decide +kernel) rfl
theorem mi_Jx4a65c_size_8abf5 : Cond.instanceMethod yJx4a65c_size_8abf5 ∈ am_WS := am_ws (i := 251) (by decide +kernel) rfl
theorem se_Jx4a65c_size_8abf5 : Cond.selects RJx4a65c yJx4a65c_size_8abf5 yJx4a65c_size_8abf5 ∈ am_WS := am_ws (i := 252) (by decide +kernel) rfl
theorem mi_Jx4a65c_elementData_915e3 : Cond.instanceMethod yJx4a65c_elementData_915e3 ∈ am_WS := am_ws (i := 498) (by decide +kernel) rfl
theorem se_Jx4a65c_elementData_915e3 : Cond.selects RJx4a65c yJx4a65c_elementData_915e3 yJx4a65c_elementData_915e3 ∈ am_WS := am_ws (i := 499) (by decide +kernel) rfl
theorem mi_Jx4a65c_get_915e3 : Cond.instanceMethod yJx4a65c_get_915e3 ∈ am_WS := am_ws (i := 488) (by decide +kernel) rfl
theorem se_Jx4a65c_get_915e3 : Cond.selects RJx4a65c yJx4a65c_get_915e3 yJx4a65c_get_915e3 ∈ am_WS := am_ws (i := 489) (by decide +kernel) rfl
theorem mi_Jx4a65c_add_72be8 : Cond.instanceMethod yJx4a65c_add_72be8 ∈ am_WS := am_ws (i := 363) (by decide +kernel) rfl
theorem se_Jx4a65c_add_72be8 : Cond.selects RJx4a65c yJx4a65c_add_72be8 yJx4a65c_add_72be8 ∈ am_WS := am_ws (i := 1) (by decide +kernel) rfl
theorem mi_Jx4a65c_add_9ea2d : Cond.instanceMethod yJx4a65c_add_9ea2d ∈ am_WS := am_ws (i := 358) (by decide +kernel) rfl
theorem se_Jx4a65c_add_9ea2d : Cond.selects RJx4a65c yJx4a65c_add_9ea2d yJx4a65c_add_9ea2d ∈ am_WS := am_ws (i := 359) (by decide +kernel) rfl
theorem mi_Jx4a65c_add_7a177 : Cond.instanceMethod yJx4a65c_add_7a177 ∈ am_WS := am_ws (i := 544) (by decide +kernel) rfl
theorem se_Jx4a65c_add_7a177 : Cond.selects RJx4a65c yJx4a65c_add_7a177 yJx4a65c_add_7a177 ∈ am_WS := am_ws (i := 545) (by decide +kernel) rfl
theorem mi_Jx4a65c_clear_da8c8 : Cond.instanceMethod yJx4a65c_clear_da8c8 ∈ am_WS := am_ws (i := 532) (by decide +kernel) rfl
theorem se_Jx4a65c_clear_da8c8 : Cond.selects RJx4a65c yJx4a65c_clear_da8c8 yJx4a65c_clear_da8c8 ∈ am_WS := am_ws (i := 533) (by decide +kernel) rfl
theorem mi_Jx4a65c_rangeCheckForAdd_d00df : Cond.instanceMethod yJx4a65c_rangeCheckForAdd_d00df ∈ am_WS := am_ws (i := 549) (by decide +kernel) rfl
theorem se_Jx4a65c_rangeCheckForAdd_d00df : Cond.selects RJx4a65c yJx4a65c_rangeCheckForAdd_d00df yJx4a65c_rangeCheckForAdd_d00df ∈ am_WS := am_ws (i := 7) (by decide +kernel) rfl
theorem mi_Jx4a65c_outOfBoundsMsg_b52d3 : Cond.instanceMethod yJx4a65c_outOfBoundsMsg_b52d3 ∈ am_WS := am_ws (i := 554) (by decide +kernel) rfl
theorem se_Jx4a65c_outOfBoundsMsg_b52d3 : Cond.selects RJx4a65c yJx4a65c_outOfBoundsMsg_b52d3 yJx4a65c_outOfBoundsMsg_b52d3 ∈ am_WS := am_ws (i := 8) (by decide +kernel) rfl
theorem ms_J7_copyOf_1904c : Cond.static yJ7_copyOf_1904c ∈ am_WS := am_ws (i := 384) (by decide +kernel) rfl
theorem ms_J7_copyOf_6403c : Cond.static yJ7_copyOf_6403c ∈ am_WS := am_ws (i := 403) (by decide +kernel) rfl
theorem ms_J7_checkLength_df160 : Cond.static yJ7_checkLength_df160 ∈ am_WS := am_ws (i := 753) (by decide +kernel) rfl
theorem ms_J7_copyOfRangeByte_39247 : Cond.static yJ7_copyOfRangeByte_39247 ∈ am_WS := am_ws (i := 750) (by decide +kernel) rfl
theorem ms_J15_checkIndex_7cf53 : Cond.static yJ15_checkIndex_7cf53 ∈ am_WS := am_ws (i := 492) (by decide +kernel) rfl
theorem ms_J8_newLength_cabcc : Cond.static yJ8_newLength_cabcc ∈ am_WS := am_ws (i := 374) (by decide +kernel) rfl
theorem ms_J8_hugeLength_7cf53 : Cond.static yJ8_hugeLength_7cf53 ∈ am_WS := am_ws (i := 381) (by decide +kernel) rfl
theorem ms_J3_checkIndex_8e157 : Cond.static yJ3_checkIndex_8e157 ∈ am_WS := am_ws (i := 495) (by decide +kernel) rfl
theorem kl_L_8 : Cond.classLink RL 8 "PipewrightExchange" ∈ am_WS := am_ws (i := 65) (by decide +kernel) rfl
theorem kl_X4_9 : Cond.classLink RX4 9 "java/util/ArrayList" ∈ am_WS := am_ws (i := 73) (by decide +kernel) rfl
theorem kl_X4_16 : Cond.classLink RX4 16 "PipewrightExchange$Net" ∈ am_WS := am_ws (i := 99) (by decide +kernel) rfl
theorem kl_X2_9 : Cond.classLink RX2 9 "java/util/ArrayList" ∈ am_WS := am_ws (i := 105) (by decide +kernel) rfl
theorem kl_X2_25 : Cond.classLink RX2 25 "[[I" ∈ am_WS := am_ws (i := 107) (by decide +kernel) rfl
theorem kl_L_13 : Cond.classLink RL 13 "java/lang/IllegalArgumentException" ∈ am_WS := am_ws (i := 173) (by decide +kernel) rfl
theorem kl_L_15 : Cond.classLink RL 15 "java/lang/IllegalStateException" ∈ am_WS := am_ws (i := 174) (by decide +kernel) rfl
theorem kl_X4_50 : Cond.classLink RX4 50 "java/lang/IllegalArgumentException" ∈ am_WS := am_ws (i := 182) (by decide +kernel) rfl
theorem kl_X4_61 : Cond.classLink RX4 61 "java/lang/IllegalStateException" ∈ am_WS := am_ws (i := 254) (by decide +kernel) rfl
theorem kl_X4_66 : Cond.classLink RX4 66 "PipewrightExchange$District" ∈ am_WS := am_ws (i := 270) (by decide +kernel) rfl
theorem kl_X1_13 : Cond.classLink RX1 13 "PipewrightExchange$Bid" ∈ am_WS := am_ws (i := 276) (by decide +kernel) rfl
theorem kl_JA_110 : Cond.classLink RJ7 110 "[Ljava/lang/Object;" ∈ am_WS := am_ws (i := 405) (by decide +kernel) rfl
theorem kl_JA_2 : Cond.classLink RJ7 2 "java/lang/Object" ∈ am_WS := am_ws (i := 407) (by decide +kernel) rfl
theorem kl_AL_7 : Cond.classLink RJx4a65c 7 "java/lang/Object" ∈ am_WS := am_ws (i := 415) (by decide +kernel) rfl
theorem kl_L_21 : Cond.classLink RL 21 "java/lang/IndexOutOfBoundsException" ∈ am_WS := am_ws (i := 419) (by decide +kernel) rfl
theorem kl_X4_79 : Cond.classLink RX4 79 "java/lang/IndexOutOfBoundsException" ∈ am_WS := am_ws (i := 428) (by decide +kernel) rfl
theorem kl_X4_91 : Cond.classLink RX4 91 "PipewrightExchange$Pipe" ∈ am_WS := am_ws (i := 446) (by decide +kernel) rfl
theorem kl_AL_187 : Cond.classLink RJx4a65c 187 "java/lang/IndexOutOfBoundsException" ∈ am_WS := am_ws (i := 551) (by decide +kernel) rfl
theorem kl_AL_20 : Cond.classLink RJx4a65c 20 "java/lang/StringBuilder" ∈ am_WS := am_ws (i := 556) (by decide +kernel) rfl
theorem kl_JA_311 : Cond.classLink RJ7 311 "[B" ∈ am_WS := am_ws (i := 618) (by decide +kernel) rfl
theorem kl_JA_43 : Cond.classLink RJ7 43 "java/lang/IllegalArgumentException" ∈ am_WS := am_ws (i := 755) (by decide +kernel) rfl
theorem kl_JA_45 : Cond.classLink RJ7 45 "java/lang/StringBuilder" ∈ am_WS := am_ws (i := 756) (by decide +kernel) rfl
theorem kl_X2_48 : Cond.classLink RX2 48 "PipewrightExchange$Pipe" ∈ am_WS := am_ws (i := 803) (by decide +kernel) rfl
theorem kl_L_64 : Cond.classLink RL 64 "PipewrightExchangeModel" ∈ am_WS := am_ws (i := 931) (by decide +kernel) rfl
theorem oi_i : Cond.instanceMethod Lib.objectInit ∈ am_WS := am_ws (i := 71) (by decide +kernel) rfl
theorem oi_c : Cond.code Lib.objectInit ⟨#[0xb1]⟩ 1 none ∈ am_WS := am_ws (i := 72) (by decide +kernel) rfl
theorem oi_X4 : Cond.methodLink RX4 3 Lib.objectInit ∈ am_WS := am_ws (i := 70) (by decide +kernel) rfl
theorem oi_JC : Cond.methodLink RJxa1e45 1 Lib.objectInit ∈ am_WS := am_ws (i := 84) (by decide +kernel) rfl
theorem oi_X2 : Cond.methodLink RX2 3 Lib.objectInit ∈ am_WS := am_ws (i := 104) (by decide +kernel) rfl
theorem oi_X1 : Cond.methodLink RX1 1 Lib.objectInit ∈ am_WS := am_ws (i := 275) (by decide +kernel) rfl
theorem oi_X0 : Cond.methodLink RX0 1 Lib.objectInit ∈ am_WS := am_ws (i := 281) (by decide +kernel) rfl
theorem ml_JS_194 : Cond.methodLink RJ8 194 Lib.Math.max.name ∈ am_WS := am_ws (i := 376) (by decide +kernel) rfl
theorem ml_JA_304 : Cond.methodLink RJ7 304 Lib.Math.min.name ∈ am_WS := am_ws (i := 408) (by decide +kernel) rfl
theorem ml_AL_79 : Cond.methodLink RJx4a65c 79 Lib.Math.max.name ∈ am_WS := am_ws (i := 414) (by decide +kernel) rfl
theorem oi_X3 : Cond.methodLink RX3 1 Lib.objectInit ∈ am_WS := am_ws (i := 451) (by decide +kernel) rfl
theorem ml_X2_67 : Cond.methodLink RX2 67 Lib.Math.min.name ∈ am_WS := am_ws (i := 811) (by decide +kernel) rfl
theorem ml_X1_73 : Cond.methodLink RX1 73 Lib.Math.min.name ∈ am_WS := am_ws (i := 865) (by decide +kernel) rfl
theorem oi_X5 : Cond.methodLink RX5 1 Lib.objectInit ∈ am_WS := am_ws (i := 936) (by decide +kernel) rfl
theorem ms_min : Cond.static Lib.Math.min.name ∈ am_WS := am_ws (i := 409) (by decide +kernel) rfl
theorem mcode_min : Cond.code Lib.Math.min.name Lib.Math.min.code 2 (some .int) ∈ am_WS := am_ws (i := 410) (by decide +kernel) rfl
theorem ms_max : Cond.static Lib.Math.max.name ∈ am_WS := am_ws (i := 377) (by decide +kernel) rfl
theorem mcode_max : Cond.code Lib.Math.max.name Lib.Math.max.code 2 (some .int) ∈ am_WS := am_ws (i := 378) (by decide +kernel) rfl
theorem ini_Math : Cond.initialized "java/lang/Math" ∈ am_WS := am_ws (i := 51) (by decide +kernel) rfl
theorem aw_int : Cond.arrayClass .int ∈ am_WS := am_ws (i := 133) (by decide +kernel) rfl
theorem aw_boolean : Cond.arrayClass .boolean ∈ am_WS := am_ws (i := 1043) (by decide +kernel) rfl
theorem aw_long : Cond.arrayClass .long ∈ am_WS := am_ws (i := 1186) (by decide +kernel) rfl
