theorem dX0_init_0 : decode cX0_init 0 = .ok (.aload_n 0, 1) := by decide +kernel
theorem dX0_init_1 : decode cX0_init 1 = .ok (.invokespecial 1, 3) := by decide +kernel
theorem dX0_init_4 : decode cX0_init 4 = .ok (.aload_n 0, 1) := by decide +kernel
theorem dX0_init_5 : decode cX0_init 5 = .ok (.iconst 0, 1) := by decide +kernel
theorem dX0_init_6 : decode cX0_init 6 = .ok (.putfield 7, 3) := by decide +kernel
theorem dX0_init_9 : decode cX0_init 9 = .ok (.aload_n 0, 1) := by decide +kernel
theorem dX0_init_10 : decode cX0_init 10 = .ok (.iconst 0, 1) := by decide +kernel
theorem dX0_init_11 : decode cX0_init 11 = .ok (.putfield 13, 3) := by decide +kernel
theorem dX0_init_14 : decode cX0_init 14 = .ok (.aload_n 0, 1) := by decide +kernel
theorem dX0_init_15 : decode cX0_init 15 = .ok (.iconst 0, 1) := by decide +kernel
theorem dX0_init_16 : decode cX0_init 16 = .ok (.putfield 17, 3) := by decide +kernel
theorem dX0_init_19 : decode cX0_init 19 = .ok (.aload_n 0, 1) := by decide +kernel
theorem dX0_init_20 : decode cX0_init 20 = .ok (.iconst 0, 1) := by decide +kernel
theorem dX0_init_21 : decode cX0_init 21 = .ok (.putfield 20, 3) := by decide +kernel
theorem dX0_init_24 : decode cX0_init 24 = .ok (.return_, 1) := by decide +kernel
theorem dX0_set_0 : decode cX0_set 0 = .ok (.aload_n 0, 1) := by decide +kernel
theorem dX0_set_1 : decode cX0_set 1 = .ok (.iconst 1, 1) := by decide +kernel
theorem dX0_set_2 : decode cX0_set 2 = .ok (.putfield 7, 3) := by decide +kernel
theorem dX0_set_5 : decode cX0_set 5 = .ok (.aload_n 0, 1) := by decide +kernel
theorem dX0_set_6 : decode cX0_set 6 = .ok (.iload_n 1, 1) := by decide +kernel
theorem dX0_set_7 : decode cX0_set 7 = .ok (.putfield 13, 3) := by decide +kernel
theorem dX0_set_10 : decode cX0_set 10 = .ok (.aload_n 0, 1) := by decide +kernel
theorem dX0_set_11 : decode cX0_set 11 = .ok (.iload_n 2, 1) := by decide +kernel
theorem dX0_set_12 : decode cX0_set 12 = .ok (.putfield 17, 3) := by decide +kernel
theorem dX0_set_15 : decode cX0_set 15 = .ok (.aload_n 0, 1) := by decide +kernel
theorem dX0_set_16 : decode cX0_set 16 = .ok (.iload_n 3, 1) := by decide +kernel
theorem dX0_set_17 : decode cX0_set 17 = .ok (.putfield 20, 3) := by decide +kernel
theorem dX0_set_20 : decode cX0_set 20 = .ok (.return_, 1) := by decide +kernel
theorem dX0_isAheadOf_0 : decode cX0_isAheadOf 0 = .ok (.aload_n 0, 1) := by decide +kernel
theorem dX0_isAheadOf_1 : decode cX0_isAheadOf 1 = .ok (.getfield 13, 3) := by decide +kernel
theorem dX0_isAheadOf_4 : decode cX0_isAheadOf 4 = .ok (.aload_n 1, 1) := by decide +kernel
theorem dX0_isAheadOf_5 : decode cX0_isAheadOf 5 = .ok (.getfield 13, 3) := by decide +kernel
theorem dX0_isAheadOf_8 : decode cX0_isAheadOf 8 = .ok (.if_icmp .eq 22, 3) := by decide +kernel
theorem dX0_isAheadOf_11 : decode cX0_isAheadOf 11 = .ok (.aload_n 0, 1) := by decide +kernel
theorem dX0_isAheadOf_12 : decode cX0_isAheadOf 12 = .ok (.getfield 13, 3) := by decide +kernel
theorem dX0_isAheadOf_15 : decode cX0_isAheadOf 15 = .ok (.aload_n 1, 1) := by decide +kernel
theorem dX0_isAheadOf_16 : decode cX0_isAheadOf 16 = .ok (.getfield 13, 3) := by decide +kernel
theorem dX0_isAheadOf_19 : decode cX0_isAheadOf 19 = .ok (.if_icmp .le 7, 3) := by decide +kernel
theorem dX0_isAheadOf_22 : decode cX0_isAheadOf 22 = .ok (.iconst 1, 1) := by decide +kernel
theorem dX0_isAheadOf_23 : decode cX0_isAheadOf 23 = .ok (.goto 23, 3) := by decide +kernel
theorem dX0_isAheadOf_26 : decode cX0_isAheadOf 26 = .ok (.iconst 0, 1) := by decide +kernel
theorem dX0_isAheadOf_27 : decode cX0_isAheadOf 27 = .ok (.goto 19, 3) := by decide +kernel
theorem dX0_isAheadOf_30 : decode cX0_isAheadOf 30 = .ok (.aload_n 0, 1) := by decide +kernel
theorem dX0_isAheadOf_31 : decode cX0_isAheadOf 31 = .ok (.getfield 20, 3) := by decide +kernel
theorem dX0_isAheadOf_34 : decode cX0_isAheadOf 34 = .ok (.aload_n 1, 1) := by decide +kernel
theorem dX0_isAheadOf_35 : decode cX0_isAheadOf 35 = .ok (.getfield 20, 3) := by decide +kernel
theorem dX0_isAheadOf_38 : decode cX0_isAheadOf 38 = .ok (.if_icmp .ge 7, 3) := by decide +kernel
theorem dX0_isAheadOf_41 : decode cX0_isAheadOf 41 = .ok (.iconst 1, 1) := by decide +kernel
theorem dX0_isAheadOf_42 : decode cX0_isAheadOf 42 = .ok (.goto 4, 3) := by decide +kernel
theorem dX0_isAheadOf_45 : decode cX0_isAheadOf 45 = .ok (.iconst 0, 1) := by decide +kernel
theorem dX0_isAheadOf_46 : decode cX0_isAheadOf 46 = .ok (.ireturn, 1) := by decide +kernel
theorem dX1_init_0 : decode cX1_init 0 = .ok (.aload_n 0, 1) := by decide +kernel
theorem dX1_init_1 : decode cX1_init 1 = .ok (.invokespecial 1, 3) := by decide +kernel
theorem dX1_init_4 : decode cX1_init 4 = .ok (.aload_n 0, 1) := by decide +kernel
theorem dX1_init_5 : decode cX1_init 5 = .ok (.iconst 0, 1) := by decide +kernel
theorem dX1_init_6 : decode cX1_init 6 = .ok (.putfield 7, 3) := by decide +kernel
theorem dX1_init_9 : decode cX1_init 9 = .ok (.aload_n 0, 1) := by decide +kernel
theorem dX1_init_10 : decode cX1_init 10 = .ok (.new 13, 3) := by decide +kernel
theorem dX1_init_13 : decode cX1_init 13 = .ok (.dup, 1) := by decide +kernel
theorem dX1_init_14 : decode cX1_init 14 = .ok (.invokespecial 15, 3) := by decide +kernel
theorem dX1_init_17 : decode cX1_init 17 = .ok (.putfield 16, 3) := by decide +kernel
theorem dX1_init_20 : decode cX1_init 20 = .ok (.aload_n 0, 1) := by decide +kernel
theorem dX1_init_21 : decode cX1_init 21 = .ok (.new 13, 3) := by decide +kernel
theorem dX1_init_24 : decode cX1_init 24 = .ok (.dup, 1) := by decide +kernel
theorem dX1_init_25 : decode cX1_init 25 = .ok (.invokespecial 15, 3) := by decide +kernel
theorem dX1_init_28 : decode cX1_init 28 = .ok (.putfield 20, 3) := by decide +kernel
theorem dX1_init_31 : decode cX1_init 31 = .ok (.aload_n 0, 1) := by decide +kernel
theorem dX1_init_32 : decode cX1_init 32 = .ok (.iconst 0, 1) := by decide +kernel
theorem dX1_init_33 : decode cX1_init 33 = .ok (.putfield 23, 3) := by decide +kernel
theorem dX1_init_36 : decode cX1_init 36 = .ok (.aload_n 0, 1) := by decide +kernel
theorem dX1_init_37 : decode cX1_init 37 = .ok (.iconst 0, 1) := by decide +kernel
theorem dX1_init_38 : decode cX1_init 38 = .ok (.putfield 27, 3) := by decide +kernel
theorem dX1_init_41 : decode cX1_init 41 = .ok (.aload_n 0, 1) := by decide +kernel
theorem dX1_init_42 : decode cX1_init 42 = .ok (.iconst 0, 1) := by decide +kernel
theorem dX1_init_43 : decode cX1_init 43 = .ok (.putfield 30, 3) := by decide +kernel
theorem dX1_init_46 : decode cX1_init 46 = .ok (.aload_n 0, 1) := by decide +kernel
theorem dX1_init_47 : decode cX1_init 47 = .ok (.iconst 0, 1) := by decide +kernel
theorem dX1_init_48 : decode cX1_init 48 = .ok (.putfield 33, 3) := by decide +kernel
theorem dX1_init_51 : decode cX1_init 51 = .ok (.aload_n 0, 1) := by decide +kernel
theorem dX1_init_52 : decode cX1_init 52 = .ok (.iconst 0, 1) := by decide +kernel
theorem dX1_init_53 : decode cX1_init 53 = .ok (.putfield 36, 3) := by decide +kernel
theorem dX1_init_56 : decode cX1_init 56 = .ok (.aload_n 0, 1) := by decide +kernel
theorem dX1_init_57 : decode cX1_init 57 = .ok (.iconst 0, 1) := by decide +kernel
theorem dX1_init_58 : decode cX1_init 58 = .ok (.putfield 39, 3) := by decide +kernel
theorem dX1_init_61 : decode cX1_init 61 = .ok (.aload_n 0, 1) := by decide +kernel
theorem dX1_init_62 : decode cX1_init 62 = .ok (.iconst 0, 1) := by decide +kernel
theorem dX1_init_63 : decode cX1_init 63 = .ok (.putfield 42, 3) := by decide +kernel
theorem dX1_init_66 : decode cX1_init 66 = .ok (.aload_n 0, 1) := by decide +kernel
theorem dX1_init_67 : decode cX1_init 67 = .ok (.iconst 0, 1) := by decide +kernel
theorem dX1_init_68 : decode cX1_init 68 = .ok (.putfield 45, 3) := by decide +kernel
theorem dX1_init_71 : decode cX1_init 71 = .ok (.aload_n 0, 1) := by decide +kernel
theorem dX1_init_72 : decode cX1_init 72 = .ok (.iload_n 1, 1) := by decide +kernel
theorem dX1_init_73 : decode cX1_init 73 = .ok (.iconst 1, 1) := by decide +kernel
theorem dX1_init_74 : decode cX1_init 74 = .ok (.iadd, 1) := by decide +kernel
theorem dX1_init_75 : decode cX1_init 75 = .ok (.putfield 48, 3) := by decide +kernel
theorem dX1_init_78 : decode cX1_init 78 = .ok (.aload_n 0, 1) := by decide +kernel
theorem dX1_init_79 : decode cX1_init 79 = .ok (.iload_n 2, 1) := by decide +kernel
theorem dX1_init_80 : decode cX1_init 80 = .ok (.putfield 51, 3) := by decide +kernel
theorem dX1_init_83 : decode cX1_init 83 = .ok (.aload_n 0, 1) := by decide +kernel
theorem dX1_init_84 : decode cX1_init 84 = .ok (.iload_n 3, 1) := by decide +kernel
theorem dX1_init_85 : decode cX1_init 85 = .ok (.putfield 54, 3) := by decide +kernel
theorem dX1_init_88 : decode cX1_init 88 = .ok (.return_, 1) := by decide +kernel
theorem dX1_settleRound_0 : decode cX1_settleRound 0 = .ok (.aload_n 0, 1) := by decide +kernel
theorem dX1_settleRound_1 : decode cX1_settleRound 1 = .ok (.getfield 20, 3) := by decide +kernel
theorem dX1_settleRound_4 : decode cX1_settleRound 4 = .ok (.getfield 57, 3) := by decide +kernel
theorem dX1_settleRound_7 : decode cX1_settleRound 7 = .ok (.ifCond .eq 47, 3) := by decide +kernel
theorem dX1_settleRound_10 : decode cX1_settleRound 10 = .ok (.aload_n 0, 1) := by decide +kernel
theorem dX1_settleRound_11 : decode cX1_settleRound 11 = .ok (.getfield 16, 3) := by decide +kernel
theorem dX1_settleRound_14 : decode cX1_settleRound 14 = .ok (.aload_n 0, 1) := by decide +kernel
theorem dX1_settleRound_15 : decode cX1_settleRound 15 = .ok (.getfield 20, 3) := by decide +kernel
theorem dX1_settleRound_18 : decode cX1_settleRound 18 = .ok (.getfield 60, 3) := by decide +kernel
theorem dX1_settleRound_21 : decode cX1_settleRound 21 = .ok (.aload_n 0, 1) := by decide +kernel
theorem dX1_settleRound_22 : decode cX1_settleRound 22 = .ok (.getfield 20, 3) := by decide +kernel
theorem dX1_settleRound_25 : decode cX1_settleRound 25 = .ok (.getfield 63, 3) := by decide +kernel
theorem dX1_settleRound_28 : decode cX1_settleRound 28 = .ok (.aload_n 0, 1) := by decide +kernel
theorem dX1_settleRound_29 : decode cX1_settleRound 29 = .ok (.getfield 20, 3) := by decide +kernel
theorem dX1_settleRound_32 : decode cX1_settleRound 32 = .ok (.getfield 66, 3) := by decide +kernel
theorem dX1_settleRound_35 : decode cX1_settleRound 35 = .ok (.invokevirtual 69, 3) := by decide +kernel
theorem dX1_settleRound_38 : decode cX1_settleRound 38 = .ok (.aload_n 0, 1) := by decide +kernel
theorem dX1_settleRound_39 : decode cX1_settleRound 39 = .ok (.getfield 20, 3) := by decide +kernel
theorem dX1_settleRound_42 : decode cX1_settleRound 42 = .ok (.iconst 0, 1) := by decide +kernel
theorem dX1_settleRound_43 : decode cX1_settleRound 43 = .ok (.putfield 57, 3) := by decide +kernel
theorem dX1_settleRound_46 : decode cX1_settleRound 46 = .ok (.aload_n 0, 1) := by decide +kernel
theorem dX1_settleRound_47 : decode cX1_settleRound 47 = .ok (.iconst 0, 1) := by decide +kernel
theorem dX1_settleRound_48 : decode cX1_settleRound 48 = .ok (.putfield 23, 3) := by decide +kernel
theorem dX1_settleRound_51 : decode cX1_settleRound 51 = .ok (.goto 23, 3) := by decide +kernel
theorem dX1_settleRound_54 : decode cX1_settleRound 54 = .ok (.aload_n 0, 1) := by decide +kernel
theorem dX1_settleRound_55 : decode cX1_settleRound 55 = .ok (.getfield 23, 3) := by decide +kernel
theorem dX1_settleRound_58 : decode cX1_settleRound 58 = .ok (.ifCond .eq 11, 3) := by decide +kernel
theorem dX1_settleRound_61 : decode cX1_settleRound 61 = .ok (.aload_n 0, 1) := by decide +kernel
theorem dX1_settleRound_62 : decode cX1_settleRound 62 = .ok (.getfield 16, 3) := by decide +kernel
theorem dX1_settleRound_65 : decode cX1_settleRound 65 = .ok (.iconst 0, 1) := by decide +kernel
theorem dX1_settleRound_66 : decode cX1_settleRound 66 = .ok (.putfield 57, 3) := by decide +kernel
theorem dX1_settleRound_69 : decode cX1_settleRound 69 = .ok (.aload_n 0, 1) := by decide +kernel
theorem dX1_settleRound_70 : decode cX1_settleRound 70 = .ok (.iconst 1, 1) := by decide +kernel
theorem dX1_settleRound_71 : decode cX1_settleRound 71 = .ok (.putfield 23, 3) := by decide +kernel
theorem dX1_settleRound_74 : decode cX1_settleRound 74 = .ok (.return_, 1) := by decide +kernel
theorem dX1_pay_0 : decode cX1_pay 0 = .ok (.aload_n 0, 1) := by decide +kernel
theorem dX1_pay_1 : decode cX1_pay 1 = .ok (.dup, 1) := by decide +kernel
theorem dX1_pay_2 : decode cX1_pay 2 = .ok (.getfield 33, 3) := by decide +kernel
theorem dX1_pay_5 : decode cX1_pay 5 = .ok (.aload_n 0, 1) := by decide +kernel
theorem dX1_pay_6 : decode cX1_pay 6 = .ok (.getfield 16, 3) := by decide +kernel
theorem dX1_pay_9 : decode cX1_pay 9 = .ok (.getfield 60, 3) := by decide +kernel
theorem dX1_pay_12 : decode cX1_pay 12 = .ok (.aload_n 0, 1) := by decide +kernel
theorem dX1_pay_13 : decode cX1_pay 13 = .ok (.getfield 30, 3) := by decide +kernel
theorem dX1_pay_16 : decode cX1_pay 16 = .ok (.imul, 1) := by decide +kernel
theorem dX1_pay_17 : decode cX1_pay 17 = .ok (.iadd, 1) := by decide +kernel
theorem dX1_pay_18 : decode cX1_pay 18 = .ok (.putfield 33, 3) := by decide +kernel
theorem dX1_pay_21 : decode cX1_pay 21 = .ok (.return_, 1) := by decide +kernel
theorem dX1_takeBackPay_0 : decode cX1_takeBackPay 0 = .ok (.aload_n 0, 1) := by decide +kernel
theorem dX1_takeBackPay_1 : decode cX1_takeBackPay 1 = .ok (.getfield 27, 3) := by decide +kernel
theorem dX1_takeBackPay_4 : decode cX1_takeBackPay 4 = .ok (.aload_n 0, 1) := by decide +kernel
theorem dX1_takeBackPay_5 : decode cX1_takeBackPay 5 = .ok (.getfield 30, 3) := by decide +kernel
theorem dX1_takeBackPay_8 : decode cX1_takeBackPay 8 = .ok (.isub, 1) := by decide +kernel
theorem dX1_takeBackPay_9 : decode cX1_takeBackPay 9 = .ok (.istore_n 1, 1) := by decide +kernel
theorem dX1_takeBackPay_10 : decode cX1_takeBackPay 10 = .ok (.aload_n 0, 1) := by decide +kernel
theorem dX1_takeBackPay_11 : decode cX1_takeBackPay 11 = .ok (.getfield 16, 3) := by decide +kernel
theorem dX1_takeBackPay_14 : decode cX1_takeBackPay 14 = .ok (.getfield 60, 3) := by decide +kernel
theorem dX1_takeBackPay_17 : decode cX1_takeBackPay 17 = .ok (.iload_n 1, 1) := by decide +kernel
theorem dX1_takeBackPay_18 : decode cX1_takeBackPay 18 = .ok (.imul, 1) := by decide +kernel
theorem dX1_takeBackPay_19 : decode cX1_takeBackPay 19 = .ok (.istore_n 2, 1) := by decide +kernel
theorem dX1_takeBackPay_20 : decode cX1_takeBackPay 20 = .ok (.aload_n 0, 1) := by decide +kernel
theorem dX1_takeBackPay_21 : decode cX1_takeBackPay 21 = .ok (.dup, 1) := by decide +kernel
theorem dX1_takeBackPay_22 : decode cX1_takeBackPay 22 = .ok (.getfield 36, 3) := by decide +kernel
theorem dX1_takeBackPay_25 : decode cX1_takeBackPay 25 = .ok (.iload_n 2, 1) := by decide +kernel
theorem dX1_takeBackPay_26 : decode cX1_takeBackPay 26 = .ok (.iload_n 2, 1) := by decide +kernel
theorem dX1_takeBackPay_27 : decode cX1_takeBackPay 27 = .ok (.bipush 10, 2) := by decide +kernel
theorem dX1_takeBackPay_29 : decode cX1_takeBackPay 29 = .ok (.idiv, 1) := by decide +kernel
theorem dX1_takeBackPay_30 : decode cX1_takeBackPay 30 = .ok (.iadd, 1) := by decide +kernel
theorem dX1_takeBackPay_31 : decode cX1_takeBackPay 31 = .ok (.iadd, 1) := by decide +kernel
theorem dX1_takeBackPay_32 : decode cX1_takeBackPay 32 = .ok (.putfield 36, 3) := by decide +kernel
theorem dX1_takeBackPay_35 : decode cX1_takeBackPay 35 = .ok (.iload_n 1, 1) := by decide +kernel
theorem dX1_takeBackPay_36 : decode cX1_takeBackPay 36 = .ok (.ireturn, 1) := by decide +kernel
theorem dX1_store_0 : decode cX1_store 0 = .ok (.aload_n 0, 1) := by decide +kernel
theorem dX1_store_1 : decode cX1_store 1 = .ok (.getfield 30, 3) := by decide +kernel
theorem dX1_store_4 : decode cX1_store 4 = .ok (.aload_n 0, 1) := by decide +kernel
theorem dX1_store_5 : decode cX1_store 5 = .ok (.getfield 51, 3) := by decide +kernel
theorem dX1_store_8 : decode cX1_store 8 = .ok (.aload_n 0, 1) := by decide +kernel
theorem dX1_store_9 : decode cX1_store 9 = .ok (.getfield 7, 3) := by decide +kernel
theorem dX1_store_12 : decode cX1_store 12 = .ok (.isub, 1) := by decide +kernel
theorem dX1_store_13 : decode cX1_store 13 = .ok (.invokestatic 73, 3) := by decide +kernel
theorem dX1_store_16 : decode cX1_store 16 = .ok (.istore_n 1, 1) := by decide +kernel
theorem dX1_store_17 : decode cX1_store 17 = .ok (.aload_n 0, 1) := by decide +kernel
theorem dX1_store_18 : decode cX1_store 18 = .ok (.dup, 1) := by decide +kernel
theorem dX1_store_19 : decode cX1_store 19 = .ok (.getfield 7, 3) := by decide +kernel
theorem dX1_store_22 : decode cX1_store 22 = .ok (.iload_n 1, 1) := by decide +kernel
theorem dX1_store_23 : decode cX1_store 23 = .ok (.iadd, 1) := by decide +kernel
theorem dX1_store_24 : decode cX1_store 24 = .ok (.putfield 7, 3) := by decide +kernel
theorem dX1_store_27 : decode cX1_store 27 = .ok (.aload_n 0, 1) := by decide +kernel
theorem dX1_store_28 : decode cX1_store 28 = .ok (.dup, 1) := by decide +kernel
theorem dX1_store_29 : decode cX1_store 29 = .ok (.getfield 45, 3) := by decide +kernel
theorem dX1_store_32 : decode cX1_store 32 = .ok (.aload_n 0, 1) := by decide +kernel
theorem dX1_store_33 : decode cX1_store 33 = .ok (.getfield 30, 3) := by decide +kernel
theorem dX1_store_36 : decode cX1_store 36 = .ok (.iload_n 1, 1) := by decide +kernel
theorem dX1_store_37 : decode cX1_store 37 = .ok (.isub, 1) := by decide +kernel
theorem dX1_store_38 : decode cX1_store 38 = .ok (.iadd, 1) := by decide +kernel
theorem dX1_store_39 : decode cX1_store 39 = .ok (.putfield 45, 3) := by decide +kernel
theorem dX1_store_42 : decode cX1_store 42 = .ok (.return_, 1) := by decide +kernel
theorem dX1_takeNeed_0 : decode cX1_takeNeed 0 = .ok (.aload_n 0, 1) := by decide +kernel
theorem dX1_takeNeed_1 : decode cX1_takeNeed 1 = .ok (.getfield 54, 3) := by decide +kernel
theorem dX1_takeNeed_4 : decode cX1_takeNeed 4 = .ok (.aload_n 0, 1) := by decide +kernel
theorem dX1_takeNeed_5 : decode cX1_takeNeed 5 = .ok (.getfield 7, 3) := by decide +kernel
theorem dX1_takeNeed_8 : decode cX1_takeNeed 8 = .ok (.invokestatic 73, 3) := by decide +kernel
theorem dX1_takeNeed_11 : decode cX1_takeNeed 11 = .ok (.istore_n 1, 1) := by decide +kernel
theorem dX1_takeNeed_12 : decode cX1_takeNeed 12 = .ok (.aload_n 0, 1) := by decide +kernel
theorem dX1_takeNeed_13 : decode cX1_takeNeed 13 = .ok (.getfield 54, 3) := by decide +kernel
theorem dX1_takeNeed_16 : decode cX1_takeNeed 16 = .ok (.iload_n 1, 1) := by decide +kernel
theorem dX1_takeNeed_17 : decode cX1_takeNeed 17 = .ok (.isub, 1) := by decide +kernel
theorem dX1_takeNeed_18 : decode cX1_takeNeed 18 = .ok (.istore_n 2, 1) := by decide +kernel
theorem dX1_takeNeed_19 : decode cX1_takeNeed 19 = .ok (.aload_n 0, 1) := by decide +kernel
theorem dX1_takeNeed_20 : decode cX1_takeNeed 20 = .ok (.dup, 1) := by decide +kernel
theorem dX1_takeNeed_21 : decode cX1_takeNeed 21 = .ok (.getfield 7, 3) := by decide +kernel
theorem dX1_takeNeed_24 : decode cX1_takeNeed 24 = .ok (.iload_n 1, 1) := by decide +kernel
theorem dX1_takeNeed_25 : decode cX1_takeNeed 25 = .ok (.isub, 1) := by decide +kernel
theorem dX1_takeNeed_26 : decode cX1_takeNeed 26 = .ok (.putfield 7, 3) := by decide +kernel
theorem dX1_takeNeed_29 : decode cX1_takeNeed 29 = .ok (.aload_n 0, 1) := by decide +kernel
theorem dX1_takeNeed_30 : decode cX1_takeNeed 30 = .ok (.dup, 1) := by decide +kernel
theorem dX1_takeNeed_31 : decode cX1_takeNeed 31 = .ok (.getfield 39, 3) := by decide +kernel
theorem dX1_takeNeed_34 : decode cX1_takeNeed 34 = .ok (.iload_n 1, 1) := by decide +kernel
theorem dX1_takeNeed_35 : decode cX1_takeNeed 35 = .ok (.iadd, 1) := by decide +kernel
theorem dX1_takeNeed_36 : decode cX1_takeNeed 36 = .ok (.putfield 39, 3) := by decide +kernel
theorem dX1_takeNeed_39 : decode cX1_takeNeed 39 = .ok (.aload_n 0, 1) := by decide +kernel
theorem dX1_takeNeed_40 : decode cX1_takeNeed 40 = .ok (.dup, 1) := by decide +kernel
theorem dX1_takeNeed_41 : decode cX1_takeNeed 41 = .ok (.getfield 42, 3) := by decide +kernel
theorem dX1_takeNeed_44 : decode cX1_takeNeed 44 = .ok (.iload_n 2, 1) := by decide +kernel
theorem dX1_takeNeed_45 : decode cX1_takeNeed 45 = .ok (.iadd, 1) := by decide +kernel
theorem dX1_takeNeed_46 : decode cX1_takeNeed 46 = .ok (.putfield 42, 3) := by decide +kernel
theorem dX1_takeNeed_49 : decode cX1_takeNeed 49 = .ok (.iload_n 2, 1) := by decide +kernel
theorem dX1_takeNeed_50 : decode cX1_takeNeed 50 = .ok (.ireturn, 1) := by decide +kernel
theorem dX1_beginHour_0 : decode cX1_beginHour 0 = .ok (.aload_n 0, 1) := by decide +kernel
theorem dX1_beginHour_1 : decode cX1_beginHour 1 = .ok (.getfield 16, 3) := by decide +kernel
theorem dX1_beginHour_4 : decode cX1_beginHour 4 = .ok (.iconst 0, 1) := by decide +kernel
theorem dX1_beginHour_5 : decode cX1_beginHour 5 = .ok (.putfield 57, 3) := by decide +kernel
theorem dX1_beginHour_8 : decode cX1_beginHour 8 = .ok (.aload_n 0, 1) := by decide +kernel
theorem dX1_beginHour_9 : decode cX1_beginHour 9 = .ok (.iconst 0, 1) := by decide +kernel
theorem dX1_beginHour_10 : decode cX1_beginHour 10 = .ok (.putfield 30, 3) := by decide +kernel
theorem dX1_beginHour_13 : decode cX1_beginHour 13 = .ok (.return_, 1) := by decide +kernel
theorem dX2_init_0 : decode cX2_init 0 = .ok (.aload_n 0, 1) := by decide +kernel
theorem dX2_init_1 : decode cX2_init 1 = .ok (.invokespecial 3, 3) := by decide +kernel
theorem dX2_init_4 : decode cX2_init 4 = .ok (.aload_n 0, 1) := by decide +kernel
theorem dX2_init_5 : decode cX2_init 5 = .ok (.new 9, 3) := by decide +kernel
theorem dX2_init_8 : decode cX2_init 8 = .ok (.dup, 1) := by decide +kernel
theorem dX2_init_9 : decode cX2_init 9 = .ok (.invokespecial 11, 3) := by decide +kernel
theorem dX2_init_12 : decode cX2_init 12 = .ok (.putfield 12, 3) := by decide +kernel
theorem dX2_init_15 : decode cX2_init 15 = .ok (.aload_n 0, 1) := by decide +kernel
theorem dX2_init_16 : decode cX2_init 16 = .ok (.iconst 0, 1) := by decide +kernel
theorem dX2_init_17 : decode cX2_init 17 = .ok (.putfield 18, 3) := by decide +kernel
theorem dX2_init_20 : decode cX2_init 20 = .ok (.aload_n 0, 1) := by decide +kernel
theorem dX2_init_21 : decode cX2_init 21 = .ok (.iconst 0, 1) := by decide +kernel
theorem dX2_init_22 : decode cX2_init 22 = .ok (.putfield 22, 3) := by decide +kernel
theorem dX2_init_25 : decode cX2_init 25 = .ok (.aload_n 0, 1) := by decide +kernel
theorem dX2_init_26 : decode cX2_init 26 = .ok (.bipush 9, 2) := by decide +kernel
theorem dX2_init_28 : decode cX2_init 28 = .ok (.bipush 9, 2) := by decide +kernel
theorem dX2_init_30 : decode cX2_init 30 = .ok (.multianewarray 25 2, 4) := by decide +kernel
theorem dX2_init_34 : decode cX2_init 34 = .ok (.putfield 27, 3) := by decide +kernel
theorem dX2_init_37 : decode cX2_init 37 = .ok (.aload_n 0, 1) := by decide +kernel
theorem dX2_init_38 : decode cX2_init 38 = .ok (.bipush 9, 2) := by decide +kernel
theorem dX2_init_40 : decode cX2_init 40 = .ok (.newarray .int, 2) := by decide +kernel
theorem dX2_init_42 : decode cX2_init 42 = .ok (.putfield 30, 3) := by decide +kernel
theorem dX2_init_45 : decode cX2_init 45 = .ok (.aload_n 0, 1) := by decide +kernel
theorem dX2_init_46 : decode cX2_init 46 = .ok (.bipush 9, 2) := by decide +kernel
theorem dX2_init_48 : decode cX2_init 48 = .ok (.newarray .int, 2) := by decide +kernel
theorem dX2_init_50 : decode cX2_init 50 = .ok (.putfield 34, 3) := by decide +kernel
theorem dX2_init_53 : decode cX2_init 53 = .ok (.aload_n 0, 1) := by decide +kernel
theorem dX2_init_54 : decode cX2_init 54 = .ok (.bipush 9, 2) := by decide +kernel
theorem dX2_init_56 : decode cX2_init 56 = .ok (.newarray .int, 2) := by decide +kernel
theorem dX2_init_58 : decode cX2_init 58 = .ok (.putfield 37, 3) := by decide +kernel
theorem dX2_init_61 : decode cX2_init 61 = .ok (.return_, 1) := by decide +kernel
theorem dX2_countBurst_0 : decode cX2_countBurst 0 = .ok (.iconst 0, 1) := by decide +kernel
theorem dX2_countBurst_1 : decode cX2_countBurst 1 = .ok (.istore_n 1, 1) := by decide +kernel
theorem dX2_countBurst_2 : decode cX2_countBurst 2 = .ok (.iconst 0, 1) := by decide +kernel
theorem dX2_countBurst_3 : decode cX2_countBurst 3 = .ok (.istore_n 2, 1) := by decide +kernel
theorem dX2_countBurst_4 : decode cX2_countBurst 4 = .ok (.iload_n 2, 1) := by decide +kernel
theorem dX2_countBurst_5 : decode cX2_countBurst 5 = .ok (.aload_n 0, 1) := by decide +kernel
theorem dX2_countBurst_6 : decode cX2_countBurst 6 = .ok (.getfield 12, 3) := by decide +kernel
theorem dX2_countBurst_9 : decode cX2_countBurst 9 = .ok (.invokevirtual 40, 3) := by decide +kernel
theorem dX2_countBurst_12 : decode cX2_countBurst 12 = .ok (.if_icmp .ge 29, 3) := by decide +kernel
theorem dX2_countBurst_15 : decode cX2_countBurst 15 = .ok (.aload_n 0, 1) := by decide +kernel
theorem dX2_countBurst_16 : decode cX2_countBurst 16 = .ok (.getfield 12, 3) := by decide +kernel
theorem dX2_countBurst_19 : decode cX2_countBurst 19 = .ok (.iload_n 2, 1) := by decide +kernel
theorem dX2_countBurst_20 : decode cX2_countBurst 20 = .ok (.invokevirtual 44, 3) := by decide +kernel
theorem dX2_countBurst_23 : decode cX2_countBurst 23 = .ok (.checkcast 48, 3) := by decide +kernel
theorem dX2_countBurst_26 : decode cX2_countBurst 26 = .ok (.getfield 50, 3) := by decide +kernel
theorem dX2_countBurst_29 : decode cX2_countBurst 29 = .ok (.ifCond .eq 6, 3) := by decide +kernel
theorem dX2_countBurst_32 : decode cX2_countBurst 32 = .ok (.iinc 1 1, 3) := by decide +kernel
theorem dX2_countBurst_35 : decode cX2_countBurst 35 = .ok (.iinc 2 1, 3) := by decide +kernel
theorem dX2_countBurst_38 : decode cX2_countBurst 38 = .ok (.goto (-34), 3) := by decide +kernel
theorem dX2_countBurst_41 : decode cX2_countBurst 41 = .ok (.iload_n 1, 1) := by decide +kernel
theorem dX2_countBurst_42 : decode cX2_countBurst 42 = .ok (.ireturn, 1) := by decide +kernel
theorem dX2_empty_0 : decode cX2_empty 0 = .ok (.aload_n 0, 1) := by decide +kernel
theorem dX2_empty_1 : decode cX2_empty 1 = .ok (.aload_n 0, 1) := by decide +kernel
theorem dX2_empty_2 : decode cX2_empty 2 = .ok (.getfield 18, 3) := by decide +kernel
theorem dX2_empty_5 : decode cX2_empty 5 = .ok (.putfield 22, 3) := by decide +kernel
theorem dX2_empty_8 : decode cX2_empty 8 = .ok (.iconst 0, 1) := by decide +kernel
theorem dX2_empty_9 : decode cX2_empty 9 = .ok (.istore_n 1, 1) := by decide +kernel
theorem dX2_empty_10 : decode cX2_empty 10 = .ok (.iload_n 1, 1) := by decide +kernel
theorem dX2_empty_11 : decode cX2_empty 11 = .ok (.bipush 9, 2) := by decide +kernel
theorem dX2_empty_13 : decode cX2_empty 13 = .ok (.if_icmp .ge 32, 3) := by decide +kernel
theorem dX2_empty_16 : decode cX2_empty 16 = .ok (.iconst 0, 1) := by decide +kernel
theorem dX2_empty_17 : decode cX2_empty 17 = .ok (.istore_n 2, 1) := by decide +kernel
theorem dX2_empty_18 : decode cX2_empty 18 = .ok (.iload_n 2, 1) := by decide +kernel
theorem dX2_empty_19 : decode cX2_empty 19 = .ok (.bipush 9, 2) := by decide +kernel
theorem dX2_empty_21 : decode cX2_empty 21 = .ok (.if_icmp .ge 18, 3) := by decide +kernel
theorem dX2_empty_24 : decode cX2_empty 24 = .ok (.aload_n 0, 1) := by decide +kernel
theorem dX2_empty_25 : decode cX2_empty 25 = .ok (.getfield 27, 3) := by decide +kernel
theorem dX2_empty_28 : decode cX2_empty 28 = .ok (.iload_n 1, 1) := by decide +kernel
theorem dX2_empty_29 : decode cX2_empty 29 = .ok (.aaload, 1) := by decide +kernel
theorem dX2_empty_30 : decode cX2_empty 30 = .ok (.iload_n 2, 1) := by decide +kernel
theorem dX2_empty_31 : decode cX2_empty 31 = .ok (.iconst 0, 1) := by decide +kernel
theorem dX2_empty_32 : decode cX2_empty 32 = .ok (.iastore, 1) := by decide +kernel
theorem dX2_empty_33 : decode cX2_empty 33 = .ok (.iinc 2 1, 3) := by decide +kernel
theorem dX2_empty_36 : decode cX2_empty 36 = .ok (.goto (-18), 3) := by decide +kernel
theorem dX2_empty_39 : decode cX2_empty 39 = .ok (.iinc 1 1, 3) := by decide +kernel
theorem dX2_empty_42 : decode cX2_empty 42 = .ok (.goto (-32), 3) := by decide +kernel
theorem dX2_empty_45 : decode cX2_empty 45 = .ok (.iconst 0, 1) := by decide +kernel
theorem dX2_empty_46 : decode cX2_empty 46 = .ok (.istore_n 1, 1) := by decide +kernel
theorem dX2_empty_47 : decode cX2_empty 47 = .ok (.iload_n 1, 1) := by decide +kernel
theorem dX2_empty_48 : decode cX2_empty 48 = .ok (.aload_n 0, 1) := by decide +kernel
theorem dX2_empty_49 : decode cX2_empty 49 = .ok (.getfield 12, 3) := by decide +kernel
theorem dX2_empty_52 : decode cX2_empty 52 = .ok (.invokevirtual 40, 3) := by decide +kernel
theorem dX2_empty_55 : decode cX2_empty 55 = .ok (.if_icmp .ge 69, 3) := by decide +kernel
theorem dX2_empty_58 : decode cX2_empty 58 = .ok (.aload_n 0, 1) := by decide +kernel
theorem dX2_empty_59 : decode cX2_empty 59 = .ok (.getfield 12, 3) := by decide +kernel
theorem dX2_empty_62 : decode cX2_empty 62 = .ok (.iload_n 1, 1) := by decide +kernel
theorem dX2_empty_63 : decode cX2_empty 63 = .ok (.invokevirtual 44, 3) := by decide +kernel
theorem dX2_empty_66 : decode cX2_empty 66 = .ok (.checkcast 48, 3) := by decide +kernel
theorem dX2_empty_69 : decode cX2_empty 69 = .ok (.astore_n 2, 1) := by decide +kernel
theorem dX2_empty_70 : decode cX2_empty 70 = .ok (.aload_n 2, 1) := by decide +kernel
theorem dX2_empty_71 : decode cX2_empty 71 = .ok (.getfield 50, 3) := by decide +kernel
theorem dX2_empty_74 : decode cX2_empty 74 = .ok (.ifCond .ne 44, 3) := by decide +kernel
theorem dX2_empty_77 : decode cX2_empty 77 = .ok (.aload_n 2, 1) := by decide +kernel
theorem dX2_empty_78 : decode cX2_empty 78 = .ok (.getfield 54, 3) := by decide +kernel
theorem dX2_empty_81 : decode cX2_empty 81 = .ok (.invokestatic 57, 3) := by decide +kernel
theorem dX2_empty_84 : decode cX2_empty 84 = .ok (.ifCond .eq 34, 3) := by decide +kernel
theorem dX2_empty_87 : decode cX2_empty 87 = .ok (.aload_n 2, 1) := by decide +kernel
theorem dX2_empty_88 : decode cX2_empty 88 = .ok (.getfield 61, 3) := by decide +kernel
theorem dX2_empty_91 : decode cX2_empty 91 = .ok (.invokestatic 57, 3) := by decide +kernel
theorem dX2_empty_94 : decode cX2_empty 94 = .ok (.ifCond .eq 24, 3) := by decide +kernel
theorem dX2_empty_97 : decode cX2_empty 97 = .ok (.aload_n 0, 1) := by decide +kernel
theorem dX2_empty_98 : decode cX2_empty 98 = .ok (.getfield 27, 3) := by decide +kernel
theorem dX2_empty_101 : decode cX2_empty 101 = .ok (.aload_n 2, 1) := by decide +kernel
theorem dX2_empty_102 : decode cX2_empty 102 = .ok (.getfield 54, 3) := by decide +kernel
theorem dX2_empty_105 : decode cX2_empty 105 = .ok (.aaload, 1) := by decide +kernel
theorem dX2_empty_106 : decode cX2_empty 106 = .ok (.aload_n 2, 1) := by decide +kernel
theorem dX2_empty_107 : decode cX2_empty 107 = .ok (.getfield 61, 3) := by decide +kernel
theorem dX2_empty_110 : decode cX2_empty 110 = .ok (.dup2, 1) := by decide +kernel
theorem dX2_empty_111 : decode cX2_empty 111 = .ok (.iaload, 1) := by decide +kernel
theorem dX2_empty_112 : decode cX2_empty 112 = .ok (.aload_n 2, 1) := by decide +kernel
theorem dX2_empty_113 : decode cX2_empty 113 = .ok (.getfield 64, 3) := by decide +kernel
theorem dX2_empty_116 : decode cX2_empty 116 = .ok (.iadd, 1) := by decide +kernel
theorem dX2_empty_117 : decode cX2_empty 117 = .ok (.iastore, 1) := by decide +kernel
theorem dX2_empty_118 : decode cX2_empty 118 = .ok (.iinc 1 1, 3) := by decide +kernel
theorem dX2_empty_121 : decode cX2_empty 121 = .ok (.goto (-74), 3) := by decide +kernel
theorem dX2_empty_124 : decode cX2_empty 124 = .ok (.return_, 1) := by decide +kernel
theorem dX2_pour_0 : decode cX2_pour 0 = .ok (.iload_n 2, 1) := by decide +kernel
theorem dX2_pour_1 : decode cX2_pour 1 = .ok (.aload_n 0, 1) := by decide +kernel
theorem dX2_pour_2 : decode cX2_pour 2 = .ok (.getfield 22, 3) := by decide +kernel
theorem dX2_pour_5 : decode cX2_pour 5 = .ok (.invokestatic 67, 3) := by decide +kernel
theorem dX2_pour_8 : decode cX2_pour 8 = .ok (.istore_n 3, 1) := by decide +kernel
theorem dX2_pour_9 : decode cX2_pour 9 = .ok (.iconst 0, 1) := by decide +kernel
theorem dX2_pour_10 : decode cX2_pour 10 = .ok (.istore 4, 2) := by decide +kernel
theorem dX2_pour_12 : decode cX2_pour 12 = .ok (.iconst 0, 1) := by decide +kernel
theorem dX2_pour_13 : decode cX2_pour 13 = .ok (.istore 5, 2) := by decide +kernel
theorem dX2_pour_15 : decode cX2_pour 15 = .ok (.iload 5, 2) := by decide +kernel
theorem dX2_pour_17 : decode cX2_pour 17 = .ok (.iload_n 3, 1) := by decide +kernel
theorem dX2_pour_18 : decode cX2_pour 18 = .ok (.if_icmp .ge 48, 3) := by decide +kernel
theorem dX2_pour_21 : decode cX2_pour 21 = .ok (.iload 4, 2) := by decide +kernel
theorem dX2_pour_23 : decode cX2_pour 23 = .ok (.iload_n 3, 1) := by decide +kernel
theorem dX2_pour_24 : decode cX2_pour 24 = .ok (.if_icmp .ge 42, 3) := by decide +kernel
theorem dX2_pour_27 : decode cX2_pour 27 = .ok (.aload_n 0, 1) := by decide +kernel
theorem dX2_pour_28 : decode cX2_pour 28 = .ok (.iload_n 1, 1) := by decide +kernel
theorem dX2_pour_29 : decode cX2_pour 29 = .ok (.iload_n 3, 1) := by decide +kernel
theorem dX2_pour_30 : decode cX2_pour 30 = .ok (.iload 4, 2) := by decide +kernel
theorem dX2_pour_32 : decode cX2_pour 32 = .ok (.isub, 1) := by decide +kernel
theorem dX2_pour_33 : decode cX2_pour 33 = .ok (.invokevirtual 73, 3) := by decide +kernel
theorem dX2_pour_36 : decode cX2_pour 36 = .ok (.istore 6, 2) := by decide +kernel
theorem dX2_pour_38 : decode cX2_pour 38 = .ok (.iload 6, 2) := by decide +kernel
theorem dX2_pour_40 : decode cX2_pour 40 = .ok (.ifCond .ne 6, 3) := by decide +kernel
theorem dX2_pour_43 : decode cX2_pour 43 = .ok (.goto 23, 3) := by decide +kernel
theorem dX2_pour_46 : decode cX2_pour 46 = .ok (.aload_n 0, 1) := by decide +kernel
theorem dX2_pour_47 : decode cX2_pour 47 = .ok (.iload_n 1, 1) := by decide +kernel
theorem dX2_pour_48 : decode cX2_pour 48 = .ok (.iload 6, 2) := by decide +kernel
theorem dX2_pour_50 : decode cX2_pour 50 = .ok (.invokevirtual 76, 3) := by decide +kernel
theorem dX2_pour_53 : decode cX2_pour 53 = .ok (.iload 4, 2) := by decide +kernel
theorem dX2_pour_55 : decode cX2_pour 55 = .ok (.iload 6, 2) := by decide +kernel
theorem dX2_pour_57 : decode cX2_pour 57 = .ok (.iadd, 1) := by decide +kernel
theorem dX2_pour_58 : decode cX2_pour 58 = .ok (.istore 4, 2) := by decide +kernel
theorem dX2_pour_60 : decode cX2_pour 60 = .ok (.iinc 5 1, 3) := by decide +kernel
theorem dX2_pour_63 : decode cX2_pour 63 = .ok (.goto (-48), 3) := by decide +kernel
theorem dX2_pour_66 : decode cX2_pour 66 = .ok (.aload_n 0, 1) := by decide +kernel
theorem dX2_pour_67 : decode cX2_pour 67 = .ok (.dup, 1) := by decide +kernel
theorem dX2_pour_68 : decode cX2_pour 68 = .ok (.getfield 22, 3) := by decide +kernel
theorem dX2_pour_71 : decode cX2_pour 71 = .ok (.iload 4, 2) := by decide +kernel
theorem dX2_pour_73 : decode cX2_pour 73 = .ok (.isub, 1) := by decide +kernel
theorem dX2_pour_74 : decode cX2_pour 74 = .ok (.putfield 22, 3) := by decide +kernel
theorem dX2_pour_77 : decode cX2_pour 77 = .ok (.iload 4, 2) := by decide +kernel
theorem dX2_pour_79 : decode cX2_pour 79 = .ok (.ireturn, 1) := by decide +kernel
theorem dX2_findWay_0 : decode cX2_findWay 0 = .ok (.iconst 0, 1) := by decide +kernel
theorem dX2_findWay_1 : decode cX2_findWay 1 = .ok (.istore_n 3, 1) := by decide +kernel
theorem dX2_findWay_2 : decode cX2_findWay 2 = .ok (.iload_n 3, 1) := by decide +kernel
theorem dX2_findWay_3 : decode cX2_findWay 3 = .ok (.bipush 9, 2) := by decide +kernel
theorem dX2_findWay_5 : decode cX2_findWay 5 = .ok (.if_icmp .ge 16, 3) := by decide +kernel
theorem dX2_findWay_8 : decode cX2_findWay 8 = .ok (.aload_n 0, 1) := by decide +kernel
theorem dX2_findWay_9 : decode cX2_findWay 9 = .ok (.getfield 30, 3) := by decide +kernel
theorem dX2_findWay_12 : decode cX2_findWay 12 = .ok (.iload_n 3, 1) := by decide +kernel
theorem dX2_findWay_13 : decode cX2_findWay 13 = .ok (.iconst 0, 1) := by decide +kernel
theorem dX2_findWay_14 : decode cX2_findWay 14 = .ok (.iastore, 1) := by decide +kernel
theorem dX2_findWay_15 : decode cX2_findWay 15 = .ok (.iinc 3 1, 3) := by decide +kernel
theorem dX2_findWay_18 : decode cX2_findWay 18 = .ok (.goto (-16), 3) := by decide +kernel
theorem dX2_findWay_21 : decode cX2_findWay 21 = .ok (.aload_n 0, 1) := by decide +kernel
theorem dX2_findWay_22 : decode cX2_findWay 22 = .ok (.getfield 30, 3) := by decide +kernel
theorem dX2_findWay_25 : decode cX2_findWay 25 = .ok (.iconst 0, 1) := by decide +kernel
theorem dX2_findWay_26 : decode cX2_findWay 26 = .ok (.iload_n 2, 1) := by decide +kernel
theorem dX2_findWay_27 : decode cX2_findWay 27 = .ok (.iastore, 1) := by decide +kernel
theorem dX2_findWay_28 : decode cX2_findWay 28 = .ok (.aload_n 0, 1) := by decide +kernel
theorem dX2_findWay_29 : decode cX2_findWay 29 = .ok (.getfield 37, 3) := by decide +kernel
theorem dX2_findWay_32 : decode cX2_findWay 32 = .ok (.iconst 0, 1) := by decide +kernel
theorem dX2_findWay_33 : decode cX2_findWay 33 = .ok (.iconst 0, 1) := by decide +kernel
theorem dX2_findWay_34 : decode cX2_findWay 34 = .ok (.iastore, 1) := by decide +kernel
theorem dX2_findWay_35 : decode cX2_findWay 35 = .ok (.iconst 1, 1) := by decide +kernel
theorem dX2_findWay_36 : decode cX2_findWay 36 = .ok (.istore_n 3, 1) := by decide +kernel
theorem dX2_findWay_37 : decode cX2_findWay 37 = .ok (.iconst 0, 1) := by decide +kernel
theorem dX2_findWay_38 : decode cX2_findWay 38 = .ok (.istore 4, 2) := by decide +kernel
theorem dX2_findWay_40 : decode cX2_findWay 40 = .ok (.iload 4, 2) := by decide +kernel
theorem dX2_findWay_42 : decode cX2_findWay 42 = .ok (.iload_n 3, 1) := by decide +kernel
theorem dX2_findWay_43 : decode cX2_findWay 43 = .ok (.if_icmp .ge 125, 3) := by decide +kernel
theorem dX2_findWay_46 : decode cX2_findWay 46 = .ok (.iload 4, 2) := by decide +kernel
theorem dX2_findWay_48 : decode cX2_findWay 48 = .ok (.bipush 9, 2) := by decide +kernel
theorem dX2_findWay_50 : decode cX2_findWay 50 = .ok (.if_icmp .ge 118, 3) := by decide +kernel
theorem dX2_findWay_53 : decode cX2_findWay 53 = .ok (.aload_n 0, 1) := by decide +kernel
theorem dX2_findWay_54 : decode cX2_findWay 54 = .ok (.getfield 37, 3) := by decide +kernel
theorem dX2_findWay_57 : decode cX2_findWay 57 = .ok (.iload 4, 2) := by decide +kernel
theorem dX2_findWay_59 : decode cX2_findWay 59 = .ok (.iaload, 1) := by decide +kernel
theorem dX2_findWay_60 : decode cX2_findWay 60 = .ok (.istore 5, 2) := by decide +kernel
theorem dX2_findWay_62 : decode cX2_findWay 62 = .ok (.iconst 0, 1) := by decide +kernel
theorem dX2_findWay_63 : decode cX2_findWay 63 = .ok (.istore 6, 2) := by decide +kernel
theorem dX2_findWay_65 : decode cX2_findWay 65 = .ok (.iload 6, 2) := by decide +kernel
theorem dX2_findWay_67 : decode cX2_findWay 67 = .ok (.bipush 9, 2) := by decide +kernel
theorem dX2_findWay_69 : decode cX2_findWay 69 = .ok (.if_icmp .ge 93, 3) := by decide +kernel
theorem dX2_findWay_72 : decode cX2_findWay 72 = .ok (.iload 5, 2) := by decide +kernel
theorem dX2_findWay_74 : decode cX2_findWay 74 = .ok (.invokestatic 57, 3) := by decide +kernel
theorem dX2_findWay_77 : decode cX2_findWay 77 = .ok (.ifCond .eq 85, 3) := by decide +kernel
theorem dX2_findWay_80 : decode cX2_findWay 80 = .ok (.aload_n 0, 1) := by decide +kernel
theorem dX2_findWay_81 : decode cX2_findWay 81 = .ok (.getfield 30, 3) := by decide +kernel
theorem dX2_findWay_84 : decode cX2_findWay 84 = .ok (.iload 6, 2) := by decide +kernel
theorem dX2_findWay_86 : decode cX2_findWay 86 = .ok (.iaload, 1) := by decide +kernel
theorem dX2_findWay_87 : decode cX2_findWay 87 = .ok (.ifCond .ne 69, 3) := by decide +kernel
theorem dX2_findWay_90 : decode cX2_findWay 90 = .ok (.aload_n 0, 1) := by decide +kernel
theorem dX2_findWay_91 : decode cX2_findWay 91 = .ok (.getfield 27, 3) := by decide +kernel
theorem dX2_findWay_94 : decode cX2_findWay 94 = .ok (.iload 5, 2) := by decide +kernel
theorem dX2_findWay_96 : decode cX2_findWay 96 = .ok (.aaload, 1) := by decide +kernel
theorem dX2_findWay_97 : decode cX2_findWay 97 = .ok (.iload 6, 2) := by decide +kernel
theorem dX2_findWay_99 : decode cX2_findWay 99 = .ok (.iaload, 1) := by decide +kernel
theorem dX2_findWay_100 : decode cX2_findWay 100 = .ok (.ifCond .le 56, 3) := by decide +kernel
theorem dX2_findWay_103 : decode cX2_findWay 103 = .ok (.iload_n 3, 1) := by decide +kernel
theorem dX2_findWay_104 : decode cX2_findWay 104 = .ok (.bipush 9, 2) := by decide +kernel
theorem dX2_findWay_106 : decode cX2_findWay 106 = .ok (.if_icmp .ge 50, 3) := by decide +kernel
theorem dX2_findWay_109 : decode cX2_findWay 109 = .ok (.aload_n 0, 1) := by decide +kernel
theorem dX2_findWay_110 : decode cX2_findWay 110 = .ok (.getfield 30, 3) := by decide +kernel
theorem dX2_findWay_113 : decode cX2_findWay 113 = .ok (.iload 6, 2) := by decide +kernel
theorem dX2_findWay_115 : decode cX2_findWay 115 = .ok (.aload_n 0, 1) := by decide +kernel
theorem dX2_findWay_116 : decode cX2_findWay 116 = .ok (.getfield 30, 3) := by decide +kernel
theorem dX2_findWay_119 : decode cX2_findWay 119 = .ok (.iload 5, 2) := by decide +kernel
theorem dX2_findWay_121 : decode cX2_findWay 121 = .ok (.iaload, 1) := by decide +kernel
theorem dX2_findWay_122 : decode cX2_findWay 122 = .ok (.aload_n 0, 1) := by decide +kernel
theorem dX2_findWay_123 : decode cX2_findWay 123 = .ok (.getfield 27, 3) := by decide +kernel
theorem dX2_findWay_126 : decode cX2_findWay 126 = .ok (.iload 5, 2) := by decide +kernel
theorem dX2_findWay_128 : decode cX2_findWay 128 = .ok (.aaload, 1) := by decide +kernel
theorem dX2_findWay_129 : decode cX2_findWay 129 = .ok (.iload 6, 2) := by decide +kernel
theorem dX2_findWay_131 : decode cX2_findWay 131 = .ok (.iaload, 1) := by decide +kernel
theorem dX2_findWay_132 : decode cX2_findWay 132 = .ok (.invokestatic 67, 3) := by decide +kernel
theorem dX2_findWay_135 : decode cX2_findWay 135 = .ok (.iastore, 1) := by decide +kernel
theorem dX2_findWay_136 : decode cX2_findWay 136 = .ok (.aload_n 0, 1) := by decide +kernel
theorem dX2_findWay_137 : decode cX2_findWay 137 = .ok (.getfield 34, 3) := by decide +kernel
theorem dX2_findWay_140 : decode cX2_findWay 140 = .ok (.iload 6, 2) := by decide +kernel
theorem dX2_findWay_142 : decode cX2_findWay 142 = .ok (.iload 5, 2) := by decide +kernel
theorem dX2_findWay_144 : decode cX2_findWay 144 = .ok (.iastore, 1) := by decide +kernel
theorem dX2_findWay_145 : decode cX2_findWay 145 = .ok (.aload_n 0, 1) := by decide +kernel
theorem dX2_findWay_146 : decode cX2_findWay 146 = .ok (.getfield 37, 3) := by decide +kernel
theorem dX2_findWay_149 : decode cX2_findWay 149 = .ok (.iload_n 3, 1) := by decide +kernel
theorem dX2_findWay_150 : decode cX2_findWay 150 = .ok (.iload 6, 2) := by decide +kernel
theorem dX2_findWay_152 : decode cX2_findWay 152 = .ok (.iastore, 1) := by decide +kernel
theorem dX2_findWay_153 : decode cX2_findWay 153 = .ok (.iinc 3 1, 3) := by decide +kernel
theorem dX2_findWay_156 : decode cX2_findWay 156 = .ok (.iinc 6 1, 3) := by decide +kernel
theorem dX2_findWay_159 : decode cX2_findWay 159 = .ok (.goto (-94), 3) := by decide +kernel
theorem dX2_findWay_162 : decode cX2_findWay 162 = .ok (.iinc 4 1, 3) := by decide +kernel
theorem dX2_findWay_165 : decode cX2_findWay 165 = .ok (.goto (-125), 3) := by decide +kernel
theorem dX2_findWay_168 : decode cX2_findWay 168 = .ok (.iload_n 1, 1) := by decide +kernel
theorem dX2_findWay_169 : decode cX2_findWay 169 = .ok (.invokestatic 57, 3) := by decide +kernel
theorem dX2_findWay_172 : decode cX2_findWay 172 = .ok (.ifCond .eq 12, 3) := by decide +kernel
theorem dX2_findWay_175 : decode cX2_findWay 175 = .ok (.aload_n 0, 1) := by decide +kernel
theorem dX2_findWay_176 : decode cX2_findWay 176 = .ok (.getfield 30, 3) := by decide +kernel
theorem dX2_findWay_179 : decode cX2_findWay 179 = .ok (.iload_n 1, 1) := by decide +kernel
theorem dX2_findWay_180 : decode cX2_findWay 180 = .ok (.iaload, 1) := by decide +kernel
theorem dX2_findWay_181 : decode cX2_findWay 181 = .ok (.goto 4, 3) := by decide +kernel
theorem dX2_findWay_184 : decode cX2_findWay 184 = .ok (.iconst 0, 1) := by decide +kernel
theorem dX2_findWay_185 : decode cX2_findWay 185 = .ok (.ireturn, 1) := by decide +kernel
theorem dX2_flowOnWay_0 : decode cX2_flowOnWay 0 = .ok (.iload_n 1, 1) := by decide +kernel
theorem dX2_flowOnWay_1 : decode cX2_flowOnWay 1 = .ok (.istore_n 3, 1) := by decide +kernel
theorem dX2_flowOnWay_2 : decode cX2_flowOnWay 2 = .ok (.iconst 0, 1) := by decide +kernel
theorem dX2_flowOnWay_3 : decode cX2_flowOnWay 3 = .ok (.istore 4, 2) := by decide +kernel
theorem dX2_flowOnWay_5 : decode cX2_flowOnWay 5 = .ok (.iload 4, 2) := by decide +kernel
theorem dX2_flowOnWay_7 : decode cX2_flowOnWay 7 = .ok (.bipush 9, 2) := by decide +kernel
theorem dX2_flowOnWay_9 : decode cX2_flowOnWay 9 = .ok (.if_icmp .ge 65, 3) := by decide +kernel
theorem dX2_flowOnWay_12 : decode cX2_flowOnWay 12 = .ok (.iload_n 3, 1) := by decide +kernel
theorem dX2_flowOnWay_13 : decode cX2_flowOnWay 13 = .ok (.invokestatic 57, 3) := by decide +kernel
theorem dX2_flowOnWay_16 : decode cX2_flowOnWay 16 = .ok (.ifCond .eq 58, 3) := by decide +kernel
theorem dX2_flowOnWay_19 : decode cX2_flowOnWay 19 = .ok (.iload_n 3, 1) := by decide +kernel
theorem dX2_flowOnWay_20 : decode cX2_flowOnWay 20 = .ok (.ifCond .eq 54, 3) := by decide +kernel
theorem dX2_flowOnWay_23 : decode cX2_flowOnWay 23 = .ok (.aload_n 0, 1) := by decide +kernel
theorem dX2_flowOnWay_24 : decode cX2_flowOnWay 24 = .ok (.getfield 34, 3) := by decide +kernel
theorem dX2_flowOnWay_27 : decode cX2_flowOnWay 27 = .ok (.iload_n 3, 1) := by decide +kernel
theorem dX2_flowOnWay_28 : decode cX2_flowOnWay 28 = .ok (.iaload, 1) := by decide +kernel
theorem dX2_flowOnWay_29 : decode cX2_flowOnWay 29 = .ok (.istore 5, 2) := by decide +kernel
theorem dX2_flowOnWay_31 : decode cX2_flowOnWay 31 = .ok (.iload 5, 2) := by decide +kernel
theorem dX2_flowOnWay_33 : decode cX2_flowOnWay 33 = .ok (.invokestatic 57, 3) := by decide +kernel
theorem dX2_flowOnWay_36 : decode cX2_flowOnWay 36 = .ok (.ifCond .eq 29, 3) := by decide +kernel
theorem dX2_flowOnWay_39 : decode cX2_flowOnWay 39 = .ok (.aload_n 0, 1) := by decide +kernel
theorem dX2_flowOnWay_40 : decode cX2_flowOnWay 40 = .ok (.getfield 27, 3) := by decide +kernel
theorem dX2_flowOnWay_43 : decode cX2_flowOnWay 43 = .ok (.iload 5, 2) := by decide +kernel
theorem dX2_flowOnWay_45 : decode cX2_flowOnWay 45 = .ok (.aaload, 1) := by decide +kernel
theorem dX2_flowOnWay_46 : decode cX2_flowOnWay 46 = .ok (.iload_n 3, 1) := by decide +kernel
theorem dX2_flowOnWay_47 : decode cX2_flowOnWay 47 = .ok (.dup2, 1) := by decide +kernel
theorem dX2_flowOnWay_48 : decode cX2_flowOnWay 48 = .ok (.iaload, 1) := by decide +kernel
theorem dX2_flowOnWay_49 : decode cX2_flowOnWay 49 = .ok (.iload_n 2, 1) := by decide +kernel
theorem dX2_flowOnWay_50 : decode cX2_flowOnWay 50 = .ok (.isub, 1) := by decide +kernel
theorem dX2_flowOnWay_51 : decode cX2_flowOnWay 51 = .ok (.iastore, 1) := by decide +kernel
theorem dX2_flowOnWay_52 : decode cX2_flowOnWay 52 = .ok (.aload_n 0, 1) := by decide +kernel
theorem dX2_flowOnWay_53 : decode cX2_flowOnWay 53 = .ok (.getfield 27, 3) := by decide +kernel
theorem dX2_flowOnWay_56 : decode cX2_flowOnWay 56 = .ok (.iload_n 3, 1) := by decide +kernel
theorem dX2_flowOnWay_57 : decode cX2_flowOnWay 57 = .ok (.aaload, 1) := by decide +kernel
theorem dX2_flowOnWay_58 : decode cX2_flowOnWay 58 = .ok (.iload 5, 2) := by decide +kernel
theorem dX2_flowOnWay_60 : decode cX2_flowOnWay 60 = .ok (.dup2, 1) := by decide +kernel
theorem dX2_flowOnWay_61 : decode cX2_flowOnWay 61 = .ok (.iaload, 1) := by decide +kernel
theorem dX2_flowOnWay_62 : decode cX2_flowOnWay 62 = .ok (.iload_n 2, 1) := by decide +kernel
theorem dX2_flowOnWay_63 : decode cX2_flowOnWay 63 = .ok (.iadd, 1) := by decide +kernel
theorem dX2_flowOnWay_64 : decode cX2_flowOnWay 64 = .ok (.iastore, 1) := by decide +kernel
theorem dX2_flowOnWay_65 : decode cX2_flowOnWay 65 = .ok (.iload 5, 2) := by decide +kernel
theorem dX2_flowOnWay_67 : decode cX2_flowOnWay 67 = .ok (.istore_n 3, 1) := by decide +kernel
theorem dX2_flowOnWay_68 : decode cX2_flowOnWay 68 = .ok (.iinc 4 1, 3) := by decide +kernel
theorem dX2_flowOnWay_71 : decode cX2_flowOnWay 71 = .ok (.goto (-66), 3) := by decide +kernel
theorem dX2_flowOnWay_74 : decode cX2_flowOnWay 74 = .ok (.return_, 1) := by decide +kernel
theorem dX2_isNode_0 : decode cX2_isNode 0 = .ok (.iload_n 0, 1) := by decide +kernel
theorem dX2_isNode_1 : decode cX2_isNode 1 = .ok (.ifCond .lt 13, 3) := by decide +kernel
theorem dX2_isNode_4 : decode cX2_isNode 4 = .ok (.iload_n 0, 1) := by decide +kernel
theorem dX2_isNode_5 : decode cX2_isNode 5 = .ok (.bipush 9, 2) := by decide +kernel
theorem dX2_isNode_7 : decode cX2_isNode 7 = .ok (.if_icmp .ge 7, 3) := by decide +kernel
theorem dX2_isNode_10 : decode cX2_isNode 10 = .ok (.iconst 1, 1) := by decide +kernel
theorem dX2_isNode_11 : decode cX2_isNode 11 = .ok (.goto 4, 3) := by decide +kernel
theorem dX2_isNode_14 : decode cX2_isNode 14 = .ok (.iconst 0, 1) := by decide +kernel
theorem dX2_isNode_15 : decode cX2_isNode 15 = .ok (.ireturn, 1) := by decide +kernel
theorem dX3_init_0 : decode cX3_init 0 = .ok (.aload_n 0, 1) := by decide +kernel
theorem dX3_init_1 : decode cX3_init 1 = .ok (.invokespecial 1, 3) := by decide +kernel
theorem dX3_init_4 : decode cX3_init 4 = .ok (.aload_n 0, 1) := by decide +kernel
theorem dX3_init_5 : decode cX3_init 5 = .ok (.iconst 0, 1) := by decide +kernel
theorem dX3_init_6 : decode cX3_init 6 = .ok (.putfield 7, 3) := by decide +kernel
theorem dX3_init_9 : decode cX3_init 9 = .ok (.aload_n 0, 1) := by decide +kernel
theorem dX3_init_10 : decode cX3_init 10 = .ok (.iload_n 1, 1) := by decide +kernel
theorem dX3_init_11 : decode cX3_init 11 = .ok (.putfield 13, 3) := by decide +kernel
theorem dX3_init_14 : decode cX3_init 14 = .ok (.aload_n 0, 1) := by decide +kernel
theorem dX3_init_15 : decode cX3_init 15 = .ok (.iload_n 2, 1) := by decide +kernel
theorem dX3_init_16 : decode cX3_init 16 = .ok (.putfield 17, 3) := by decide +kernel
theorem dX3_init_19 : decode cX3_init 19 = .ok (.aload_n 0, 1) := by decide +kernel
theorem dX3_init_20 : decode cX3_init 20 = .ok (.iload_n 3, 1) := by decide +kernel
theorem dX3_init_21 : decode cX3_init 21 = .ok (.putfield 20, 3) := by decide +kernel
theorem dX3_init_24 : decode cX3_init 24 = .ok (.return_, 1) := by decide +kernel
