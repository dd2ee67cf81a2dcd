theorem dX4_init_0 : decode cX4_init 0 = .ok (.aload_n 0, 1) := by decide +kernel
theorem dX4_init_1 : decode cX4_init 1 = .ok (.invokespecial 3, 3) := by decide +kernel
theorem dX4_init_4 : decode cX4_init 4 = .ok (.aload_n 0, 1) := by decide +kernel
theorem dX4_init_5 : decode cX4_init 5 = .ok (.new 9, 3) := by decide +kernel
theorem dX4_init_8 : decode cX4_init 8 = .ok (.dup, 1) := by decide +kernel
theorem dX4_init_9 : decode cX4_init 9 = .ok (.invokespecial 11, 3) := by decide +kernel
theorem dX4_init_12 : decode cX4_init 12 = .ok (.putfield 12, 3) := by decide +kernel
theorem dX4_init_15 : decode cX4_init 15 = .ok (.aload_n 0, 1) := by decide +kernel
theorem dX4_init_16 : decode cX4_init 16 = .ok (.new 16, 3) := by decide +kernel
theorem dX4_init_19 : decode cX4_init 19 = .ok (.dup, 1) := by decide +kernel
theorem dX4_init_20 : decode cX4_init 20 = .ok (.invokespecial 18, 3) := by decide +kernel
theorem dX4_init_23 : decode cX4_init 23 = .ok (.putfield 19, 3) := by decide +kernel
theorem dX4_init_26 : decode cX4_init 26 = .ok (.aload_n 0, 1) := by decide +kernel
theorem dX4_init_27 : decode cX4_init 27 = .ok (.new 9, 3) := by decide +kernel
theorem dX4_init_30 : decode cX4_init 30 = .ok (.dup, 1) := by decide +kernel
theorem dX4_init_31 : decode cX4_init 31 = .ok (.invokespecial 11, 3) := by decide +kernel
theorem dX4_init_34 : decode cX4_init 34 = .ok (.putfield 23, 3) := by decide +kernel
theorem dX4_init_37 : decode cX4_init 37 = .ok (.aload_n 0, 1) := by decide +kernel
theorem dX4_init_38 : decode cX4_init 38 = .ok (.iconst 0, 1) := by decide +kernel
theorem dX4_init_39 : decode cX4_init 39 = .ok (.putfield 26, 3) := by decide +kernel
theorem dX4_init_42 : decode cX4_init 42 = .ok (.aload_n 0, 1) := by decide +kernel
theorem dX4_init_43 : decode cX4_init 43 = .ok (.iconst 0, 1) := by decide +kernel
theorem dX4_init_44 : decode cX4_init 44 = .ok (.putfield 30, 3) := by decide +kernel
theorem dX4_init_47 : decode cX4_init 47 = .ok (.aload_n 0, 1) := by decide +kernel
theorem dX4_init_48 : decode cX4_init 48 = .ok (.iconst 0, 1) := by decide +kernel
theorem dX4_init_49 : decode cX4_init 49 = .ok (.putfield 33, 3) := by decide +kernel
theorem dX4_init_52 : decode cX4_init 52 = .ok (.aload_n 0, 1) := by decide +kernel
theorem dX4_init_53 : decode cX4_init 53 = .ok (.iconst 0, 1) := by decide +kernel
theorem dX4_init_54 : decode cX4_init 54 = .ok (.putfield 37, 3) := by decide +kernel
theorem dX4_init_57 : decode cX4_init 57 = .ok (.aload_n 0, 1) := by decide +kernel
theorem dX4_init_58 : decode cX4_init 58 = .ok (.iconst 0, 1) := by decide +kernel
theorem dX4_init_59 : decode cX4_init 59 = .ok (.putfield 40, 3) := by decide +kernel
theorem dX4_init_62 : decode cX4_init 62 = .ok (.aload_n 0, 1) := by decide +kernel
theorem dX4_init_63 : decode cX4_init 63 = .ok (.iconst 0, 1) := by decide +kernel
theorem dX4_init_64 : decode cX4_init 64 = .ok (.putfield 43, 3) := by decide +kernel
theorem dX4_init_67 : decode cX4_init 67 = .ok (.return_, 1) := by decide +kernel
theorem dX4_district_0 : decode cX4_district 0 = .ok (.iload_n 1, 1) := by decide +kernel
theorem dX4_district_1 : decode cX4_district 1 = .ok (.iconst 0, 1) := by decide +kernel
theorem dX4_district_2 : decode cX4_district 2 = .ok (.sipush 9999, 3) := by decide +kernel
theorem dX4_district_5 : decode cX4_district 5 = .ok (.invokestatic 46, 3) := by decide +kernel
theorem dX4_district_8 : decode cX4_district 8 = .ok (.ifCond .ne 14, 3) := by decide +kernel
theorem dX4_district_11 : decode cX4_district 11 = .ok (.iload_n 2, 1) := by decide +kernel
theorem dX4_district_12 : decode cX4_district 12 = .ok (.iconst 0, 1) := by decide +kernel
theorem dX4_district_13 : decode cX4_district 13 = .ok (.sipush 999, 3) := by decide +kernel
theorem dX4_district_16 : decode cX4_district 16 = .ok (.invokestatic 46, 3) := by decide +kernel
theorem dX4_district_19 : decode cX4_district 19 = .ok (.ifCond .eq 13, 3) := by decide +kernel
theorem dX4_district_22 : decode cX4_district 22 = .ok (.new 50, 3) := by decide +kernel
theorem dX4_district_25 : decode cX4_district 25 = .ok (.dup, 1) := by decide +kernel
theorem dX4_district_26 : decode cX4_district 26 = .ok (.ldc 52, 2) := by decide +kernel
theorem dX4_district_28 : decode cX4_district 28 = .ok (.invokespecial 54, 3) := by decide +kernel
theorem dX4_district_31 : decode cX4_district 31 = .ok (.athrow, 1) := by decide +kernel
theorem dX4_district_32 : decode cX4_district 32 = .ok (.aload_n 0, 1) := by decide +kernel
theorem dX4_district_33 : decode cX4_district 33 = .ok (.getfield 12, 3) := by decide +kernel
theorem dX4_district_36 : decode cX4_district 36 = .ok (.invokevirtual 57, 3) := by decide +kernel
theorem dX4_district_39 : decode cX4_district 39 = .ok (.bipush 8, 2) := by decide +kernel
theorem dX4_district_41 : decode cX4_district 41 = .ok (.if_icmp .lt 13, 3) := by decide +kernel
theorem dX4_district_44 : decode cX4_district 44 = .ok (.new 61, 3) := by decide +kernel
theorem dX4_district_47 : decode cX4_district 47 = .ok (.dup, 1) := by decide +kernel
theorem dX4_district_48 : decode cX4_district 48 = .ok (.ldc 63, 2) := by decide +kernel
theorem dX4_district_50 : decode cX4_district 50 = .ok (.invokespecial 65, 3) := by decide +kernel
theorem dX4_district_53 : decode cX4_district 53 = .ok (.athrow, 1) := by decide +kernel
theorem dX4_district_54 : decode cX4_district 54 = .ok (.aload_n 0, 1) := by decide +kernel
theorem dX4_district_55 : decode cX4_district 55 = .ok (.getfield 12, 3) := by decide +kernel
theorem dX4_district_58 : decode cX4_district 58 = .ok (.invokevirtual 57, 3) := by decide +kernel
theorem dX4_district_61 : decode cX4_district 61 = .ok (.istore_n 3, 1) := by decide +kernel
theorem dX4_district_62 : decode cX4_district 62 = .ok (.aload_n 0, 1) := by decide +kernel
theorem dX4_district_63 : decode cX4_district 63 = .ok (.getfield 12, 3) := by decide +kernel
theorem dX4_district_66 : decode cX4_district 66 = .ok (.new 66, 3) := by decide +kernel
theorem dX4_district_69 : decode cX4_district 69 = .ok (.dup, 1) := by decide +kernel
theorem dX4_district_70 : decode cX4_district 70 = .ok (.iload_n 3, 1) := by decide +kernel
theorem dX4_district_71 : decode cX4_district 71 = .ok (.iload_n 1, 1) := by decide +kernel
theorem dX4_district_72 : decode cX4_district 72 = .ok (.iload_n 2, 1) := by decide +kernel
theorem dX4_district_73 : decode cX4_district 73 = .ok (.invokespecial 68, 3) := by decide +kernel
theorem dX4_district_76 : decode cX4_district 76 = .ok (.invokevirtual 71, 3) := by decide +kernel
theorem dX4_district_79 : decode cX4_district 79 = .ok (.pop, 1) := by decide +kernel
theorem dX4_district_80 : decode cX4_district 80 = .ok (.iload_n 3, 1) := by decide +kernel
theorem dX4_district_81 : decode cX4_district 81 = .ok (.ireturn, 1) := by decide +kernel
theorem dX4_pipe_0 : decode cX4_pipe 0 = .ok (.iload_n 1, 1) := by decide +kernel
theorem dX4_pipe_1 : decode cX4_pipe 1 = .ok (.iconst (-1), 1) := by decide +kernel
theorem dX4_pipe_2 : decode cX4_pipe 2 = .ok (.if_icmp .eq 11, 3) := by decide +kernel
theorem dX4_pipe_5 : decode cX4_pipe 5 = .ok (.aload_n 0, 1) := by decide +kernel
theorem dX4_pipe_6 : decode cX4_pipe 6 = .ok (.iload_n 1, 1) := by decide +kernel
theorem dX4_pipe_7 : decode cX4_pipe 7 = .ok (.invokevirtual 75, 3) := by decide +kernel
theorem dX4_pipe_10 : decode cX4_pipe 10 = .ok (.ifCond .ne 11, 3) := by decide +kernel
theorem dX4_pipe_13 : decode cX4_pipe 13 = .ok (.aload_n 0, 1) := by decide +kernel
theorem dX4_pipe_14 : decode cX4_pipe 14 = .ok (.iload_n 2, 1) := by decide +kernel
theorem dX4_pipe_15 : decode cX4_pipe 15 = .ok (.invokevirtual 75, 3) := by decide +kernel
theorem dX4_pipe_18 : decode cX4_pipe 18 = .ok (.ifCond .eq 13, 3) := by decide +kernel
theorem dX4_pipe_21 : decode cX4_pipe 21 = .ok (.new 79, 3) := by decide +kernel
theorem dX4_pipe_24 : decode cX4_pipe 24 = .ok (.dup, 1) := by decide +kernel
theorem dX4_pipe_25 : decode cX4_pipe 25 = .ok (.ldc 81, 2) := by decide +kernel
theorem dX4_pipe_27 : decode cX4_pipe 27 = .ok (.invokespecial 83, 3) := by decide +kernel
theorem dX4_pipe_30 : decode cX4_pipe 30 = .ok (.athrow, 1) := by decide +kernel
theorem dX4_pipe_31 : decode cX4_pipe 31 = .ok (.iload_n 1, 1) := by decide +kernel
theorem dX4_pipe_32 : decode cX4_pipe 32 = .ok (.iload_n 2, 1) := by decide +kernel
theorem dX4_pipe_33 : decode cX4_pipe 33 = .ok (.if_icmp .eq 14, 3) := by decide +kernel
theorem dX4_pipe_36 : decode cX4_pipe 36 = .ok (.iload_n 3, 1) := by decide +kernel
theorem dX4_pipe_37 : decode cX4_pipe 37 = .ok (.iconst 1, 1) := by decide +kernel
theorem dX4_pipe_38 : decode cX4_pipe 38 = .ok (.sipush 999, 3) := by decide +kernel
theorem dX4_pipe_41 : decode cX4_pipe 41 = .ok (.invokestatic 46, 3) := by decide +kernel
theorem dX4_pipe_44 : decode cX4_pipe 44 = .ok (.ifCond .eq 13, 3) := by decide +kernel
theorem dX4_pipe_47 : decode cX4_pipe 47 = .ok (.new 50, 3) := by decide +kernel
theorem dX4_pipe_50 : decode cX4_pipe 50 = .ok (.dup, 1) := by decide +kernel
theorem dX4_pipe_51 : decode cX4_pipe 51 = .ok (.ldc 84, 2) := by decide +kernel
theorem dX4_pipe_53 : decode cX4_pipe 53 = .ok (.invokespecial 54, 3) := by decide +kernel
theorem dX4_pipe_56 : decode cX4_pipe 56 = .ok (.athrow, 1) := by decide +kernel
theorem dX4_pipe_57 : decode cX4_pipe 57 = .ok (.aload_n 0, 1) := by decide +kernel
theorem dX4_pipe_58 : decode cX4_pipe 58 = .ok (.getfield 19, 3) := by decide +kernel
theorem dX4_pipe_61 : decode cX4_pipe 61 = .ok (.getfield 86, 3) := by decide +kernel
theorem dX4_pipe_64 : decode cX4_pipe 64 = .ok (.invokevirtual 57, 3) := by decide +kernel
theorem dX4_pipe_67 : decode cX4_pipe 67 = .ok (.bipush 24, 2) := by decide +kernel
theorem dX4_pipe_69 : decode cX4_pipe 69 = .ok (.if_icmp .ge 10, 3) := by decide +kernel
theorem dX4_pipe_72 : decode cX4_pipe 72 = .ok (.aload_n 0, 1) := by decide +kernel
theorem dX4_pipe_73 : decode cX4_pipe 73 = .ok (.getfield 33, 3) := by decide +kernel
theorem dX4_pipe_76 : decode cX4_pipe 76 = .ok (.ifCond .eq 13, 3) := by decide +kernel
theorem dX4_pipe_79 : decode cX4_pipe 79 = .ok (.new 61, 3) := by decide +kernel
theorem dX4_pipe_82 : decode cX4_pipe 82 = .ok (.dup, 1) := by decide +kernel
theorem dX4_pipe_83 : decode cX4_pipe 83 = .ok (.ldc 89, 2) := by decide +kernel
theorem dX4_pipe_85 : decode cX4_pipe 85 = .ok (.invokespecial 65, 3) := by decide +kernel
theorem dX4_pipe_88 : decode cX4_pipe 88 = .ok (.athrow, 1) := by decide +kernel
theorem dX4_pipe_89 : decode cX4_pipe 89 = .ok (.aload_n 0, 1) := by decide +kernel
theorem dX4_pipe_90 : decode cX4_pipe 90 = .ok (.getfield 19, 3) := by decide +kernel
theorem dX4_pipe_93 : decode cX4_pipe 93 = .ok (.getfield 86, 3) := by decide +kernel
theorem dX4_pipe_96 : decode cX4_pipe 96 = .ok (.invokevirtual 57, 3) := by decide +kernel
theorem dX4_pipe_99 : decode cX4_pipe 99 = .ok (.istore 4, 2) := by decide +kernel
theorem dX4_pipe_101 : decode cX4_pipe 101 = .ok (.aload_n 0, 1) := by decide +kernel
theorem dX4_pipe_102 : decode cX4_pipe 102 = .ok (.getfield 19, 3) := by decide +kernel
theorem dX4_pipe_105 : decode cX4_pipe 105 = .ok (.getfield 86, 3) := by decide +kernel
theorem dX4_pipe_108 : decode cX4_pipe 108 = .ok (.new 91, 3) := by decide +kernel
theorem dX4_pipe_111 : decode cX4_pipe 111 = .ok (.dup, 1) := by decide +kernel
theorem dX4_pipe_112 : decode cX4_pipe 112 = .ok (.iload_n 1, 1) := by decide +kernel
theorem dX4_pipe_113 : decode cX4_pipe 113 = .ok (.iconst 1, 1) := by decide +kernel
theorem dX4_pipe_114 : decode cX4_pipe 114 = .ok (.iadd, 1) := by decide +kernel
theorem dX4_pipe_115 : decode cX4_pipe 115 = .ok (.iload_n 2, 1) := by decide +kernel
theorem dX4_pipe_116 : decode cX4_pipe 116 = .ok (.iconst 1, 1) := by decide +kernel
theorem dX4_pipe_117 : decode cX4_pipe 117 = .ok (.iadd, 1) := by decide +kernel
theorem dX4_pipe_118 : decode cX4_pipe 118 = .ok (.iload_n 3, 1) := by decide +kernel
theorem dX4_pipe_119 : decode cX4_pipe 119 = .ok (.invokespecial 93, 3) := by decide +kernel
theorem dX4_pipe_122 : decode cX4_pipe 122 = .ok (.invokevirtual 71, 3) := by decide +kernel
theorem dX4_pipe_125 : decode cX4_pipe 125 = .ok (.pop, 1) := by decide +kernel
theorem dX4_pipe_126 : decode cX4_pipe 126 = .ok (.iload 4, 2) := by decide +kernel
theorem dX4_pipe_128 : decode cX4_pipe 128 = .ok (.ireturn, 1) := by decide +kernel
theorem dX4_source_0 : decode cX4_source 0 = .ok (.iload_n 1, 1) := by decide +kernel
theorem dX4_source_1 : decode cX4_source 1 = .ok (.iconst 0, 1) := by decide +kernel
theorem dX4_source_2 : decode cX4_source 2 = .ok (.sipush 9999, 3) := by decide +kernel
theorem dX4_source_5 : decode cX4_source 5 = .ok (.invokestatic 46, 3) := by decide +kernel
theorem dX4_source_8 : decode cX4_source 8 = .ok (.ifCond .eq 13, 3) := by decide +kernel
theorem dX4_source_11 : decode cX4_source 11 = .ok (.new 50, 3) := by decide +kernel
theorem dX4_source_14 : decode cX4_source 14 = .ok (.dup, 1) := by decide +kernel
theorem dX4_source_15 : decode cX4_source 15 = .ok (.ldc 94, 2) := by decide +kernel
theorem dX4_source_17 : decode cX4_source 17 = .ok (.invokespecial 54, 3) := by decide +kernel
theorem dX4_source_20 : decode cX4_source 20 = .ok (.athrow, 1) := by decide +kernel
theorem dX4_source_21 : decode cX4_source 21 = .ok (.aload_n 0, 1) := by decide +kernel
theorem dX4_source_22 : decode cX4_source 22 = .ok (.getfield 33, 3) := by decide +kernel
theorem dX4_source_25 : decode cX4_source 25 = .ok (.ifCond .eq 13, 3) := by decide +kernel
theorem dX4_source_28 : decode cX4_source 28 = .ok (.new 61, 3) := by decide +kernel
theorem dX4_source_31 : decode cX4_source 31 = .ok (.dup, 1) := by decide +kernel
theorem dX4_source_32 : decode cX4_source 32 = .ok (.ldc 96, 2) := by decide +kernel
theorem dX4_source_34 : decode cX4_source 34 = .ok (.invokespecial 65, 3) := by decide +kernel
theorem dX4_source_37 : decode cX4_source 37 = .ok (.athrow, 1) := by decide +kernel
theorem dX4_source_38 : decode cX4_source 38 = .ok (.aload_n 0, 1) := by decide +kernel
theorem dX4_source_39 : decode cX4_source 39 = .ok (.getfield 19, 3) := by decide +kernel
theorem dX4_source_42 : decode cX4_source 42 = .ok (.getfield 98, 3) := by decide +kernel
theorem dX4_source_45 : decode cX4_source 45 = .ok (.istore_n 2, 1) := by decide +kernel
theorem dX4_source_46 : decode cX4_source 46 = .ok (.aload_n 0, 1) := by decide +kernel
theorem dX4_source_47 : decode cX4_source 47 = .ok (.getfield 19, 3) := by decide +kernel
theorem dX4_source_50 : decode cX4_source 50 = .ok (.iload_n 1, 1) := by decide +kernel
theorem dX4_source_51 : decode cX4_source 51 = .ok (.putfield 98, 3) := by decide +kernel
theorem dX4_source_54 : decode cX4_source 54 = .ok (.iload_n 2, 1) := by decide +kernel
theorem dX4_source_55 : decode cX4_source 55 = .ok (.ireturn, 1) := by decide +kernel
theorem dX4_need_0 : decode cX4_need 0 = .ok (.aload_n 0, 1) := by decide +kernel
theorem dX4_need_1 : decode cX4_need 1 = .ok (.iload_n 1, 1) := by decide +kernel
theorem dX4_need_2 : decode cX4_need 2 = .ok (.invokevirtual 75, 3) := by decide +kernel
theorem dX4_need_5 : decode cX4_need 5 = .ok (.ifCond .eq 13, 3) := by decide +kernel
theorem dX4_need_8 : decode cX4_need 8 = .ok (.new 79, 3) := by decide +kernel
theorem dX4_need_11 : decode cX4_need 11 = .ok (.dup, 1) := by decide +kernel
theorem dX4_need_12 : decode cX4_need 12 = .ok (.ldc 81, 2) := by decide +kernel
theorem dX4_need_14 : decode cX4_need 14 = .ok (.invokespecial 83, 3) := by decide +kernel
theorem dX4_need_17 : decode cX4_need 17 = .ok (.athrow, 1) := by decide +kernel
theorem dX4_need_18 : decode cX4_need 18 = .ok (.iload_n 2, 1) := by decide +kernel
theorem dX4_need_19 : decode cX4_need 19 = .ok (.iconst 0, 1) := by decide +kernel
theorem dX4_need_20 : decode cX4_need 20 = .ok (.sipush 999, 3) := by decide +kernel
theorem dX4_need_23 : decode cX4_need 23 = .ok (.invokestatic 46, 3) := by decide +kernel
theorem dX4_need_26 : decode cX4_need 26 = .ok (.ifCond .eq 13, 3) := by decide +kernel
theorem dX4_need_29 : decode cX4_need 29 = .ok (.new 50, 3) := by decide +kernel
theorem dX4_need_32 : decode cX4_need 32 = .ok (.dup, 1) := by decide +kernel
theorem dX4_need_33 : decode cX4_need 33 = .ok (.ldc 101, 2) := by decide +kernel
theorem dX4_need_35 : decode cX4_need 35 = .ok (.invokespecial 54, 3) := by decide +kernel
theorem dX4_need_38 : decode cX4_need 38 = .ok (.athrow, 1) := by decide +kernel
theorem dX4_need_39 : decode cX4_need 39 = .ok (.aload_n 0, 1) := by decide +kernel
theorem dX4_need_40 : decode cX4_need 40 = .ok (.getfield 12, 3) := by decide +kernel
theorem dX4_need_43 : decode cX4_need 43 = .ok (.iload_n 1, 1) := by decide +kernel
theorem dX4_need_44 : decode cX4_need 44 = .ok (.invokevirtual 103, 3) := by decide +kernel
theorem dX4_need_47 : decode cX4_need 47 = .ok (.checkcast 66, 3) := by decide +kernel
theorem dX4_need_50 : decode cX4_need 50 = .ok (.astore_n 3, 1) := by decide +kernel
theorem dX4_need_51 : decode cX4_need 51 = .ok (.aload_n 3, 1) := by decide +kernel
theorem dX4_need_52 : decode cX4_need 52 = .ok (.getfield 107, 3) := by decide +kernel
theorem dX4_need_55 : decode cX4_need 55 = .ok (.istore 4, 2) := by decide +kernel
theorem dX4_need_57 : decode cX4_need 57 = .ok (.aload_n 3, 1) := by decide +kernel
theorem dX4_need_58 : decode cX4_need 58 = .ok (.iload_n 2, 1) := by decide +kernel
theorem dX4_need_59 : decode cX4_need 59 = .ok (.putfield 107, 3) := by decide +kernel
theorem dX4_need_62 : decode cX4_need 62 = .ok (.iload 4, 2) := by decide +kernel
theorem dX4_need_64 : decode cX4_need 64 = .ok (.ireturn, 1) := by decide +kernel
theorem dX4_bid_0 : decode cX4_bid 0 = .ok (.aload_n 0, 1) := by decide +kernel
theorem dX4_bid_1 : decode cX4_bid 1 = .ok (.iload_n 1, 1) := by decide +kernel
theorem dX4_bid_2 : decode cX4_bid 2 = .ok (.invokevirtual 75, 3) := by decide +kernel
theorem dX4_bid_5 : decode cX4_bid 5 = .ok (.ifCond .eq 13, 3) := by decide +kernel
theorem dX4_bid_8 : decode cX4_bid 8 = .ok (.new 79, 3) := by decide +kernel
theorem dX4_bid_11 : decode cX4_bid 11 = .ok (.dup, 1) := by decide +kernel
theorem dX4_bid_12 : decode cX4_bid 12 = .ok (.ldc 81, 2) := by decide +kernel
theorem dX4_bid_14 : decode cX4_bid 14 = .ok (.invokespecial 83, 3) := by decide +kernel
theorem dX4_bid_17 : decode cX4_bid 17 = .ok (.athrow, 1) := by decide +kernel
theorem dX4_bid_18 : decode cX4_bid 18 = .ok (.iload_n 2, 1) := by decide +kernel
theorem dX4_bid_19 : decode cX4_bid 19 = .ok (.iconst 0, 1) := by decide +kernel
theorem dX4_bid_20 : decode cX4_bid 20 = .ok (.bipush 99, 2) := by decide +kernel
theorem dX4_bid_22 : decode cX4_bid 22 = .ok (.invokestatic 46, 3) := by decide +kernel
theorem dX4_bid_25 : decode cX4_bid 25 = .ok (.ifCond .ne 14, 3) := by decide +kernel
theorem dX4_bid_28 : decode cX4_bid 28 = .ok (.iload_n 3, 1) := by decide +kernel
theorem dX4_bid_29 : decode cX4_bid 29 = .ok (.iconst 0, 1) := by decide +kernel
theorem dX4_bid_30 : decode cX4_bid 30 = .ok (.sipush 999, 3) := by decide +kernel
theorem dX4_bid_33 : decode cX4_bid 33 = .ok (.invokestatic 46, 3) := by decide +kernel
theorem dX4_bid_36 : decode cX4_bid 36 = .ok (.ifCond .eq 13, 3) := by decide +kernel
theorem dX4_bid_39 : decode cX4_bid 39 = .ok (.new 50, 3) := by decide +kernel
theorem dX4_bid_42 : decode cX4_bid 42 = .ok (.dup, 1) := by decide +kernel
theorem dX4_bid_43 : decode cX4_bid 43 = .ok (.ldc 110, 2) := by decide +kernel
theorem dX4_bid_45 : decode cX4_bid 45 = .ok (.invokespecial 54, 3) := by decide +kernel
theorem dX4_bid_48 : decode cX4_bid 48 = .ok (.athrow, 1) := by decide +kernel
theorem dX4_bid_49 : decode cX4_bid 49 = .ok (.aload_n 0, 1) := by decide +kernel
theorem dX4_bid_50 : decode cX4_bid 50 = .ok (.getfield 12, 3) := by decide +kernel
theorem dX4_bid_53 : decode cX4_bid 53 = .ok (.iload_n 1, 1) := by decide +kernel
theorem dX4_bid_54 : decode cX4_bid 54 = .ok (.invokevirtual 103, 3) := by decide +kernel
theorem dX4_bid_57 : decode cX4_bid 57 = .ok (.checkcast 66, 3) := by decide +kernel
theorem dX4_bid_60 : decode cX4_bid 60 = .ok (.astore 4, 2) := by decide +kernel
theorem dX4_bid_62 : decode cX4_bid 62 = .ok (.aload_n 0, 1) := by decide +kernel
theorem dX4_bid_63 : decode cX4_bid 63 = .ok (.getfield 33, 3) := by decide +kernel
theorem dX4_bid_66 : decode cX4_bid 66 = .ok (.ifCond .ne 26, 3) := by decide +kernel
theorem dX4_bid_69 : decode cX4_bid 69 = .ok (.aload 4, 2) := by decide +kernel
theorem dX4_bid_71 : decode cX4_bid 71 = .ok (.getfield 112, 3) := by decide +kernel
theorem dX4_bid_74 : decode cX4_bid 74 = .ok (.getfield 116, 3) := by decide +kernel
theorem dX4_bid_77 : decode cX4_bid 77 = .ok (.ifCond .eq 25, 3) := by decide +kernel
theorem dX4_bid_80 : decode cX4_bid 80 = .ok (.iload_n 2, 1) := by decide +kernel
theorem dX4_bid_81 : decode cX4_bid 81 = .ok (.aload 4, 2) := by decide +kernel
theorem dX4_bid_83 : decode cX4_bid 83 = .ok (.getfield 112, 3) := by decide +kernel
theorem dX4_bid_86 : decode cX4_bid 86 = .ok (.getfield 121, 3) := by decide +kernel
theorem dX4_bid_89 : decode cX4_bid 89 = .ok (.if_icmp .ge 13, 3) := by decide +kernel
theorem dX4_bid_92 : decode cX4_bid 92 = .ok (.new 61, 3) := by decide +kernel
theorem dX4_bid_95 : decode cX4_bid 95 = .ok (.dup, 1) := by decide +kernel
theorem dX4_bid_96 : decode cX4_bid 96 = .ok (.ldc 124, 2) := by decide +kernel
theorem dX4_bid_98 : decode cX4_bid 98 = .ok (.invokespecial 65, 3) := by decide +kernel
theorem dX4_bid_101 : decode cX4_bid 101 = .ok (.athrow, 1) := by decide +kernel
theorem dX4_bid_102 : decode cX4_bid 102 = .ok (.aload 4, 2) := by decide +kernel
theorem dX4_bid_104 : decode cX4_bid 104 = .ok (.getfield 126, 3) := by decide +kernel
theorem dX4_bid_107 : decode cX4_bid 107 = .ok (.getfield 116, 3) := by decide +kernel
theorem dX4_bid_110 : decode cX4_bid 110 = .ok (.ifCond .ne 13, 3) := by decide +kernel
theorem dX4_bid_113 : decode cX4_bid 113 = .ok (.aload_n 0, 1) := by decide +kernel
theorem dX4_bid_114 : decode cX4_bid 114 = .ok (.dup, 1) := by decide +kernel
theorem dX4_bid_115 : decode cX4_bid 115 = .ok (.getfield 37, 3) := by decide +kernel
theorem dX4_bid_118 : decode cX4_bid 118 = .ok (.iconst 1, 1) := by decide +kernel
theorem dX4_bid_119 : decode cX4_bid 119 = .ok (.iadd, 1) := by decide +kernel
theorem dX4_bid_120 : decode cX4_bid 120 = .ok (.putfield 37, 3) := by decide +kernel
theorem dX4_bid_123 : decode cX4_bid 123 = .ok (.aload 4, 2) := by decide +kernel
theorem dX4_bid_125 : decode cX4_bid 125 = .ok (.getfield 126, 3) := by decide +kernel
theorem dX4_bid_128 : decode cX4_bid 128 = .ok (.iload_n 2, 1) := by decide +kernel
theorem dX4_bid_129 : decode cX4_bid 129 = .ok (.iload_n 3, 1) := by decide +kernel
theorem dX4_bid_130 : decode cX4_bid 130 = .ok (.aload_n 0, 1) := by decide +kernel
theorem dX4_bid_131 : decode cX4_bid 131 = .ok (.getfield 40, 3) := by decide +kernel
theorem dX4_bid_134 : decode cX4_bid 134 = .ok (.invokevirtual 129, 3) := by decide +kernel
theorem dX4_bid_137 : decode cX4_bid 137 = .ok (.aload_n 0, 1) := by decide +kernel
theorem dX4_bid_138 : decode cX4_bid 138 = .ok (.dup, 1) := by decide +kernel
theorem dX4_bid_139 : decode cX4_bid 139 = .ok (.getfield 40, 3) := by decide +kernel
theorem dX4_bid_142 : decode cX4_bid 142 = .ok (.iconst 1, 1) := by decide +kernel
theorem dX4_bid_143 : decode cX4_bid 143 = .ok (.iadd, 1) := by decide +kernel
theorem dX4_bid_144 : decode cX4_bid 144 = .ok (.putfield 40, 3) := by decide +kernel
theorem dX4_bid_147 : decode cX4_bid 147 = .ok (.aload_n 0, 1) := by decide +kernel
theorem dX4_bid_148 : decode cX4_bid 148 = .ok (.getfield 37, 3) := by decide +kernel
theorem dX4_bid_151 : decode cX4_bid 151 = .ok (.ireturn, 1) := by decide +kernel
theorem dX4_close_0 : decode cX4_close 0 = .ok (.aload_n 0, 1) := by decide +kernel
theorem dX4_close_1 : decode cX4_close 1 = .ok (.getfield 33, 3) := by decide +kernel
theorem dX4_close_4 : decode cX4_close 4 = .ok (.ifCond .eq 13, 3) := by decide +kernel
theorem dX4_close_7 : decode cX4_close 7 = .ok (.new 61, 3) := by decide +kernel
theorem dX4_close_10 : decode cX4_close 10 = .ok (.dup, 1) := by decide +kernel
theorem dX4_close_11 : decode cX4_close 11 = .ok (.ldc 132, 2) := by decide +kernel
theorem dX4_close_13 : decode cX4_close 13 = .ok (.invokespecial 65, 3) := by decide +kernel
theorem dX4_close_16 : decode cX4_close 16 = .ok (.athrow, 1) := by decide +kernel
theorem dX4_close_17 : decode cX4_close 17 = .ok (.aload_n 0, 1) := by decide +kernel
theorem dX4_close_18 : decode cX4_close 18 = .ok (.getfield 37, 3) := by decide +kernel
theorem dX4_close_21 : decode cX4_close 21 = .ok (.ifCond .eq 11, 3) := by decide +kernel
theorem dX4_close_24 : decode cX4_close 24 = .ok (.aload_n 0, 1) := by decide +kernel
theorem dX4_close_25 : decode cX4_close 25 = .ok (.getfield 30, 3) := by decide +kernel
theorem dX4_close_28 : decode cX4_close 28 = .ok (.iconst 4, 1) := by decide +kernel
theorem dX4_close_29 : decode cX4_close 29 = .ok (.if_icmp .lt 7, 3) := by decide +kernel
theorem dX4_close_32 : decode cX4_close 32 = .ok (.iconst 1, 1) := by decide +kernel
theorem dX4_close_33 : decode cX4_close 33 = .ok (.goto 4, 3) := by decide +kernel
theorem dX4_close_36 : decode cX4_close 36 = .ok (.iconst 0, 1) := by decide +kernel
theorem dX4_close_37 : decode cX4_close 37 = .ok (.istore_n 1, 1) := by decide +kernel
theorem dX4_close_38 : decode cX4_close 38 = .ok (.iconst 0, 1) := by decide +kernel
theorem dX4_close_39 : decode cX4_close 39 = .ok (.istore_n 2, 1) := by decide +kernel
theorem dX4_close_40 : decode cX4_close 40 = .ok (.iload_n 2, 1) := by decide +kernel
theorem dX4_close_41 : decode cX4_close 41 = .ok (.aload_n 0, 1) := by decide +kernel
theorem dX4_close_42 : decode cX4_close 42 = .ok (.getfield 12, 3) := by decide +kernel
theorem dX4_close_45 : decode cX4_close 45 = .ok (.invokevirtual 57, 3) := by decide +kernel
theorem dX4_close_48 : decode cX4_close 48 = .ok (.if_icmp .ge 23, 3) := by decide +kernel
theorem dX4_close_51 : decode cX4_close 51 = .ok (.aload_n 0, 1) := by decide +kernel
theorem dX4_close_52 : decode cX4_close 52 = .ok (.getfield 12, 3) := by decide +kernel
theorem dX4_close_55 : decode cX4_close 55 = .ok (.iload_n 2, 1) := by decide +kernel
theorem dX4_close_56 : decode cX4_close 56 = .ok (.invokevirtual 103, 3) := by decide +kernel
theorem dX4_close_59 : decode cX4_close 59 = .ok (.checkcast 66, 3) := by decide +kernel
theorem dX4_close_62 : decode cX4_close 62 = .ok (.invokevirtual 134, 3) := by decide +kernel
theorem dX4_close_65 : decode cX4_close 65 = .ok (.iinc 2 1, 3) := by decide +kernel
theorem dX4_close_68 : decode cX4_close 68 = .ok (.goto (-28), 3) := by decide +kernel
theorem dX4_close_71 : decode cX4_close 71 = .ok (.aload_n 0, 1) := by decide +kernel
theorem dX4_close_72 : decode cX4_close 72 = .ok (.iconst 0, 1) := by decide +kernel
theorem dX4_close_73 : decode cX4_close 73 = .ok (.putfield 37, 3) := by decide +kernel
theorem dX4_close_76 : decode cX4_close 76 = .ok (.aload_n 0, 1) := by decide +kernel
theorem dX4_close_77 : decode cX4_close 77 = .ok (.invokevirtual 137, 3) := by decide +kernel
theorem dX4_close_80 : decode cX4_close 80 = .ok (.iload_n 1, 1) := by decide +kernel
theorem dX4_close_81 : decode cX4_close 81 = .ok (.ifCond .eq 10, 3) := by decide +kernel
theorem dX4_close_84 : decode cX4_close 84 = .ok (.aload_n 0, 1) := by decide +kernel
theorem dX4_close_85 : decode cX4_close 85 = .ok (.invokevirtual 140, 3) := by decide +kernel
theorem dX4_close_88 : decode cX4_close 88 = .ok (.goto 13, 3) := by decide +kernel
theorem dX4_close_91 : decode cX4_close 91 = .ok (.aload_n 0, 1) := by decide +kernel
theorem dX4_close_92 : decode cX4_close 92 = .ok (.dup, 1) := by decide +kernel
theorem dX4_close_93 : decode cX4_close 93 = .ok (.getfield 30, 3) := by decide +kernel
theorem dX4_close_96 : decode cX4_close 96 = .ok (.iconst 1, 1) := by decide +kernel
theorem dX4_close_97 : decode cX4_close 97 = .ok (.iadd, 1) := by decide +kernel
theorem dX4_close_98 : decode cX4_close 98 = .ok (.putfield 30, 3) := by decide +kernel
theorem dX4_close_101 : decode cX4_close 101 = .ok (.iload_n 1, 1) := by decide +kernel
theorem dX4_close_102 : decode cX4_close 102 = .ok (.ireturn, 1) := by decide +kernel
theorem dX4_burst_0 : decode cX4_burst 0 = .ok (.aload_n 0, 1) := by decide +kernel
theorem dX4_burst_1 : decode cX4_burst 1 = .ok (.iload_n 1, 1) := by decide +kernel
theorem dX4_burst_2 : decode cX4_burst 2 = .ok (.invokevirtual 143, 3) := by decide +kernel
theorem dX4_burst_5 : decode cX4_burst 5 = .ok (.ifCond .eq 13, 3) := by decide +kernel
theorem dX4_burst_8 : decode cX4_burst 8 = .ok (.new 79, 3) := by decide +kernel
theorem dX4_burst_11 : decode cX4_burst 11 = .ok (.dup, 1) := by decide +kernel
theorem dX4_burst_12 : decode cX4_burst 12 = .ok (.ldc 146, 2) := by decide +kernel
theorem dX4_burst_14 : decode cX4_burst 14 = .ok (.invokespecial 83, 3) := by decide +kernel
theorem dX4_burst_17 : decode cX4_burst 17 = .ok (.athrow, 1) := by decide +kernel
theorem dX4_burst_18 : decode cX4_burst 18 = .ok (.aload_n 0, 1) := by decide +kernel
theorem dX4_burst_19 : decode cX4_burst 19 = .ok (.getfield 19, 3) := by decide +kernel
theorem dX4_burst_22 : decode cX4_burst 22 = .ok (.getfield 86, 3) := by decide +kernel
theorem dX4_burst_25 : decode cX4_burst 25 = .ok (.iload_n 1, 1) := by decide +kernel
theorem dX4_burst_26 : decode cX4_burst 26 = .ok (.invokevirtual 103, 3) := by decide +kernel
theorem dX4_burst_29 : decode cX4_burst 29 = .ok (.checkcast 91, 3) := by decide +kernel
theorem dX4_burst_32 : decode cX4_burst 32 = .ok (.astore_n 2, 1) := by decide +kernel
theorem dX4_burst_33 : decode cX4_burst 33 = .ok (.aload_n 2, 1) := by decide +kernel
theorem dX4_burst_34 : decode cX4_burst 34 = .ok (.getfield 148, 3) := by decide +kernel
theorem dX4_burst_37 : decode cX4_burst 37 = .ok (.ifCond .eq 13, 3) := by decide +kernel
theorem dX4_burst_40 : decode cX4_burst 40 = .ok (.new 61, 3) := by decide +kernel
theorem dX4_burst_43 : decode cX4_burst 43 = .ok (.dup, 1) := by decide +kernel
theorem dX4_burst_44 : decode cX4_burst 44 = .ok (.ldc 151, 2) := by decide +kernel
theorem dX4_burst_46 : decode cX4_burst 46 = .ok (.invokespecial 65, 3) := by decide +kernel
theorem dX4_burst_49 : decode cX4_burst 49 = .ok (.athrow, 1) := by decide +kernel
theorem dX4_burst_50 : decode cX4_burst 50 = .ok (.aload_n 2, 1) := by decide +kernel
theorem dX4_burst_51 : decode cX4_burst 51 = .ok (.iconst 1, 1) := by decide +kernel
theorem dX4_burst_52 : decode cX4_burst 52 = .ok (.putfield 148, 3) := by decide +kernel
theorem dX4_burst_55 : decode cX4_burst 55 = .ok (.aload_n 0, 1) := by decide +kernel
theorem dX4_burst_56 : decode cX4_burst 56 = .ok (.getfield 33, 3) := by decide +kernel
theorem dX4_burst_59 : decode cX4_burst 59 = .ok (.ifCond .eq 10, 3) := by decide +kernel
theorem dX4_burst_62 : decode cX4_burst 62 = .ok (.aload_n 0, 1) := by decide +kernel
theorem dX4_burst_63 : decode cX4_burst 63 = .ok (.invokevirtual 153, 3) := by decide +kernel
theorem dX4_burst_66 : decode cX4_burst 66 = .ok (.goto 4, 3) := by decide +kernel
theorem dX4_burst_69 : decode cX4_burst 69 = .ok (.iconst 0, 1) := by decide +kernel
theorem dX4_burst_70 : decode cX4_burst 70 = .ok (.ireturn, 1) := by decide +kernel
theorem dX4_repair_0 : decode cX4_repair 0 = .ok (.aload_n 0, 1) := by decide +kernel
theorem dX4_repair_1 : decode cX4_repair 1 = .ok (.iload_n 1, 1) := by decide +kernel
theorem dX4_repair_2 : decode cX4_repair 2 = .ok (.invokevirtual 143, 3) := by decide +kernel
theorem dX4_repair_5 : decode cX4_repair 5 = .ok (.ifCond .eq 13, 3) := by decide +kernel
theorem dX4_repair_8 : decode cX4_repair 8 = .ok (.new 79, 3) := by decide +kernel
theorem dX4_repair_11 : decode cX4_repair 11 = .ok (.dup, 1) := by decide +kernel
theorem dX4_repair_12 : decode cX4_repair 12 = .ok (.ldc 146, 2) := by decide +kernel
theorem dX4_repair_14 : decode cX4_repair 14 = .ok (.invokespecial 83, 3) := by decide +kernel
theorem dX4_repair_17 : decode cX4_repair 17 = .ok (.athrow, 1) := by decide +kernel
theorem dX4_repair_18 : decode cX4_repair 18 = .ok (.aload_n 0, 1) := by decide +kernel
theorem dX4_repair_19 : decode cX4_repair 19 = .ok (.getfield 19, 3) := by decide +kernel
theorem dX4_repair_22 : decode cX4_repair 22 = .ok (.getfield 86, 3) := by decide +kernel
theorem dX4_repair_25 : decode cX4_repair 25 = .ok (.iload_n 1, 1) := by decide +kernel
theorem dX4_repair_26 : decode cX4_repair 26 = .ok (.invokevirtual 103, 3) := by decide +kernel
theorem dX4_repair_29 : decode cX4_repair 29 = .ok (.checkcast 91, 3) := by decide +kernel
theorem dX4_repair_32 : decode cX4_repair 32 = .ok (.astore_n 2, 1) := by decide +kernel
theorem dX4_repair_33 : decode cX4_repair 33 = .ok (.aload_n 2, 1) := by decide +kernel
theorem dX4_repair_34 : decode cX4_repair 34 = .ok (.getfield 148, 3) := by decide +kernel
theorem dX4_repair_37 : decode cX4_repair 37 = .ok (.ifCond .eq 10, 3) := by decide +kernel
theorem dX4_repair_40 : decode cX4_repair 40 = .ok (.aload_n 0, 1) := by decide +kernel
theorem dX4_repair_41 : decode cX4_repair 41 = .ok (.getfield 33, 3) := by decide +kernel
theorem dX4_repair_44 : decode cX4_repair 44 = .ok (.ifCond .eq 13, 3) := by decide +kernel
theorem dX4_repair_47 : decode cX4_repair 47 = .ok (.new 61, 3) := by decide +kernel
theorem dX4_repair_50 : decode cX4_repair 50 = .ok (.dup, 1) := by decide +kernel
theorem dX4_repair_51 : decode cX4_repair 51 = .ok (.ldc 156, 2) := by decide +kernel
theorem dX4_repair_53 : decode cX4_repair 53 = .ok (.invokespecial 65, 3) := by decide +kernel
theorem dX4_repair_56 : decode cX4_repair 56 = .ok (.athrow, 1) := by decide +kernel
theorem dX4_repair_57 : decode cX4_repair 57 = .ok (.aload_n 2, 1) := by decide +kernel
theorem dX4_repair_58 : decode cX4_repair 58 = .ok (.iconst 0, 1) := by decide +kernel
theorem dX4_repair_59 : decode cX4_repair 59 = .ok (.putfield 148, 3) := by decide +kernel
theorem dX4_repair_62 : decode cX4_repair 62 = .ok (.return_, 1) := by decide +kernel
theorem dX4_end_0 : decode cX4_end 0 = .ok (.aload_n 0, 1) := by decide +kernel
theorem dX4_end_1 : decode cX4_end 1 = .ok (.getfield 33, 3) := by decide +kernel
theorem dX4_end_4 : decode cX4_end 4 = .ok (.ifCond .eq 13, 3) := by decide +kernel
theorem dX4_end_7 : decode cX4_end 7 = .ok (.aload_n 0, 1) := by decide +kernel
theorem dX4_end_8 : decode cX4_end 8 = .ok (.getfield 26, 3) := by decide +kernel
theorem dX4_end_11 : decode cX4_end 11 = .ok (.sipush 1000, 3) := by decide +kernel
theorem dX4_end_14 : decode cX4_end 14 = .ok (.if_icmp .lt 13, 3) := by decide +kernel
theorem dX4_end_17 : decode cX4_end 17 = .ok (.new 61, 3) := by decide +kernel
theorem dX4_end_20 : decode cX4_end 20 = .ok (.dup, 1) := by decide +kernel
theorem dX4_end_21 : decode cX4_end 21 = .ok (.ldc 158, 2) := by decide +kernel
theorem dX4_end_23 : decode cX4_end 23 = .ok (.invokespecial 65, 3) := by decide +kernel
theorem dX4_end_26 : decode cX4_end 26 = .ok (.athrow, 1) := by decide +kernel
theorem dX4_end_27 : decode cX4_end 27 = .ok (.iconst 0, 1) := by decide +kernel
theorem dX4_end_28 : decode cX4_end 28 = .ok (.istore_n 1, 1) := by decide +kernel
theorem dX4_end_29 : decode cX4_end 29 = .ok (.iconst 0, 1) := by decide +kernel
theorem dX4_end_30 : decode cX4_end 30 = .ok (.istore_n 2, 1) := by decide +kernel
theorem dX4_end_31 : decode cX4_end 31 = .ok (.iload_n 2, 1) := by decide +kernel
theorem dX4_end_32 : decode cX4_end 32 = .ok (.aload_n 0, 1) := by decide +kernel
theorem dX4_end_33 : decode cX4_end 33 = .ok (.getfield 12, 3) := by decide +kernel
theorem dX4_end_36 : decode cX4_end 36 = .ok (.invokevirtual 57, 3) := by decide +kernel
theorem dX4_end_39 : decode cX4_end 39 = .ok (.if_icmp .ge 52, 3) := by decide +kernel
theorem dX4_end_42 : decode cX4_end 42 = .ok (.aload_n 0, 1) := by decide +kernel
theorem dX4_end_43 : decode cX4_end 43 = .ok (.getfield 12, 3) := by decide +kernel
theorem dX4_end_46 : decode cX4_end 46 = .ok (.iload_n 2, 1) := by decide +kernel
theorem dX4_end_47 : decode cX4_end 47 = .ok (.invokevirtual 103, 3) := by decide +kernel
theorem dX4_end_50 : decode cX4_end 50 = .ok (.checkcast 66, 3) := by decide +kernel
theorem dX4_end_53 : decode cX4_end 53 = .ok (.astore_n 3, 1) := by decide +kernel
theorem dX4_end_54 : decode cX4_end 54 = .ok (.aload_n 0, 1) := by decide +kernel
theorem dX4_end_55 : decode cX4_end 55 = .ok (.dup, 1) := by decide +kernel
theorem dX4_end_56 : decode cX4_end 56 = .ok (.getfield 43, 3) := by decide +kernel
theorem dX4_end_59 : decode cX4_end 59 = .ok (.aload_n 3, 1) := by decide +kernel
theorem dX4_end_60 : decode cX4_end 60 = .ok (.getfield 160, 3) := by decide +kernel
theorem dX4_end_63 : decode cX4_end 63 = .ok (.iadd, 1) := by decide +kernel
theorem dX4_end_64 : decode cX4_end 64 = .ok (.putfield 43, 3) := by decide +kernel
theorem dX4_end_67 : decode cX4_end 67 = .ok (.aload_n 3, 1) := by decide +kernel
theorem dX4_end_68 : decode cX4_end 68 = .ok (.invokevirtual 163, 3) := by decide +kernel
theorem dX4_end_71 : decode cX4_end 71 = .ok (.aload_n 3, 1) := by decide +kernel
theorem dX4_end_72 : decode cX4_end 72 = .ok (.invokevirtual 166, 3) := by decide +kernel
theorem dX4_end_75 : decode cX4_end 75 = .ok (.ifCond .le 6, 3) := by decide +kernel
theorem dX4_end_78 : decode cX4_end 78 = .ok (.iinc 1 1, 3) := by decide +kernel
theorem dX4_end_81 : decode cX4_end 81 = .ok (.aload_n 3, 1) := by decide +kernel
theorem dX4_end_82 : decode cX4_end 82 = .ok (.invokevirtual 169, 3) := by decide +kernel
theorem dX4_end_85 : decode cX4_end 85 = .ok (.iinc 2 1, 3) := by decide +kernel
theorem dX4_end_88 : decode cX4_end 88 = .ok (.goto (-57), 3) := by decide +kernel
theorem dX4_end_91 : decode cX4_end 91 = .ok (.aload_n 0, 1) := by decide +kernel
theorem dX4_end_92 : decode cX4_end 92 = .ok (.getfield 23, 3) := by decide +kernel
theorem dX4_end_95 : decode cX4_end 95 = .ok (.invokevirtual 172, 3) := by decide +kernel
theorem dX4_end_98 : decode cX4_end 98 = .ok (.aload_n 0, 1) := by decide +kernel
theorem dX4_end_99 : decode cX4_end 99 = .ok (.iconst 0, 1) := by decide +kernel
theorem dX4_end_100 : decode cX4_end 100 = .ok (.putfield 33, 3) := by decide +kernel
theorem dX4_end_103 : decode cX4_end 103 = .ok (.aload_n 0, 1) := by decide +kernel
theorem dX4_end_104 : decode cX4_end 104 = .ok (.iconst 0, 1) := by decide +kernel
theorem dX4_end_105 : decode cX4_end 105 = .ok (.putfield 30, 3) := by decide +kernel
theorem dX4_end_108 : decode cX4_end 108 = .ok (.aload_n 0, 1) := by decide +kernel
theorem dX4_end_109 : decode cX4_end 109 = .ok (.dup, 1) := by decide +kernel
theorem dX4_end_110 : decode cX4_end 110 = .ok (.getfield 26, 3) := by decide +kernel
theorem dX4_end_113 : decode cX4_end 113 = .ok (.iconst 1, 1) := by decide +kernel
theorem dX4_end_114 : decode cX4_end 114 = .ok (.iadd, 1) := by decide +kernel
theorem dX4_end_115 : decode cX4_end 115 = .ok (.putfield 26, 3) := by decide +kernel
theorem dX4_end_118 : decode cX4_end 118 = .ok (.iload_n 1, 1) := by decide +kernel
theorem dX4_end_119 : decode cX4_end 119 = .ok (.ireturn, 1) := by decide +kernel
theorem dX4_hour_0 : decode cX4_hour 0 = .ok (.aload_n 0, 1) := by decide +kernel
theorem dX4_hour_1 : decode cX4_hour 1 = .ok (.getfield 26, 3) := by decide +kernel
theorem dX4_hour_4 : decode cX4_hour 4 = .ok (.ireturn, 1) := by decide +kernel
theorem dX4_round_0 : decode cX4_round 0 = .ok (.aload_n 0, 1) := by decide +kernel
theorem dX4_round_1 : decode cX4_round 1 = .ok (.getfield 33, 3) := by decide +kernel
theorem dX4_round_4 : decode cX4_round 4 = .ok (.ifCond .eq 7, 3) := by decide +kernel
theorem dX4_round_7 : decode cX4_round 7 = .ok (.iconst (-1), 1) := by decide +kernel
theorem dX4_round_8 : decode cX4_round 8 = .ok (.goto 7, 3) := by decide +kernel
theorem dX4_round_11 : decode cX4_round 11 = .ok (.aload_n 0, 1) := by decide +kernel
theorem dX4_round_12 : decode cX4_round 12 = .ok (.getfield 30, 3) := by decide +kernel
theorem dX4_round_15 : decode cX4_round 15 = .ok (.ireturn, 1) := by decide +kernel
theorem dX4_ofDistrict_0 : decode cX4_ofDistrict 0 = .ok (.aload_n 0, 1) := by decide +kernel
theorem dX4_ofDistrict_1 : decode cX4_ofDistrict 1 = .ok (.iload_n 1, 1) := by decide +kernel
theorem dX4_ofDistrict_2 : decode cX4_ofDistrict 2 = .ok (.invokevirtual 75, 3) := by decide +kernel
theorem dX4_ofDistrict_5 : decode cX4_ofDistrict 5 = .ok (.ifCond .eq 13, 3) := by decide +kernel
theorem dX4_ofDistrict_8 : decode cX4_ofDistrict 8 = .ok (.new 79, 3) := by decide +kernel
theorem dX4_ofDistrict_11 : decode cX4_ofDistrict 11 = .ok (.dup, 1) := by decide +kernel
theorem dX4_ofDistrict_12 : decode cX4_ofDistrict 12 = .ok (.ldc 81, 2) := by decide +kernel
theorem dX4_ofDistrict_14 : decode cX4_ofDistrict 14 = .ok (.invokespecial 83, 3) := by decide +kernel
theorem dX4_ofDistrict_17 : decode cX4_ofDistrict 17 = .ok (.athrow, 1) := by decide +kernel
theorem dX4_ofDistrict_18 : decode cX4_ofDistrict 18 = .ok (.aload_n 0, 1) := by decide +kernel
theorem dX4_ofDistrict_19 : decode cX4_ofDistrict 19 = .ok (.getfield 12, 3) := by decide +kernel
theorem dX4_ofDistrict_22 : decode cX4_ofDistrict 22 = .ok (.iload_n 1, 1) := by decide +kernel
theorem dX4_ofDistrict_23 : decode cX4_ofDistrict 23 = .ok (.invokevirtual 103, 3) := by decide +kernel
theorem dX4_ofDistrict_26 : decode cX4_ofDistrict 26 = .ok (.checkcast 66, 3) := by decide +kernel
theorem dX4_ofDistrict_29 : decode cX4_ofDistrict 29 = .ok (.astore_n 3, 1) := by decide +kernel
theorem dX4_ofDistrict_30 : decode cX4_ofDistrict 30 = .ok (.iload_n 2, 1) := by decide +kernel
theorem dX4_ofDistrict_31 : decode cX4_ofDistrict 31 = .ok (.tableswitch 128 0 8 #[49, 54, 76, 98, 103, 108, 113, 118, 123], 49) := by decide +kernel
theorem dX4_ofDistrict_80 : decode cX4_ofDistrict 80 = .ok (.aload_n 3, 1) := by decide +kernel
theorem dX4_ofDistrict_81 : decode cX4_ofDistrict 81 = .ok (.getfield 175, 3) := by decide +kernel
theorem dX4_ofDistrict_84 : decode cX4_ofDistrict 84 = .ok (.ireturn, 1) := by decide +kernel
theorem dX4_ofDistrict_85 : decode cX4_ofDistrict 85 = .ok (.aload_n 3, 1) := by decide +kernel
theorem dX4_ofDistrict_86 : decode cX4_ofDistrict 86 = .ok (.getfield 112, 3) := by decide +kernel
theorem dX4_ofDistrict_89 : decode cX4_ofDistrict 89 = .ok (.getfield 116, 3) := by decide +kernel
theorem dX4_ofDistrict_92 : decode cX4_ofDistrict 92 = .ok (.ifCond .eq 13, 3) := by decide +kernel
theorem dX4_ofDistrict_95 : decode cX4_ofDistrict 95 = .ok (.aload_n 3, 1) := by decide +kernel
theorem dX4_ofDistrict_96 : decode cX4_ofDistrict 96 = .ok (.getfield 112, 3) := by decide +kernel
theorem dX4_ofDistrict_99 : decode cX4_ofDistrict 99 = .ok (.getfield 121, 3) := by decide +kernel
theorem dX4_ofDistrict_102 : decode cX4_ofDistrict 102 = .ok (.goto 4, 3) := by decide +kernel
theorem dX4_ofDistrict_105 : decode cX4_ofDistrict 105 = .ok (.iconst (-1), 1) := by decide +kernel
theorem dX4_ofDistrict_106 : decode cX4_ofDistrict 106 = .ok (.ireturn, 1) := by decide +kernel
theorem dX4_ofDistrict_107 : decode cX4_ofDistrict 107 = .ok (.aload_n 3, 1) := by decide +kernel
theorem dX4_ofDistrict_108 : decode cX4_ofDistrict 108 = .ok (.getfield 112, 3) := by decide +kernel
theorem dX4_ofDistrict_111 : decode cX4_ofDistrict 111 = .ok (.getfield 116, 3) := by decide +kernel
theorem dX4_ofDistrict_114 : decode cX4_ofDistrict 114 = .ok (.ifCond .eq 13, 3) := by decide +kernel
theorem dX4_ofDistrict_117 : decode cX4_ofDistrict 117 = .ok (.aload_n 3, 1) := by decide +kernel
theorem dX4_ofDistrict_118 : decode cX4_ofDistrict 118 = .ok (.getfield 112, 3) := by decide +kernel
theorem dX4_ofDistrict_121 : decode cX4_ofDistrict 121 = .ok (.getfield 178, 3) := by decide +kernel
theorem dX4_ofDistrict_124 : decode cX4_ofDistrict 124 = .ok (.goto 4, 3) := by decide +kernel
theorem dX4_ofDistrict_127 : decode cX4_ofDistrict 127 = .ok (.iconst (-1), 1) := by decide +kernel
theorem dX4_ofDistrict_128 : decode cX4_ofDistrict 128 = .ok (.ireturn, 1) := by decide +kernel
theorem dX4_ofDistrict_129 : decode cX4_ofDistrict 129 = .ok (.aload_n 3, 1) := by decide +kernel
theorem dX4_ofDistrict_130 : decode cX4_ofDistrict 130 = .ok (.getfield 160, 3) := by decide +kernel
theorem dX4_ofDistrict_133 : decode cX4_ofDistrict 133 = .ok (.ireturn, 1) := by decide +kernel
theorem dX4_ofDistrict_134 : decode cX4_ofDistrict 134 = .ok (.aload_n 3, 1) := by decide +kernel
theorem dX4_ofDistrict_135 : decode cX4_ofDistrict 135 = .ok (.getfield 181, 3) := by decide +kernel
theorem dX4_ofDistrict_138 : decode cX4_ofDistrict 138 = .ok (.ireturn, 1) := by decide +kernel
theorem dX4_ofDistrict_139 : decode cX4_ofDistrict 139 = .ok (.aload_n 3, 1) := by decide +kernel
theorem dX4_ofDistrict_140 : decode cX4_ofDistrict 140 = .ok (.getfield 184, 3) := by decide +kernel
theorem dX4_ofDistrict_143 : decode cX4_ofDistrict 143 = .ok (.ireturn, 1) := by decide +kernel
theorem dX4_ofDistrict_144 : decode cX4_ofDistrict 144 = .ok (.aload_n 3, 1) := by decide +kernel
theorem dX4_ofDistrict_145 : decode cX4_ofDistrict 145 = .ok (.getfield 187, 3) := by decide +kernel
theorem dX4_ofDistrict_148 : decode cX4_ofDistrict 148 = .ok (.ireturn, 1) := by decide +kernel
theorem dX4_ofDistrict_149 : decode cX4_ofDistrict 149 = .ok (.aload_n 3, 1) := by decide +kernel
theorem dX4_ofDistrict_150 : decode cX4_ofDistrict 150 = .ok (.getfield 190, 3) := by decide +kernel
theorem dX4_ofDistrict_153 : decode cX4_ofDistrict 153 = .ok (.ireturn, 1) := by decide +kernel
theorem dX4_ofDistrict_154 : decode cX4_ofDistrict 154 = .ok (.aload_n 3, 1) := by decide +kernel
theorem dX4_ofDistrict_155 : decode cX4_ofDistrict 155 = .ok (.getfield 193, 3) := by decide +kernel
theorem dX4_ofDistrict_158 : decode cX4_ofDistrict 158 = .ok (.ireturn, 1) := by decide +kernel
theorem dX4_ofDistrict_159 : decode cX4_ofDistrict 159 = .ok (.new 79, 3) := by decide +kernel
theorem dX4_ofDistrict_162 : decode cX4_ofDistrict 162 = .ok (.dup, 1) := by decide +kernel
theorem dX4_ofDistrict_163 : decode cX4_ofDistrict 163 = .ok (.ldc 196, 2) := by decide +kernel
theorem dX4_ofDistrict_165 : decode cX4_ofDistrict 165 = .ok (.invokespecial 83, 3) := by decide +kernel
theorem dX4_ofDistrict_168 : decode cX4_ofDistrict 168 = .ok (.athrow, 1) := by decide +kernel
theorem dX4_flowAnew_0 : decode cX4_flowAnew 0 = .ok (.aload_n 0, 1) := by decide +kernel
theorem dX4_flowAnew_1 : decode cX4_flowAnew 1 = .ok (.iload_n 1, 1) := by decide +kernel
theorem dX4_flowAnew_2 : decode cX4_flowAnew 2 = .ok (.invokevirtual 75, 3) := by decide +kernel
theorem dX4_flowAnew_5 : decode cX4_flowAnew 5 = .ok (.ifCond .eq 13, 3) := by decide +kernel
theorem dX4_flowAnew_8 : decode cX4_flowAnew 8 = .ok (.new 79, 3) := by decide +kernel
theorem dX4_flowAnew_11 : decode cX4_flowAnew 11 = .ok (.dup, 1) := by decide +kernel
theorem dX4_flowAnew_12 : decode cX4_flowAnew 12 = .ok (.ldc 81, 2) := by decide +kernel
theorem dX4_flowAnew_14 : decode cX4_flowAnew 14 = .ok (.invokespecial 83, 3) := by decide +kernel
theorem dX4_flowAnew_17 : decode cX4_flowAnew 17 = .ok (.athrow, 1) := by decide +kernel
theorem dX4_flowAnew_18 : decode cX4_flowAnew 18 = .ok (.aload_n 0, 1) := by decide +kernel
theorem dX4_flowAnew_19 : decode cX4_flowAnew 19 = .ok (.getfield 12, 3) := by decide +kernel
theorem dX4_flowAnew_22 : decode cX4_flowAnew 22 = .ok (.iload_n 1, 1) := by decide +kernel
theorem dX4_flowAnew_23 : decode cX4_flowAnew 23 = .ok (.invokevirtual 103, 3) := by decide +kernel
theorem dX4_flowAnew_26 : decode cX4_flowAnew 26 = .ok (.checkcast 66, 3) := by decide +kernel
theorem dX4_flowAnew_29 : decode cX4_flowAnew 29 = .ok (.astore_n 2, 1) := by decide +kernel
theorem dX4_flowAnew_30 : decode cX4_flowAnew 30 = .ok (.aload_n 0, 1) := by decide +kernel
theorem dX4_flowAnew_31 : decode cX4_flowAnew 31 = .ok (.getfield 33, 3) := by decide +kernel
theorem dX4_flowAnew_34 : decode cX4_flowAnew 34 = .ok (.ifCond .eq 13, 3) := by decide +kernel
theorem dX4_flowAnew_37 : decode cX4_flowAnew 37 = .ok (.aload_n 2, 1) := by decide +kernel
theorem dX4_flowAnew_38 : decode cX4_flowAnew 38 = .ok (.getfield 112, 3) := by decide +kernel
theorem dX4_flowAnew_41 : decode cX4_flowAnew 41 = .ok (.getfield 116, 3) := by decide +kernel
theorem dX4_flowAnew_44 : decode cX4_flowAnew 44 = .ok (.ifCond .ne 5, 3) := by decide +kernel
theorem dX4_flowAnew_47 : decode cX4_flowAnew 47 = .ok (.iconst 0, 1) := by decide +kernel
theorem dX4_flowAnew_48 : decode cX4_flowAnew 48 = .ok (.ireturn, 1) := by decide +kernel
theorem dX4_flowAnew_49 : decode cX4_flowAnew 49 = .ok (.aload_n 0, 1) := by decide +kernel
theorem dX4_flowAnew_50 : decode cX4_flowAnew 50 = .ok (.aload_n 2, 1) := by decide +kernel
theorem dX4_flowAnew_51 : decode cX4_flowAnew 51 = .ok (.invokevirtual 198, 3) := by decide +kernel
theorem dX4_flowAnew_54 : decode cX4_flowAnew 54 = .ok (.istore_n 3, 1) := by decide +kernel
theorem dX4_flowAnew_55 : decode cX4_flowAnew 55 = .ok (.aload_n 0, 1) := by decide +kernel
theorem dX4_flowAnew_56 : decode cX4_flowAnew 56 = .ok (.iload_n 3, 1) := by decide +kernel
theorem dX4_flowAnew_57 : decode cX4_flowAnew 57 = .ok (.iconst 1, 1) := by decide +kernel
theorem dX4_flowAnew_58 : decode cX4_flowAnew 58 = .ok (.iadd, 1) := by decide +kernel
theorem dX4_flowAnew_59 : decode cX4_flowAnew 59 = .ok (.invokevirtual 202, 3) := by decide +kernel
theorem dX4_flowAnew_62 : decode cX4_flowAnew 62 = .ok (.aload_n 0, 1) := by decide +kernel
theorem dX4_flowAnew_63 : decode cX4_flowAnew 63 = .ok (.iload_n 3, 1) := by decide +kernel
theorem dX4_flowAnew_64 : decode cX4_flowAnew 64 = .ok (.invokevirtual 202, 3) := by decide +kernel
theorem dX4_flowAnew_67 : decode cX4_flowAnew 67 = .ok (.isub, 1) := by decide +kernel
theorem dX4_flowAnew_68 : decode cX4_flowAnew 68 = .ok (.ireturn, 1) := by decide +kernel
theorem dX4_most_0 : decode cX4_most 0 = .ok (.iload_n 1, 1) := by decide +kernel
theorem dX4_most_1 : decode cX4_most 1 = .ok (.ifCond .lt 16, 3) := by decide +kernel
theorem dX4_most_4 : decode cX4_most 4 = .ok (.iload_n 1, 1) := by decide +kernel
theorem dX4_most_5 : decode cX4_most 5 = .ok (.iconst 1, 1) := by decide +kernel
theorem dX4_most_6 : decode cX4_most 6 = .ok (.aload_n 0, 1) := by decide +kernel
theorem dX4_most_7 : decode cX4_most 7 = .ok (.getfield 12, 3) := by decide +kernel
theorem dX4_most_10 : decode cX4_most 10 = .ok (.invokevirtual 57, 3) := by decide +kernel
theorem dX4_most_13 : decode cX4_most 13 = .ok (.ishl, 1) := by decide +kernel
theorem dX4_most_14 : decode cX4_most 14 = .ok (.if_icmp .lt 13, 3) := by decide +kernel
theorem dX4_most_17 : decode cX4_most 17 = .ok (.new 50, 3) := by decide +kernel
theorem dX4_most_20 : decode cX4_most 20 = .ok (.dup, 1) := by decide +kernel
theorem dX4_most_21 : decode cX4_most 21 = .ok (.ldc 206, 2) := by decide +kernel
theorem dX4_most_23 : decode cX4_most 23 = .ok (.invokespecial 54, 3) := by decide +kernel
theorem dX4_most_26 : decode cX4_most 26 = .ok (.athrow, 1) := by decide +kernel
theorem dX4_most_27 : decode cX4_most 27 = .ok (.aload_n 0, 1) := by decide +kernel
theorem dX4_most_28 : decode cX4_most 28 = .ok (.getfield 19, 3) := by decide +kernel
theorem dX4_most_31 : decode cX4_most 31 = .ok (.invokevirtual 208, 3) := by decide +kernel
theorem dX4_most_34 : decode cX4_most 34 = .ok (.iconst 0, 1) := by decide +kernel
theorem dX4_most_35 : decode cX4_most 35 = .ok (.istore_n 2, 1) := by decide +kernel
theorem dX4_most_36 : decode cX4_most 36 = .ok (.iconst 0, 1) := by decide +kernel
theorem dX4_most_37 : decode cX4_most 37 = .ok (.istore_n 3, 1) := by decide +kernel
theorem dX4_most_38 : decode cX4_most 38 = .ok (.iload_n 3, 1) := by decide +kernel
theorem dX4_most_39 : decode cX4_most 39 = .ok (.aload_n 0, 1) := by decide +kernel
theorem dX4_most_40 : decode cX4_most 40 = .ok (.getfield 12, 3) := by decide +kernel
theorem dX4_most_43 : decode cX4_most 43 = .ok (.invokevirtual 57, 3) := by decide +kernel
theorem dX4_most_46 : decode cX4_most 46 = .ok (.if_icmp .ge 45, 3) := by decide +kernel
theorem dX4_most_49 : decode cX4_most 49 = .ok (.iload_n 1, 1) := by decide +kernel
theorem dX4_most_50 : decode cX4_most 50 = .ok (.iload_n 3, 1) := by decide +kernel
theorem dX4_most_51 : decode cX4_most 51 = .ok (.ishr, 1) := by decide +kernel
theorem dX4_most_52 : decode cX4_most 52 = .ok (.iconst 1, 1) := by decide +kernel
theorem dX4_most_53 : decode cX4_most 53 = .ok (.iand, 1) := by decide +kernel
theorem dX4_most_54 : decode cX4_most 54 = .ok (.iconst 1, 1) := by decide +kernel
theorem dX4_most_55 : decode cX4_most 55 = .ok (.if_icmp .ne 30, 3) := by decide +kernel
theorem dX4_most_58 : decode cX4_most 58 = .ok (.iload_n 2, 1) := by decide +kernel
theorem dX4_most_59 : decode cX4_most 59 = .ok (.aload_n 0, 1) := by decide +kernel
theorem dX4_most_60 : decode cX4_most 60 = .ok (.getfield 19, 3) := by decide +kernel
theorem dX4_most_63 : decode cX4_most 63 = .ok (.aload_n 0, 1) := by decide +kernel
theorem dX4_most_64 : decode cX4_most 64 = .ok (.getfield 12, 3) := by decide +kernel
theorem dX4_most_67 : decode cX4_most 67 = .ok (.iload_n 3, 1) := by decide +kernel
theorem dX4_most_68 : decode cX4_most 68 = .ok (.invokevirtual 103, 3) := by decide +kernel
theorem dX4_most_71 : decode cX4_most 71 = .ok (.checkcast 66, 3) := by decide +kernel
theorem dX4_most_74 : decode cX4_most 74 = .ok (.getfield 211, 3) := by decide +kernel
theorem dX4_most_77 : decode cX4_most 77 = .ok (.sipush 9999, 3) := by decide +kernel
theorem dX4_most_80 : decode cX4_most 80 = .ok (.invokevirtual 214, 3) := by decide +kernel
theorem dX4_most_83 : decode cX4_most 83 = .ok (.iadd, 1) := by decide +kernel
theorem dX4_most_84 : decode cX4_most 84 = .ok (.istore_n 2, 1) := by decide +kernel
theorem dX4_most_85 : decode cX4_most 85 = .ok (.iinc 3 1, 3) := by decide +kernel
theorem dX4_most_88 : decode cX4_most 88 = .ok (.goto (-50), 3) := by decide +kernel
theorem dX4_most_91 : decode cX4_most 91 = .ok (.iload_n 2, 1) := by decide +kernel
theorem dX4_most_92 : decode cX4_most 92 = .ok (.ireturn, 1) := by decide +kernel
theorem dX4_place_0 : decode cX4_place 0 = .ok (.aload_n 0, 1) := by decide +kernel
theorem dX4_place_1 : decode cX4_place 1 = .ok (.iload_n 1, 1) := by decide +kernel
theorem dX4_place_2 : decode cX4_place 2 = .ok (.invokevirtual 75, 3) := by decide +kernel
theorem dX4_place_5 : decode cX4_place 5 = .ok (.ifCond .eq 13, 3) := by decide +kernel
theorem dX4_place_8 : decode cX4_place 8 = .ok (.new 79, 3) := by decide +kernel
theorem dX4_place_11 : decode cX4_place 11 = .ok (.dup, 1) := by decide +kernel
theorem dX4_place_12 : decode cX4_place 12 = .ok (.ldc 81, 2) := by decide +kernel
theorem dX4_place_14 : decode cX4_place 14 = .ok (.invokespecial 83, 3) := by decide +kernel
theorem dX4_place_17 : decode cX4_place 17 = .ok (.athrow, 1) := by decide +kernel
theorem dX4_place_18 : decode cX4_place 18 = .ok (.aload_n 0, 1) := by decide +kernel
theorem dX4_place_19 : decode cX4_place 19 = .ok (.getfield 12, 3) := by decide +kernel
theorem dX4_place_22 : decode cX4_place 22 = .ok (.iload_n 1, 1) := by decide +kernel
theorem dX4_place_23 : decode cX4_place 23 = .ok (.invokevirtual 103, 3) := by decide +kernel
theorem dX4_place_26 : decode cX4_place 26 = .ok (.checkcast 66, 3) := by decide +kernel
theorem dX4_place_29 : decode cX4_place 29 = .ok (.astore_n 2, 1) := by decide +kernel
theorem dX4_place_30 : decode cX4_place 30 = .ok (.aload_n 2, 1) := by decide +kernel
theorem dX4_place_31 : decode cX4_place 31 = .ok (.getfield 112, 3) := by decide +kernel
theorem dX4_place_34 : decode cX4_place 34 = .ok (.getfield 116, 3) := by decide +kernel
theorem dX4_place_37 : decode cX4_place 37 = .ok (.ifCond .eq 11, 3) := by decide +kernel
theorem dX4_place_40 : decode cX4_place 40 = .ok (.aload_n 0, 1) := by decide +kernel
theorem dX4_place_41 : decode cX4_place 41 = .ok (.aload_n 2, 1) := by decide +kernel
theorem dX4_place_42 : decode cX4_place 42 = .ok (.invokevirtual 198, 3) := by decide +kernel
theorem dX4_place_45 : decode cX4_place 45 = .ok (.goto 4, 3) := by decide +kernel
theorem dX4_place_48 : decode cX4_place 48 = .ok (.iconst (-1), 1) := by decide +kernel
theorem dX4_place_49 : decode cX4_place 49 = .ok (.ireturn, 1) := by decide +kernel
theorem dX4_count_0 : decode cX4_count 0 = .ok (.iload_n 1, 1) := by decide +kernel
theorem dX4_count_1 : decode cX4_count 1 = .ok (.tableswitch 102 0 7 #[47, 55, 66, 74, 82, 87, 92, 97], 47) := by decide +kernel
theorem dX4_count_48 : decode cX4_count 48 = .ok (.aload_n 0, 1) := by decide +kernel
theorem dX4_count_49 : decode cX4_count 49 = .ok (.getfield 12, 3) := by decide +kernel
theorem dX4_count_52 : decode cX4_count 52 = .ok (.invokevirtual 57, 3) := by decide +kernel
theorem dX4_count_55 : decode cX4_count 55 = .ok (.ireturn, 1) := by decide +kernel
theorem dX4_count_56 : decode cX4_count 56 = .ok (.aload_n 0, 1) := by decide +kernel
theorem dX4_count_57 : decode cX4_count 57 = .ok (.getfield 19, 3) := by decide +kernel
theorem dX4_count_60 : decode cX4_count 60 = .ok (.getfield 86, 3) := by decide +kernel
theorem dX4_count_63 : decode cX4_count 63 = .ok (.invokevirtual 57, 3) := by decide +kernel
theorem dX4_count_66 : decode cX4_count 66 = .ok (.ireturn, 1) := by decide +kernel
theorem dX4_count_67 : decode cX4_count 67 = .ok (.aload_n 0, 1) := by decide +kernel
theorem dX4_count_68 : decode cX4_count 68 = .ok (.getfield 19, 3) := by decide +kernel
theorem dX4_count_71 : decode cX4_count 71 = .ok (.invokevirtual 218, 3) := by decide +kernel
theorem dX4_count_74 : decode cX4_count 74 = .ok (.ireturn, 1) := by decide +kernel
theorem dX4_count_75 : decode cX4_count 75 = .ok (.aload_n 0, 1) := by decide +kernel
theorem dX4_count_76 : decode cX4_count 76 = .ok (.getfield 23, 3) := by decide +kernel
theorem dX4_count_79 : decode cX4_count 79 = .ok (.invokevirtual 57, 3) := by decide +kernel
theorem dX4_count_82 : decode cX4_count 82 = .ok (.ireturn, 1) := by decide +kernel
theorem dX4_count_83 : decode cX4_count 83 = .ok (.aload_n 0, 1) := by decide +kernel
theorem dX4_count_84 : decode cX4_count 84 = .ok (.invokevirtual 221, 3) := by decide +kernel
theorem dX4_count_87 : decode cX4_count 87 = .ok (.ireturn, 1) := by decide +kernel
theorem dX4_count_88 : decode cX4_count 88 = .ok (.aload_n 0, 1) := by decide +kernel
theorem dX4_count_89 : decode cX4_count 89 = .ok (.invokevirtual 224, 3) := by decide +kernel
theorem dX4_count_92 : decode cX4_count 92 = .ok (.ireturn, 1) := by decide +kernel
theorem dX4_count_93 : decode cX4_count 93 = .ok (.aload_n 0, 1) := by decide +kernel
theorem dX4_count_94 : decode cX4_count 94 = .ok (.invokevirtual 227, 3) := by decide +kernel
theorem dX4_count_97 : decode cX4_count 97 = .ok (.ireturn, 1) := by decide +kernel
theorem dX4_count_98 : decode cX4_count 98 = .ok (.aload_n 0, 1) := by decide +kernel
theorem dX4_count_99 : decode cX4_count 99 = .ok (.getfield 43, 3) := by decide +kernel
theorem dX4_count_102 : decode cX4_count 102 = .ok (.ireturn, 1) := by decide +kernel
theorem dX4_count_103 : decode cX4_count 103 = .ok (.new 50, 3) := by decide +kernel
theorem dX4_count_106 : decode cX4_count 106 = .ok (.dup, 1) := by decide +kernel
theorem dX4_count_107 : decode cX4_count 107 = .ok (.ldc 196, 2) := by decide +kernel
theorem dX4_count_109 : decode cX4_count 109 = .ok (.invokespecial 54, 3) := by decide +kernel
theorem dX4_count_112 : decode cX4_count 112 = .ok (.athrow, 1) := by decide +kernel
theorem dX4_isOutside_0 : decode cX4_isOutside 0 = .ok (.iload_n 0, 1) := by decide +kernel
theorem dX4_isOutside_1 : decode cX4_isOutside 1 = .ok (.iload_n 1, 1) := by decide +kernel
theorem dX4_isOutside_2 : decode cX4_isOutside 2 = .ok (.if_icmp .lt 8, 3) := by decide +kernel
theorem dX4_isOutside_5 : decode cX4_isOutside 5 = .ok (.iload_n 0, 1) := by decide +kernel
theorem dX4_isOutside_6 : decode cX4_isOutside 6 = .ok (.iload_n 2, 1) := by decide +kernel
theorem dX4_isOutside_7 : decode cX4_isOutside 7 = .ok (.if_icmp .le 7, 3) := by decide +kernel
theorem dX4_isOutside_10 : decode cX4_isOutside 10 = .ok (.iconst 1, 1) := by decide +kernel
theorem dX4_isOutside_11 : decode cX4_isOutside 11 = .ok (.goto 4, 3) := by decide +kernel
theorem dX4_isOutside_14 : decode cX4_isOutside 14 = .ok (.iconst 0, 1) := by decide +kernel
theorem dX4_isOutside_15 : decode cX4_isOutside 15 = .ok (.ireturn, 1) := by decide +kernel
theorem dX4_isNoDistrict_0 : decode cX4_isNoDistrict 0 = .ok (.iload_n 1, 1) := by decide +kernel
theorem dX4_isNoDistrict_1 : decode cX4_isNoDistrict 1 = .ok (.ifCond .lt 14, 3) := by decide +kernel
theorem dX4_isNoDistrict_4 : decode cX4_isNoDistrict 4 = .ok (.iload_n 1, 1) := by decide +kernel
theorem dX4_isNoDistrict_5 : decode cX4_isNoDistrict 5 = .ok (.aload_n 0, 1) := by decide +kernel
theorem dX4_isNoDistrict_6 : decode cX4_isNoDistrict 6 = .ok (.getfield 12, 3) := by decide +kernel
theorem dX4_isNoDistrict_9 : decode cX4_isNoDistrict 9 = .ok (.invokevirtual 57, 3) := by decide +kernel
theorem dX4_isNoDistrict_12 : decode cX4_isNoDistrict 12 = .ok (.if_icmp .lt 7, 3) := by decide +kernel
theorem dX4_isNoDistrict_15 : decode cX4_isNoDistrict 15 = .ok (.iconst 1, 1) := by decide +kernel
theorem dX4_isNoDistrict_16 : decode cX4_isNoDistrict 16 = .ok (.goto 4, 3) := by decide +kernel
theorem dX4_isNoDistrict_19 : decode cX4_isNoDistrict 19 = .ok (.iconst 0, 1) := by decide +kernel
theorem dX4_isNoDistrict_20 : decode cX4_isNoDistrict 20 = .ok (.ireturn, 1) := by decide +kernel
theorem dX4_isNoPipe_0 : decode cX4_isNoPipe 0 = .ok (.iload_n 1, 1) := by decide +kernel
theorem dX4_isNoPipe_1 : decode cX4_isNoPipe 1 = .ok (.ifCond .lt 17, 3) := by decide +kernel
theorem dX4_isNoPipe_4 : decode cX4_isNoPipe 4 = .ok (.iload_n 1, 1) := by decide +kernel
theorem dX4_isNoPipe_5 : decode cX4_isNoPipe 5 = .ok (.aload_n 0, 1) := by decide +kernel
theorem dX4_isNoPipe_6 : decode cX4_isNoPipe 6 = .ok (.getfield 19, 3) := by decide +kernel
theorem dX4_isNoPipe_9 : decode cX4_isNoPipe 9 = .ok (.getfield 86, 3) := by decide +kernel
theorem dX4_isNoPipe_12 : decode cX4_isNoPipe 12 = .ok (.invokevirtual 57, 3) := by decide +kernel
theorem dX4_isNoPipe_15 : decode cX4_isNoPipe 15 = .ok (.if_icmp .lt 7, 3) := by decide +kernel
theorem dX4_isNoPipe_18 : decode cX4_isNoPipe 18 = .ok (.iconst 1, 1) := by decide +kernel
theorem dX4_isNoPipe_19 : decode cX4_isNoPipe 19 = .ok (.goto 4, 3) := by decide +kernel
theorem dX4_isNoPipe_22 : decode cX4_isNoPipe 22 = .ok (.iconst 0, 1) := by decide +kernel
theorem dX4_isNoPipe_23 : decode cX4_isNoPipe 23 = .ok (.ireturn, 1) := by decide +kernel
theorem dX4_orderBids_0 : decode cX4_orderBids 0 = .ok (.aload_n 0, 1) := by decide +kernel
theorem dX4_orderBids_1 : decode cX4_orderBids 1 = .ok (.getfield 23, 3) := by decide +kernel
theorem dX4_orderBids_4 : decode cX4_orderBids 4 = .ok (.invokevirtual 172, 3) := by decide +kernel
theorem dX4_orderBids_7 : decode cX4_orderBids 7 = .ok (.iconst 0, 1) := by decide +kernel
theorem dX4_orderBids_8 : decode cX4_orderBids 8 = .ok (.istore_n 1, 1) := by decide +kernel
theorem dX4_orderBids_9 : decode cX4_orderBids 9 = .ok (.iload_n 1, 1) := by decide +kernel
theorem dX4_orderBids_10 : decode cX4_orderBids 10 = .ok (.aload_n 0, 1) := by decide +kernel
theorem dX4_orderBids_11 : decode cX4_orderBids 11 = .ok (.getfield 12, 3) := by decide +kernel
theorem dX4_orderBids_14 : decode cX4_orderBids 14 = .ok (.invokevirtual 57, 3) := by decide +kernel
theorem dX4_orderBids_17 : decode cX4_orderBids 17 = .ok (.if_icmp .ge 44, 3) := by decide +kernel
theorem dX4_orderBids_20 : decode cX4_orderBids 20 = .ok (.aload_n 0, 1) := by decide +kernel
theorem dX4_orderBids_21 : decode cX4_orderBids 21 = .ok (.getfield 12, 3) := by decide +kernel
theorem dX4_orderBids_24 : decode cX4_orderBids 24 = .ok (.iload_n 1, 1) := by decide +kernel
theorem dX4_orderBids_25 : decode cX4_orderBids 25 = .ok (.invokevirtual 103, 3) := by decide +kernel
theorem dX4_orderBids_28 : decode cX4_orderBids 28 = .ok (.checkcast 66, 3) := by decide +kernel
theorem dX4_orderBids_31 : decode cX4_orderBids 31 = .ok (.astore_n 2, 1) := by decide +kernel
theorem dX4_orderBids_32 : decode cX4_orderBids 32 = .ok (.aload_n 2, 1) := by decide +kernel
theorem dX4_orderBids_33 : decode cX4_orderBids 33 = .ok (.getfield 112, 3) := by decide +kernel
theorem dX4_orderBids_36 : decode cX4_orderBids 36 = .ok (.getfield 116, 3) := by decide +kernel
theorem dX4_orderBids_39 : decode cX4_orderBids 39 = .ok (.ifCond .eq 16, 3) := by decide +kernel
theorem dX4_orderBids_42 : decode cX4_orderBids 42 = .ok (.aload_n 0, 1) := by decide +kernel
theorem dX4_orderBids_43 : decode cX4_orderBids 43 = .ok (.getfield 23, 3) := by decide +kernel
theorem dX4_orderBids_46 : decode cX4_orderBids 46 = .ok (.aload_n 0, 1) := by decide +kernel
theorem dX4_orderBids_47 : decode cX4_orderBids 47 = .ok (.aload_n 2, 1) := by decide +kernel
theorem dX4_orderBids_48 : decode cX4_orderBids 48 = .ok (.invokevirtual 198, 3) := by decide +kernel
theorem dX4_orderBids_51 : decode cX4_orderBids 51 = .ok (.aload_n 2, 1) := by decide +kernel
theorem dX4_orderBids_52 : decode cX4_orderBids 52 = .ok (.invokevirtual 230, 3) := by decide +kernel
theorem dX4_orderBids_55 : decode cX4_orderBids 55 = .ok (.iinc 1 1, 3) := by decide +kernel
theorem dX4_orderBids_58 : decode cX4_orderBids 58 = .ok (.goto (-49), 3) := by decide +kernel
theorem dX4_orderBids_61 : decode cX4_orderBids 61 = .ok (.return_, 1) := by decide +kernel
theorem dX4_bidsAheadOf_0 : decode cX4_bidsAheadOf 0 = .ok (.iconst 0, 1) := by decide +kernel
theorem dX4_bidsAheadOf_1 : decode cX4_bidsAheadOf 1 = .ok (.istore_n 2, 1) := by decide +kernel
theorem dX4_bidsAheadOf_2 : decode cX4_bidsAheadOf 2 = .ok (.iconst 0, 1) := by decide +kernel
theorem dX4_bidsAheadOf_3 : decode cX4_bidsAheadOf 3 = .ok (.istore_n 3, 1) := by decide +kernel
theorem dX4_bidsAheadOf_4 : decode cX4_bidsAheadOf 4 = .ok (.iload_n 3, 1) := by decide +kernel
theorem dX4_bidsAheadOf_5 : decode cX4_bidsAheadOf 5 = .ok (.aload_n 0, 1) := by decide +kernel
theorem dX4_bidsAheadOf_6 : decode cX4_bidsAheadOf 6 = .ok (.getfield 23, 3) := by decide +kernel
theorem dX4_bidsAheadOf_9 : decode cX4_bidsAheadOf 9 = .ok (.invokevirtual 57, 3) := by decide +kernel
theorem dX4_bidsAheadOf_12 : decode cX4_bidsAheadOf 12 = .ok (.if_icmp .ge 36, 3) := by decide +kernel
theorem dX4_bidsAheadOf_15 : decode cX4_bidsAheadOf 15 = .ok (.aload_n 0, 1) := by decide +kernel
theorem dX4_bidsAheadOf_16 : decode cX4_bidsAheadOf 16 = .ok (.getfield 23, 3) := by decide +kernel
theorem dX4_bidsAheadOf_19 : decode cX4_bidsAheadOf 19 = .ok (.iload_n 3, 1) := by decide +kernel
theorem dX4_bidsAheadOf_20 : decode cX4_bidsAheadOf 20 = .ok (.invokevirtual 103, 3) := by decide +kernel
theorem dX4_bidsAheadOf_23 : decode cX4_bidsAheadOf 23 = .ok (.checkcast 66, 3) := by decide +kernel
theorem dX4_bidsAheadOf_26 : decode cX4_bidsAheadOf 26 = .ok (.getfield 112, 3) := by decide +kernel
theorem dX4_bidsAheadOf_29 : decode cX4_bidsAheadOf 29 = .ok (.aload_n 1, 1) := by decide +kernel
theorem dX4_bidsAheadOf_30 : decode cX4_bidsAheadOf 30 = .ok (.getfield 112, 3) := by decide +kernel
theorem dX4_bidsAheadOf_33 : decode cX4_bidsAheadOf 33 = .ok (.invokevirtual 233, 3) := by decide +kernel
theorem dX4_bidsAheadOf_36 : decode cX4_bidsAheadOf 36 = .ok (.ifCond .eq 6, 3) := by decide +kernel
theorem dX4_bidsAheadOf_39 : decode cX4_bidsAheadOf 39 = .ok (.iinc 2 1, 3) := by decide +kernel
theorem dX4_bidsAheadOf_42 : decode cX4_bidsAheadOf 42 = .ok (.iinc 3 1, 3) := by decide +kernel
theorem dX4_bidsAheadOf_45 : decode cX4_bidsAheadOf 45 = .ok (.goto (-41), 3) := by decide +kernel
theorem dX4_bidsAheadOf_48 : decode cX4_bidsAheadOf 48 = .ok (.iload_n 2, 1) := by decide +kernel
theorem dX4_bidsAheadOf_49 : decode cX4_bidsAheadOf 49 = .ok (.ireturn, 1) := by decide +kernel
theorem dX4_beginFlowing_0 : decode cX4_beginFlowing 0 = .ok (.aload_n 0, 1) := by decide +kernel
theorem dX4_beginFlowing_1 : decode cX4_beginFlowing 1 = .ok (.iconst 1, 1) := by decide +kernel
theorem dX4_beginFlowing_2 : decode cX4_beginFlowing 2 = .ok (.putfield 33, 3) := by decide +kernel
theorem dX4_beginFlowing_5 : decode cX4_beginFlowing 5 = .ok (.iconst 0, 1) := by decide +kernel
theorem dX4_beginFlowing_6 : decode cX4_beginFlowing 6 = .ok (.istore_n 1, 1) := by decide +kernel
theorem dX4_beginFlowing_7 : decode cX4_beginFlowing 7 = .ok (.iload_n 1, 1) := by decide +kernel
theorem dX4_beginFlowing_8 : decode cX4_beginFlowing 8 = .ok (.aload_n 0, 1) := by decide +kernel
theorem dX4_beginFlowing_9 : decode cX4_beginFlowing 9 = .ok (.getfield 23, 3) := by decide +kernel
theorem dX4_beginFlowing_12 : decode cX4_beginFlowing 12 = .ok (.invokevirtual 57, 3) := by decide +kernel
theorem dX4_beginFlowing_15 : decode cX4_beginFlowing 15 = .ok (.if_icmp .ge 32, 3) := by decide +kernel
theorem dX4_beginFlowing_18 : decode cX4_beginFlowing 18 = .ok (.aload_n 0, 1) := by decide +kernel
theorem dX4_beginFlowing_19 : decode cX4_beginFlowing 19 = .ok (.getfield 23, 3) := by decide +kernel
theorem dX4_beginFlowing_22 : decode cX4_beginFlowing 22 = .ok (.iload_n 1, 1) := by decide +kernel
theorem dX4_beginFlowing_23 : decode cX4_beginFlowing 23 = .ok (.invokevirtual 103, 3) := by decide +kernel
theorem dX4_beginFlowing_26 : decode cX4_beginFlowing 26 = .ok (.checkcast 66, 3) := by decide +kernel
theorem dX4_beginFlowing_29 : decode cX4_beginFlowing 29 = .ok (.astore_n 2, 1) := by decide +kernel
theorem dX4_beginFlowing_30 : decode cX4_beginFlowing 30 = .ok (.aload_n 2, 1) := by decide +kernel
theorem dX4_beginFlowing_31 : decode cX4_beginFlowing 31 = .ok (.aload_n 2, 1) := by decide +kernel
theorem dX4_beginFlowing_32 : decode cX4_beginFlowing 32 = .ok (.getfield 112, 3) := by decide +kernel
theorem dX4_beginFlowing_35 : decode cX4_beginFlowing 35 = .ok (.getfield 178, 3) := by decide +kernel
theorem dX4_beginFlowing_38 : decode cX4_beginFlowing 38 = .ok (.putfield 237, 3) := by decide +kernel
theorem dX4_beginFlowing_41 : decode cX4_beginFlowing 41 = .ok (.iinc 1 1, 3) := by decide +kernel
theorem dX4_beginFlowing_44 : decode cX4_beginFlowing 44 = .ok (.goto (-37), 3) := by decide +kernel
theorem dX4_beginFlowing_47 : decode cX4_beginFlowing 47 = .ok (.aload_n 0, 1) := by decide +kernel
theorem dX4_beginFlowing_48 : decode cX4_beginFlowing 48 = .ok (.invokevirtual 240, 3) := by decide +kernel
theorem dX4_beginFlowing_51 : decode cX4_beginFlowing 51 = .ok (.iconst 0, 1) := by decide +kernel
theorem dX4_beginFlowing_52 : decode cX4_beginFlowing 52 = .ok (.istore_n 1, 1) := by decide +kernel
theorem dX4_beginFlowing_53 : decode cX4_beginFlowing 53 = .ok (.iload_n 1, 1) := by decide +kernel
theorem dX4_beginFlowing_54 : decode cX4_beginFlowing 54 = .ok (.aload_n 0, 1) := by decide +kernel
theorem dX4_beginFlowing_55 : decode cX4_beginFlowing 55 = .ok (.getfield 23, 3) := by decide +kernel
theorem dX4_beginFlowing_58 : decode cX4_beginFlowing 58 = .ok (.invokevirtual 57, 3) := by decide +kernel
theorem dX4_beginFlowing_61 : decode cX4_beginFlowing 61 = .ok (.if_icmp .ge 23, 3) := by decide +kernel
theorem dX4_beginFlowing_64 : decode cX4_beginFlowing 64 = .ok (.aload_n 0, 1) := by decide +kernel
theorem dX4_beginFlowing_65 : decode cX4_beginFlowing 65 = .ok (.getfield 23, 3) := by decide +kernel
theorem dX4_beginFlowing_68 : decode cX4_beginFlowing 68 = .ok (.iload_n 1, 1) := by decide +kernel
theorem dX4_beginFlowing_69 : decode cX4_beginFlowing 69 = .ok (.invokevirtual 103, 3) := by decide +kernel
theorem dX4_beginFlowing_72 : decode cX4_beginFlowing 72 = .ok (.checkcast 66, 3) := by decide +kernel
theorem dX4_beginFlowing_75 : decode cX4_beginFlowing 75 = .ok (.invokevirtual 243, 3) := by decide +kernel
theorem dX4_beginFlowing_78 : decode cX4_beginFlowing 78 = .ok (.iinc 1 1, 3) := by decide +kernel
theorem dX4_beginFlowing_81 : decode cX4_beginFlowing 81 = .ok (.goto (-28), 3) := by decide +kernel
theorem dX4_beginFlowing_84 : decode cX4_beginFlowing 84 = .ok (.return_, 1) := by decide +kernel
theorem dX4_flowLess_0 : decode cX4_flowLess 0 = .ok (.iconst 0, 1) := by decide +kernel
theorem dX4_flowLess_1 : decode cX4_flowLess 1 = .ok (.istore_n 1, 1) := by decide +kernel
theorem dX4_flowLess_2 : decode cX4_flowLess 2 = .ok (.iload_n 1, 1) := by decide +kernel
theorem dX4_flowLess_3 : decode cX4_flowLess 3 = .ok (.aload_n 0, 1) := by decide +kernel
theorem dX4_flowLess_4 : decode cX4_flowLess 4 = .ok (.getfield 23, 3) := by decide +kernel
theorem dX4_flowLess_7 : decode cX4_flowLess 7 = .ok (.invokevirtual 57, 3) := by decide +kernel
theorem dX4_flowLess_10 : decode cX4_flowLess 10 = .ok (.if_icmp .ge 29, 3) := by decide +kernel
theorem dX4_flowLess_13 : decode cX4_flowLess 13 = .ok (.aload_n 0, 1) := by decide +kernel
theorem dX4_flowLess_14 : decode cX4_flowLess 14 = .ok (.getfield 23, 3) := by decide +kernel
theorem dX4_flowLess_17 : decode cX4_flowLess 17 = .ok (.iload_n 1, 1) := by decide +kernel
theorem dX4_flowLess_18 : decode cX4_flowLess 18 = .ok (.invokevirtual 103, 3) := by decide +kernel
theorem dX4_flowLess_21 : decode cX4_flowLess 21 = .ok (.checkcast 66, 3) := by decide +kernel
theorem dX4_flowLess_24 : decode cX4_flowLess 24 = .ok (.astore_n 2, 1) := by decide +kernel
theorem dX4_flowLess_25 : decode cX4_flowLess 25 = .ok (.aload_n 2, 1) := by decide +kernel
theorem dX4_flowLess_26 : decode cX4_flowLess 26 = .ok (.aload_n 2, 1) := by decide +kernel
theorem dX4_flowLess_27 : decode cX4_flowLess 27 = .ok (.getfield 160, 3) := by decide +kernel
theorem dX4_flowLess_30 : decode cX4_flowLess 30 = .ok (.putfield 237, 3) := by decide +kernel
theorem dX4_flowLess_33 : decode cX4_flowLess 33 = .ok (.iinc 1 1, 3) := by decide +kernel
theorem dX4_flowLess_36 : decode cX4_flowLess 36 = .ok (.goto (-34), 3) := by decide +kernel
theorem dX4_flowLess_39 : decode cX4_flowLess 39 = .ok (.aload_n 0, 1) := by decide +kernel
theorem dX4_flowLess_40 : decode cX4_flowLess 40 = .ok (.invokevirtual 240, 3) := by decide +kernel
theorem dX4_flowLess_43 : decode cX4_flowLess 43 = .ok (.iconst 0, 1) := by decide +kernel
theorem dX4_flowLess_44 : decode cX4_flowLess 44 = .ok (.istore_n 1, 1) := by decide +kernel
theorem dX4_flowLess_45 : decode cX4_flowLess 45 = .ok (.iconst 0, 1) := by decide +kernel
theorem dX4_flowLess_46 : decode cX4_flowLess 46 = .ok (.istore_n 2, 1) := by decide +kernel
theorem dX4_flowLess_47 : decode cX4_flowLess 47 = .ok (.iload_n 2, 1) := by decide +kernel
theorem dX4_flowLess_48 : decode cX4_flowLess 48 = .ok (.aload_n 0, 1) := by decide +kernel
theorem dX4_flowLess_49 : decode cX4_flowLess 49 = .ok (.getfield 23, 3) := by decide +kernel
theorem dX4_flowLess_52 : decode cX4_flowLess 52 = .ok (.invokevirtual 57, 3) := by decide +kernel
theorem dX4_flowLess_55 : decode cX4_flowLess 55 = .ok (.if_icmp .ge 26, 3) := by decide +kernel
theorem dX4_flowLess_58 : decode cX4_flowLess 58 = .ok (.iload_n 1, 1) := by decide +kernel
theorem dX4_flowLess_59 : decode cX4_flowLess 59 = .ok (.aload_n 0, 1) := by decide +kernel
theorem dX4_flowLess_60 : decode cX4_flowLess 60 = .ok (.getfield 23, 3) := by decide +kernel
theorem dX4_flowLess_63 : decode cX4_flowLess 63 = .ok (.iload_n 2, 1) := by decide +kernel
theorem dX4_flowLess_64 : decode cX4_flowLess 64 = .ok (.invokevirtual 103, 3) := by decide +kernel
theorem dX4_flowLess_67 : decode cX4_flowLess 67 = .ok (.checkcast 66, 3) := by decide +kernel
theorem dX4_flowLess_70 : decode cX4_flowLess 70 = .ok (.invokevirtual 246, 3) := by decide +kernel
theorem dX4_flowLess_73 : decode cX4_flowLess 73 = .ok (.iadd, 1) := by decide +kernel
theorem dX4_flowLess_74 : decode cX4_flowLess 74 = .ok (.istore_n 1, 1) := by decide +kernel
theorem dX4_flowLess_75 : decode cX4_flowLess 75 = .ok (.iinc 2 1, 3) := by decide +kernel
theorem dX4_flowLess_78 : decode cX4_flowLess 78 = .ok (.goto (-31), 3) := by decide +kernel
theorem dX4_flowLess_81 : decode cX4_flowLess 81 = .ok (.iload_n 1, 1) := by decide +kernel
theorem dX4_flowLess_82 : decode cX4_flowLess 82 = .ok (.ireturn, 1) := by decide +kernel
theorem dX4_findFlows_0 : decode cX4_findFlows 0 = .ok (.aload_n 0, 1) := by decide +kernel
theorem dX4_findFlows_1 : decode cX4_findFlows 1 = .ok (.getfield 19, 3) := by decide +kernel
theorem dX4_findFlows_4 : decode cX4_findFlows 4 = .ok (.invokevirtual 208, 3) := by decide +kernel
theorem dX4_findFlows_7 : decode cX4_findFlows 7 = .ok (.iconst 0, 1) := by decide +kernel
theorem dX4_findFlows_8 : decode cX4_findFlows 8 = .ok (.istore_n 1, 1) := by decide +kernel
theorem dX4_findFlows_9 : decode cX4_findFlows 9 = .ok (.iload_n 1, 1) := by decide +kernel
theorem dX4_findFlows_10 : decode cX4_findFlows 10 = .ok (.aload_n 0, 1) := by decide +kernel
theorem dX4_findFlows_11 : decode cX4_findFlows 11 = .ok (.getfield 23, 3) := by decide +kernel
theorem dX4_findFlows_14 : decode cX4_findFlows 14 = .ok (.invokevirtual 57, 3) := by decide +kernel
theorem dX4_findFlows_17 : decode cX4_findFlows 17 = .ok (.if_icmp .ge 40, 3) := by decide +kernel
theorem dX4_findFlows_20 : decode cX4_findFlows 20 = .ok (.aload_n 0, 1) := by decide +kernel
theorem dX4_findFlows_21 : decode cX4_findFlows 21 = .ok (.getfield 23, 3) := by decide +kernel
theorem dX4_findFlows_24 : decode cX4_findFlows 24 = .ok (.iload_n 1, 1) := by decide +kernel
theorem dX4_findFlows_25 : decode cX4_findFlows 25 = .ok (.invokevirtual 103, 3) := by decide +kernel
theorem dX4_findFlows_28 : decode cX4_findFlows 28 = .ok (.checkcast 66, 3) := by decide +kernel
theorem dX4_findFlows_31 : decode cX4_findFlows 31 = .ok (.astore_n 2, 1) := by decide +kernel
theorem dX4_findFlows_32 : decode cX4_findFlows 32 = .ok (.aload_n 2, 1) := by decide +kernel
theorem dX4_findFlows_33 : decode cX4_findFlows 33 = .ok (.aload_n 0, 1) := by decide +kernel
theorem dX4_findFlows_34 : decode cX4_findFlows 34 = .ok (.getfield 19, 3) := by decide +kernel
theorem dX4_findFlows_37 : decode cX4_findFlows 37 = .ok (.aload_n 2, 1) := by decide +kernel
theorem dX4_findFlows_38 : decode cX4_findFlows 38 = .ok (.getfield 211, 3) := by decide +kernel
theorem dX4_findFlows_41 : decode cX4_findFlows 41 = .ok (.aload_n 2, 1) := by decide +kernel
theorem dX4_findFlows_42 : decode cX4_findFlows 42 = .ok (.getfield 237, 3) := by decide +kernel
theorem dX4_findFlows_45 : decode cX4_findFlows 45 = .ok (.invokevirtual 214, 3) := by decide +kernel
theorem dX4_findFlows_48 : decode cX4_findFlows 48 = .ok (.putfield 160, 3) := by decide +kernel
theorem dX4_findFlows_51 : decode cX4_findFlows 51 = .ok (.iinc 1 1, 3) := by decide +kernel
theorem dX4_findFlows_54 : decode cX4_findFlows 54 = .ok (.goto (-45), 3) := by decide +kernel
theorem dX4_findFlows_57 : decode cX4_findFlows 57 = .ok (.return_, 1) := by decide +kernel
theorem dX4_together_0 : decode cX4_together 0 = .ok (.aload_n 0, 1) := by decide +kernel
theorem dX4_together_1 : decode cX4_together 1 = .ok (.getfield 19, 3) := by decide +kernel
theorem dX4_together_4 : decode cX4_together 4 = .ok (.invokevirtual 208, 3) := by decide +kernel
theorem dX4_together_7 : decode cX4_together 7 = .ok (.iconst 0, 1) := by decide +kernel
theorem dX4_together_8 : decode cX4_together 8 = .ok (.istore_n 2, 1) := by decide +kernel
theorem dX4_together_9 : decode cX4_together 9 = .ok (.iconst 0, 1) := by decide +kernel
theorem dX4_together_10 : decode cX4_together 10 = .ok (.istore_n 3, 1) := by decide +kernel
theorem dX4_together_11 : decode cX4_together 11 = .ok (.iload_n 3, 1) := by decide +kernel
theorem dX4_together_12 : decode cX4_together 12 = .ok (.iload_n 1, 1) := by decide +kernel
theorem dX4_together_13 : decode cX4_together 13 = .ok (.if_icmp .ge 53, 3) := by decide +kernel
theorem dX4_together_16 : decode cX4_together 16 = .ok (.iload_n 3, 1) := by decide +kernel
theorem dX4_together_17 : decode cX4_together 17 = .ok (.aload_n 0, 1) := by decide +kernel
theorem dX4_together_18 : decode cX4_together 18 = .ok (.getfield 23, 3) := by decide +kernel
theorem dX4_together_21 : decode cX4_together 21 = .ok (.invokevirtual 57, 3) := by decide +kernel
theorem dX4_together_24 : decode cX4_together 24 = .ok (.if_icmp .ge 42, 3) := by decide +kernel
theorem dX4_together_27 : decode cX4_together 27 = .ok (.aload_n 0, 1) := by decide +kernel
theorem dX4_together_28 : decode cX4_together 28 = .ok (.getfield 23, 3) := by decide +kernel
theorem dX4_together_31 : decode cX4_together 31 = .ok (.iload_n 3, 1) := by decide +kernel
theorem dX4_together_32 : decode cX4_together 32 = .ok (.invokevirtual 103, 3) := by decide +kernel
theorem dX4_together_35 : decode cX4_together 35 = .ok (.checkcast 66, 3) := by decide +kernel
theorem dX4_together_38 : decode cX4_together 38 = .ok (.astore 4, 2) := by decide +kernel
theorem dX4_together_40 : decode cX4_together 40 = .ok (.iload_n 2, 1) := by decide +kernel
theorem dX4_together_41 : decode cX4_together 41 = .ok (.aload_n 0, 1) := by decide +kernel
theorem dX4_together_42 : decode cX4_together 42 = .ok (.getfield 19, 3) := by decide +kernel
theorem dX4_together_45 : decode cX4_together 45 = .ok (.aload 4, 2) := by decide +kernel
theorem dX4_together_47 : decode cX4_together 47 = .ok (.getfield 211, 3) := by decide +kernel
theorem dX4_together_50 : decode cX4_together 50 = .ok (.aload 4, 2) := by decide +kernel
theorem dX4_together_52 : decode cX4_together 52 = .ok (.getfield 237, 3) := by decide +kernel
theorem dX4_together_55 : decode cX4_together 55 = .ok (.invokevirtual 214, 3) := by decide +kernel
theorem dX4_together_58 : decode cX4_together 58 = .ok (.iadd, 1) := by decide +kernel
theorem dX4_together_59 : decode cX4_together 59 = .ok (.istore_n 2, 1) := by decide +kernel
theorem dX4_together_60 : decode cX4_together 60 = .ok (.iinc 3 1, 3) := by decide +kernel
theorem dX4_together_63 : decode cX4_together 63 = .ok (.goto (-52), 3) := by decide +kernel
theorem dX4_together_66 : decode cX4_together 66 = .ok (.iload_n 2, 1) := by decide +kernel
theorem dX4_together_67 : decode cX4_together 67 = .ok (.ireturn, 1) := by decide +kernel
theorem dX4_sumGot_0 : decode cX4_sumGot 0 = .ok (.iconst 0, 1) := by decide +kernel
theorem dX4_sumGot_1 : decode cX4_sumGot 1 = .ok (.istore_n 1, 1) := by decide +kernel
theorem dX4_sumGot_2 : decode cX4_sumGot 2 = .ok (.iconst 0, 1) := by decide +kernel
theorem dX4_sumGot_3 : decode cX4_sumGot 3 = .ok (.istore_n 2, 1) := by decide +kernel
theorem dX4_sumGot_4 : decode cX4_sumGot 4 = .ok (.iload_n 2, 1) := by decide +kernel
theorem dX4_sumGot_5 : decode cX4_sumGot 5 = .ok (.aload_n 0, 1) := by decide +kernel
theorem dX4_sumGot_6 : decode cX4_sumGot 6 = .ok (.getfield 12, 3) := by decide +kernel
theorem dX4_sumGot_9 : decode cX4_sumGot 9 = .ok (.invokevirtual 57, 3) := by decide +kernel
theorem dX4_sumGot_12 : decode cX4_sumGot 12 = .ok (.if_icmp .ge 26, 3) := by decide +kernel
theorem dX4_sumGot_15 : decode cX4_sumGot 15 = .ok (.iload_n 1, 1) := by decide +kernel
theorem dX4_sumGot_16 : decode cX4_sumGot 16 = .ok (.aload_n 0, 1) := by decide +kernel
theorem dX4_sumGot_17 : decode cX4_sumGot 17 = .ok (.getfield 12, 3) := by decide +kernel
theorem dX4_sumGot_20 : decode cX4_sumGot 20 = .ok (.iload_n 2, 1) := by decide +kernel
theorem dX4_sumGot_21 : decode cX4_sumGot 21 = .ok (.invokevirtual 103, 3) := by decide +kernel
theorem dX4_sumGot_24 : decode cX4_sumGot 24 = .ok (.checkcast 66, 3) := by decide +kernel
theorem dX4_sumGot_27 : decode cX4_sumGot 27 = .ok (.getfield 160, 3) := by decide +kernel
theorem dX4_sumGot_30 : decode cX4_sumGot 30 = .ok (.iadd, 1) := by decide +kernel
theorem dX4_sumGot_31 : decode cX4_sumGot 31 = .ok (.istore_n 1, 1) := by decide +kernel
theorem dX4_sumGot_32 : decode cX4_sumGot 32 = .ok (.iinc 2 1, 3) := by decide +kernel
theorem dX4_sumGot_35 : decode cX4_sumGot 35 = .ok (.goto (-31), 3) := by decide +kernel
theorem dX4_sumGot_38 : decode cX4_sumGot 38 = .ok (.iload_n 1, 1) := by decide +kernel
theorem dX4_sumGot_39 : decode cX4_sumGot 39 = .ok (.ireturn, 1) := by decide +kernel
theorem dX4_sumWater_0 : decode cX4_sumWater 0 = .ok (.iconst 0, 1) := by decide +kernel
theorem dX4_sumWater_1 : decode cX4_sumWater 1 = .ok (.istore_n 1, 1) := by decide +kernel
theorem dX4_sumWater_2 : decode cX4_sumWater 2 = .ok (.iconst 0, 1) := by decide +kernel
theorem dX4_sumWater_3 : decode cX4_sumWater 3 = .ok (.istore_n 2, 1) := by decide +kernel
theorem dX4_sumWater_4 : decode cX4_sumWater 4 = .ok (.iload_n 2, 1) := by decide +kernel
theorem dX4_sumWater_5 : decode cX4_sumWater 5 = .ok (.aload_n 0, 1) := by decide +kernel
theorem dX4_sumWater_6 : decode cX4_sumWater 6 = .ok (.getfield 12, 3) := by decide +kernel
theorem dX4_sumWater_9 : decode cX4_sumWater 9 = .ok (.invokevirtual 57, 3) := by decide +kernel
theorem dX4_sumWater_12 : decode cX4_sumWater 12 = .ok (.if_icmp .ge 26, 3) := by decide +kernel
theorem dX4_sumWater_15 : decode cX4_sumWater 15 = .ok (.iload_n 1, 1) := by decide +kernel
theorem dX4_sumWater_16 : decode cX4_sumWater 16 = .ok (.aload_n 0, 1) := by decide +kernel
theorem dX4_sumWater_17 : decode cX4_sumWater 17 = .ok (.getfield 12, 3) := by decide +kernel
theorem dX4_sumWater_20 : decode cX4_sumWater 20 = .ok (.iload_n 2, 1) := by decide +kernel
theorem dX4_sumWater_21 : decode cX4_sumWater 21 = .ok (.invokevirtual 103, 3) := by decide +kernel
theorem dX4_sumWater_24 : decode cX4_sumWater 24 = .ok (.checkcast 66, 3) := by decide +kernel
theorem dX4_sumWater_27 : decode cX4_sumWater 27 = .ok (.getfield 175, 3) := by decide +kernel
theorem dX4_sumWater_30 : decode cX4_sumWater 30 = .ok (.iadd, 1) := by decide +kernel
theorem dX4_sumWater_31 : decode cX4_sumWater 31 = .ok (.istore_n 1, 1) := by decide +kernel
theorem dX4_sumWater_32 : decode cX4_sumWater 32 = .ok (.iinc 2 1, 3) := by decide +kernel
theorem dX4_sumWater_35 : decode cX4_sumWater 35 = .ok (.goto (-31), 3) := by decide +kernel
theorem dX4_sumWater_38 : decode cX4_sumWater 38 = .ok (.iload_n 1, 1) := by decide +kernel
theorem dX4_sumWater_39 : decode cX4_sumWater 39 = .ok (.ireturn, 1) := by decide +kernel
theorem dX4_sumPaidLessPaidBack_0 : decode cX4_sumPaidLessPaidBack 0 = .ok (.iconst 0, 1) := by decide +kernel
theorem dX4_sumPaidLessPaidBack_1 : decode cX4_sumPaidLessPaidBack 1 = .ok (.istore_n 1, 1) := by decide +kernel
theorem dX4_sumPaidLessPaidBack_2 : decode cX4_sumPaidLessPaidBack 2 = .ok (.iconst 0, 1) := by decide +kernel
theorem dX4_sumPaidLessPaidBack_3 : decode cX4_sumPaidLessPaidBack 3 = .ok (.istore_n 2, 1) := by decide +kernel
theorem dX4_sumPaidLessPaidBack_4 : decode cX4_sumPaidLessPaidBack 4 = .ok (.iload_n 2, 1) := by decide +kernel
theorem dX4_sumPaidLessPaidBack_5 : decode cX4_sumPaidLessPaidBack 5 = .ok (.aload_n 0, 1) := by decide +kernel
theorem dX4_sumPaidLessPaidBack_6 : decode cX4_sumPaidLessPaidBack 6 = .ok (.getfield 12, 3) := by decide +kernel
theorem dX4_sumPaidLessPaidBack_9 : decode cX4_sumPaidLessPaidBack 9 = .ok (.invokevirtual 57, 3) := by decide +kernel
theorem dX4_sumPaidLessPaidBack_12 : decode cX4_sumPaidLessPaidBack 12 = .ok (.if_icmp .ge 33, 3) := by decide +kernel
theorem dX4_sumPaidLessPaidBack_15 : decode cX4_sumPaidLessPaidBack 15 = .ok (.aload_n 0, 1) := by decide +kernel
theorem dX4_sumPaidLessPaidBack_16 : decode cX4_sumPaidLessPaidBack 16 = .ok (.getfield 12, 3) := by decide +kernel
theorem dX4_sumPaidLessPaidBack_19 : decode cX4_sumPaidLessPaidBack 19 = .ok (.iload_n 2, 1) := by decide +kernel
theorem dX4_sumPaidLessPaidBack_20 : decode cX4_sumPaidLessPaidBack 20 = .ok (.invokevirtual 103, 3) := by decide +kernel
theorem dX4_sumPaidLessPaidBack_23 : decode cX4_sumPaidLessPaidBack 23 = .ok (.checkcast 66, 3) := by decide +kernel
theorem dX4_sumPaidLessPaidBack_26 : decode cX4_sumPaidLessPaidBack 26 = .ok (.astore_n 3, 1) := by decide +kernel
theorem dX4_sumPaidLessPaidBack_27 : decode cX4_sumPaidLessPaidBack 27 = .ok (.iload_n 1, 1) := by decide +kernel
theorem dX4_sumPaidLessPaidBack_28 : decode cX4_sumPaidLessPaidBack 28 = .ok (.aload_n 3, 1) := by decide +kernel
theorem dX4_sumPaidLessPaidBack_29 : decode cX4_sumPaidLessPaidBack 29 = .ok (.getfield 181, 3) := by decide +kernel
theorem dX4_sumPaidLessPaidBack_32 : decode cX4_sumPaidLessPaidBack 32 = .ok (.aload_n 3, 1) := by decide +kernel
theorem dX4_sumPaidLessPaidBack_33 : decode cX4_sumPaidLessPaidBack 33 = .ok (.getfield 184, 3) := by decide +kernel
theorem dX4_sumPaidLessPaidBack_36 : decode cX4_sumPaidLessPaidBack 36 = .ok (.isub, 1) := by decide +kernel
theorem dX4_sumPaidLessPaidBack_37 : decode cX4_sumPaidLessPaidBack 37 = .ok (.iadd, 1) := by decide +kernel
theorem dX4_sumPaidLessPaidBack_38 : decode cX4_sumPaidLessPaidBack 38 = .ok (.istore_n 1, 1) := by decide +kernel
theorem dX4_sumPaidLessPaidBack_39 : decode cX4_sumPaidLessPaidBack 39 = .ok (.iinc 2 1, 3) := by decide +kernel
theorem dX4_sumPaidLessPaidBack_42 : decode cX4_sumPaidLessPaidBack 42 = .ok (.goto (-38), 3) := by decide +kernel
theorem dX4_sumPaidLessPaidBack_45 : decode cX4_sumPaidLessPaidBack 45 = .ok (.iload_n 1, 1) := by decide +kernel
theorem dX4_sumPaidLessPaidBack_46 : decode cX4_sumPaidLessPaidBack 46 = .ok (.ireturn, 1) := by decide +kernel
