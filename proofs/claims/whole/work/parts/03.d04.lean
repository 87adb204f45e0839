theorem dX10_take_0 : decode cX10_take 0 = .ok (.aload_n 0, 1) := by decide +kernel
theorem dX10_take_1 : decode cX10_take 1 = .ok (.iload_n 1, 1) := by decide +kernel
theorem dX10_take_2 : decode cX10_take 2 = .ok (.iload_n 2, 1) := by decide +kernel
theorem dX10_take_3 : decode cX10_take 3 = .ok (.iload_n 3, 1) := by decide +kernel
theorem dX10_take_4 : decode cX10_take 4 = .ok (.iconst (-1), 1) := by decide +kernel
theorem dX10_take_5 : decode cX10_take 5 = .ok (.iconst (-1), 1) := by decide +kernel
theorem dX10_take_6 : decode cX10_take 6 = .ok (.invokevirtual 151, 3) := by decide +kernel
theorem dX10_take_9 : decode cX10_take 9 = .ok (.ireturn, 1) := by decide +kernel
theorem dX10_takePiece_0 : decode cX10_takePiece 0 = .ok (.aload_n 0, 1) := by decide +kernel
theorem dX10_takePiece_1 : decode cX10_takePiece 1 = .ok (.iload_n 1, 1) := by decide +kernel
theorem dX10_takePiece_2 : decode cX10_takePiece 2 = .ok (.iconst 0, 1) := by decide +kernel
theorem dX10_takePiece_3 : decode cX10_takePiece 3 = .ok (.bipush 7, 2) := by decide +kernel
theorem dX10_takePiece_5 : decode cX10_takePiece 5 = .ok (.iload_n 2, 1) := by decide +kernel
theorem dX10_takePiece_6 : decode cX10_takePiece 6 = .ok (.iconst (-1), 1) := by decide +kernel
theorem dX10_takePiece_7 : decode cX10_takePiece 7 = .ok (.invokevirtual 151, 3) := by decide +kernel
theorem dX10_takePiece_10 : decode cX10_takePiece 10 = .ok (.ifCond .ne 5, 3) := by decide +kernel
theorem dX10_takePiece_13 : decode cX10_takePiece 13 = .ok (.iconst 0, 1) := by decide +kernel
theorem dX10_takePiece_14 : decode cX10_takePiece 14 = .ok (.ireturn, 1) := by decide +kernel
theorem dX10_takePiece_15 : decode cX10_takePiece 15 = .ok (.aload_n 0, 1) := by decide +kernel
theorem dX10_takePiece_16 : decode cX10_takePiece 16 = .ok (.aload_n 0, 1) := by decide +kernel
theorem dX10_takePiece_17 : decode cX10_takePiece 17 = .ok (.getfield 155, 3) := by decide +kernel
theorem dX10_takePiece_20 : decode cX10_takePiece 20 = .ok (.aload_n 0, 1) := by decide +kernel
theorem dX10_takePiece_21 : decode cX10_takePiece 21 = .ok (.getfield 41, 3) := by decide +kernel
theorem dX10_takePiece_24 : decode cX10_takePiece 24 = .ok (.iload_n 1, 1) := by decide +kernel
theorem dX10_takePiece_25 : decode cX10_takePiece 25 = .ok (.iaload, 1) := by decide +kernel
theorem dX10_takePiece_26 : decode cX10_takePiece 26 = .ok (.invokestatic 158, 3) := by decide +kernel
theorem dX10_takePiece_29 : decode cX10_takePiece 29 = .ok (.putfield 155, 3) := by decide +kernel
theorem dX10_takePiece_32 : decode cX10_takePiece 32 = .ok (.iconst 1, 1) := by decide +kernel
theorem dX10_takePiece_33 : decode cX10_takePiece 33 = .ok (.ireturn, 1) := by decide +kernel
theorem dX10_takeSecret_0 : decode cX10_takeSecret 0 = .ok (.aload_n 0, 1) := by decide +kernel
theorem dX10_takeSecret_1 : decode cX10_takeSecret 1 = .ok (.iload_n 1, 1) := by decide +kernel
theorem dX10_takeSecret_2 : decode cX10_takeSecret 2 = .ok (.iconst 0, 1) := by decide +kernel
theorem dX10_takeSecret_3 : decode cX10_takeSecret 3 = .ok (.bipush 9, 2) := by decide +kernel
theorem dX10_takeSecret_5 : decode cX10_takeSecret 5 = .ok (.iload_n 2, 1) := by decide +kernel
theorem dX10_takeSecret_6 : decode cX10_takeSecret 6 = .ok (.iload_n 3, 1) := by decide +kernel
theorem dX10_takeSecret_7 : decode cX10_takeSecret 7 = .ok (.invokevirtual 151, 3) := by decide +kernel
theorem dX10_takeSecret_10 : decode cX10_takeSecret 10 = .ok (.ifCond .ne 5, 3) := by decide +kernel
theorem dX10_takeSecret_13 : decode cX10_takeSecret 13 = .ok (.iconst 0, 1) := by decide +kernel
theorem dX10_takeSecret_14 : decode cX10_takeSecret 14 = .ok (.ireturn, 1) := by decide +kernel
theorem dX10_takeSecret_15 : decode cX10_takeSecret 15 = .ok (.aload_n 0, 1) := by decide +kernel
theorem dX10_takeSecret_16 : decode cX10_takeSecret 16 = .ok (.aload_n 0, 1) := by decide +kernel
theorem dX10_takeSecret_17 : decode cX10_takeSecret 17 = .ok (.getfield 162, 3) := by decide +kernel
theorem dX10_takeSecret_20 : decode cX10_takeSecret 20 = .ok (.aload_n 0, 1) := by decide +kernel
theorem dX10_takeSecret_21 : decode cX10_takeSecret 21 = .ok (.getfield 41, 3) := by decide +kernel
theorem dX10_takeSecret_24 : decode cX10_takeSecret 24 = .ok (.iload_n 1, 1) := by decide +kernel
theorem dX10_takeSecret_25 : decode cX10_takeSecret 25 = .ok (.iaload, 1) := by decide +kernel
theorem dX10_takeSecret_26 : decode cX10_takeSecret 26 = .ok (.invokestatic 158, 3) := by decide +kernel
theorem dX10_takeSecret_29 : decode cX10_takeSecret 29 = .ok (.putfield 162, 3) := by decide +kernel
theorem dX10_takeSecret_32 : decode cX10_takeSecret 32 = .ok (.iconst 1, 1) := by decide +kernel
theorem dX10_takeSecret_33 : decode cX10_takeSecret 33 = .ok (.ireturn, 1) := by decide +kernel
theorem dX10_takeKind_0 : decode cX10_takeKind 0 = .ok (.aload_n 0, 1) := by decide +kernel
theorem dX10_takeKind_1 : decode cX10_takeKind 1 = .ok (.getfield 121, 3) := by decide +kernel
theorem dX10_takeKind_4 : decode cX10_takeKind 4 = .ok (.iconst 2, 1) := by decide +kernel
theorem dX10_takeKind_5 : decode cX10_takeKind 5 = .ok (.if_icmp .eq 7, 3) := by decide +kernel
theorem dX10_takeKind_8 : decode cX10_takeKind 8 = .ok (.iconst (-1), 1) := by decide +kernel
theorem dX10_takeKind_9 : decode cX10_takeKind 9 = .ok (.goto 64, 3) := by decide +kernel
theorem dX10_takeKind_12 : decode cX10_takeKind 12 = .ok (.aload_n 0, 1) := by decide +kernel
theorem dX10_takeKind_13 : decode cX10_takeKind 13 = .ok (.getfield 117, 3) := by decide +kernel
theorem dX10_takeKind_16 : decode cX10_takeKind 16 = .ok (.ldc2_w 165, 3) := by decide +kernel
theorem dX10_takeKind_19 : decode cX10_takeKind 19 = .ok (.lcmp, 1) := by decide +kernel
theorem dX10_takeKind_20 : decode cX10_takeKind 20 = .ok (.ifCond .ne 7, 3) := by decide +kernel
theorem dX10_takeKind_23 : decode cX10_takeKind 23 = .ok (.iconst 0, 1) := by decide +kernel
theorem dX10_takeKind_24 : decode cX10_takeKind 24 = .ok (.goto 49, 3) := by decide +kernel
theorem dX10_takeKind_27 : decode cX10_takeKind 27 = .ok (.aload_n 0, 1) := by decide +kernel
theorem dX10_takeKind_28 : decode cX10_takeKind 28 = .ok (.getfield 117, 3) := by decide +kernel
theorem dX10_takeKind_31 : decode cX10_takeKind 31 = .ok (.ldc2_w 167, 3) := by decide +kernel
theorem dX10_takeKind_34 : decode cX10_takeKind 34 = .ok (.lcmp, 1) := by decide +kernel
theorem dX10_takeKind_35 : decode cX10_takeKind 35 = .ok (.ifCond .ne 7, 3) := by decide +kernel
theorem dX10_takeKind_38 : decode cX10_takeKind 38 = .ok (.iconst 1, 1) := by decide +kernel
theorem dX10_takeKind_39 : decode cX10_takeKind 39 = .ok (.goto 34, 3) := by decide +kernel
theorem dX10_takeKind_42 : decode cX10_takeKind 42 = .ok (.aload_n 0, 1) := by decide +kernel
theorem dX10_takeKind_43 : decode cX10_takeKind 43 = .ok (.getfield 117, 3) := by decide +kernel
theorem dX10_takeKind_46 : decode cX10_takeKind 46 = .ok (.ldc2_w 169, 3) := by decide +kernel
theorem dX10_takeKind_49 : decode cX10_takeKind 49 = .ok (.lcmp, 1) := by decide +kernel
theorem dX10_takeKind_50 : decode cX10_takeKind 50 = .ok (.ifCond .ne 7, 3) := by decide +kernel
theorem dX10_takeKind_53 : decode cX10_takeKind 53 = .ok (.iconst 2, 1) := by decide +kernel
theorem dX10_takeKind_54 : decode cX10_takeKind 54 = .ok (.goto 19, 3) := by decide +kernel
theorem dX10_takeKind_57 : decode cX10_takeKind 57 = .ok (.aload_n 0, 1) := by decide +kernel
theorem dX10_takeKind_58 : decode cX10_takeKind 58 = .ok (.getfield 117, 3) := by decide +kernel
theorem dX10_takeKind_61 : decode cX10_takeKind 61 = .ok (.ldc2_w 171, 3) := by decide +kernel
theorem dX10_takeKind_64 : decode cX10_takeKind 64 = .ok (.lcmp, 1) := by decide +kernel
theorem dX10_takeKind_65 : decode cX10_takeKind 65 = .ok (.ifCond .ne 7, 3) := by decide +kernel
theorem dX10_takeKind_68 : decode cX10_takeKind 68 = .ok (.iconst 3, 1) := by decide +kernel
theorem dX10_takeKind_69 : decode cX10_takeKind 69 = .ok (.goto 4, 3) := by decide +kernel
theorem dX10_takeKind_72 : decode cX10_takeKind 72 = .ok (.iconst (-1), 1) := by decide +kernel
theorem dX10_takeKind_73 : decode cX10_takeKind 73 = .ok (.istore_n 2, 1) := by decide +kernel
theorem dX10_takeKind_74 : decode cX10_takeKind 74 = .ok (.iload_n 2, 1) := by decide +kernel
theorem dX10_takeKind_75 : decode cX10_takeKind 75 = .ok (.iconst (-1), 1) := by decide +kernel
theorem dX10_takeKind_76 : decode cX10_takeKind 76 = .ok (.if_icmp .ne 8, 3) := by decide +kernel
theorem dX10_takeKind_79 : decode cX10_takeKind 79 = .ok (.aload_n 0, 1) := by decide +kernel
theorem dX10_takeKind_80 : decode cX10_takeKind 80 = .ok (.invokevirtual 136, 3) := by decide +kernel
theorem dX10_takeKind_83 : decode cX10_takeKind 83 = .ok (.ireturn, 1) := by decide +kernel
theorem dX10_takeKind_84 : decode cX10_takeKind 84 = .ok (.aload_n 0, 1) := by decide +kernel
theorem dX10_takeKind_85 : decode cX10_takeKind 85 = .ok (.getfield 41, 3) := by decide +kernel
theorem dX10_takeKind_88 : decode cX10_takeKind 88 = .ok (.iload_n 1, 1) := by decide +kernel
theorem dX10_takeKind_89 : decode cX10_takeKind 89 = .ok (.iload_n 2, 1) := by decide +kernel
theorem dX10_takeKind_90 : decode cX10_takeKind 90 = .ok (.iastore, 1) := by decide +kernel
theorem dX10_takeKind_91 : decode cX10_takeKind 91 = .ok (.aload_n 0, 1) := by decide +kernel
theorem dX10_takeKind_92 : decode cX10_takeKind 92 = .ok (.invokevirtual 148, 3) := by decide +kernel
theorem dX10_takeKind_95 : decode cX10_takeKind 95 = .ok (.iconst 1, 1) := by decide +kernel
theorem dX10_takeKind_96 : decode cX10_takeKind 96 = .ok (.ireturn, 1) := by decide +kernel
theorem dX10_full_0 : decode cX10_full 0 = .ok (.aload_n 0, 1) := by decide +kernel
theorem dX10_full_1 : decode cX10_full 1 = .ok (.getfield 38, 3) := by decide +kernel
theorem dX10_full_4 : decode cX10_full 4 = .ok (.iload_n 1, 1) := by decide +kernel
theorem dX10_full_5 : decode cX10_full 5 = .ok (.iaload, 1) := by decide +kernel
theorem dX10_full_6 : decode cX10_full 6 = .ok (.iload_n 2, 1) := by decide +kernel
theorem dX10_full_7 : decode cX10_full 7 = .ok (.if_icmp .ne 9, 3) := by decide +kernel
theorem dX10_full_10 : decode cX10_full 10 = .ok (.aload_n 0, 1) := by decide +kernel
theorem dX10_full_11 : decode cX10_full 11 = .ok (.iconst 3, 1) := by decide +kernel
theorem dX10_full_12 : decode cX10_full 12 = .ok (.iload_n 3, 1) := by decide +kernel
theorem dX10_full_13 : decode cX10_full 13 = .ok (.invokevirtual 140, 3) := by decide +kernel
theorem dX10_full_16 : decode cX10_full 16 = .ok (.return_, 1) := by decide +kernel
theorem dX10_keep_0 : decode cX10_keep 0 = .ok (.aload_n 0, 1) := by decide +kernel
theorem dX10_keep_1 : decode cX10_keep 1 = .ok (.getfield 38, 3) := by decide +kernel
theorem dX10_keep_4 : decode cX10_keep 4 = .ok (.iload_n 1, 1) := by decide +kernel
theorem dX10_keep_5 : decode cX10_keep 5 = .ok (.iaload, 1) := by decide +kernel
theorem dX10_keep_6 : decode cX10_keep 6 = .ok (.istore 6, 2) := by decide +kernel
theorem dX10_keep_8 : decode cX10_keep 8 = .ok (.iload 6, 2) := by decide +kernel
theorem dX10_keep_10 : decode cX10_keep 10 = .ok (.iload 5, 2) := by decide +kernel
theorem dX10_keep_12 : decode cX10_keep 12 = .ok (.if_icmp .ne 4, 3) := by decide +kernel
theorem dX10_keep_15 : decode cX10_keep 15 = .ok (.return_, 1) := by decide +kernel
theorem dX10_keep_16 : decode cX10_keep 16 = .ok (.iconst 0, 1) := by decide +kernel
theorem dX10_keep_17 : decode cX10_keep 17 = .ok (.istore 7, 2) := by decide +kernel
theorem dX10_keep_19 : decode cX10_keep 19 = .ok (.iload 7, 2) := by decide +kernel
theorem dX10_keep_21 : decode cX10_keep 21 = .ok (.iload 4, 2) := by decide +kernel
theorem dX10_keep_23 : decode cX10_keep 23 = .ok (.if_icmp .ge 30, 3) := by decide +kernel
theorem dX10_keep_26 : decode cX10_keep 26 = .ok (.aload_n 0, 1) := by decide +kernel
theorem dX10_keep_27 : decode cX10_keep 27 = .ok (.getfield 38, 3) := by decide +kernel
theorem dX10_keep_30 : decode cX10_keep 30 = .ok (.iload_n 2, 1) := by decide +kernel
theorem dX10_keep_31 : decode cX10_keep 31 = .ok (.iload_n 3, 1) := by decide +kernel
theorem dX10_keep_32 : decode cX10_keep 32 = .ok (.iload 7, 2) := by decide +kernel
theorem dX10_keep_34 : decode cX10_keep 34 = .ok (.imul, 1) := by decide +kernel
theorem dX10_keep_35 : decode cX10_keep 35 = .ok (.iadd, 1) := by decide +kernel
theorem dX10_keep_36 : decode cX10_keep 36 = .ok (.iload 6, 2) := by decide +kernel
theorem dX10_keep_38 : decode cX10_keep 38 = .ok (.iadd, 1) := by decide +kernel
theorem dX10_keep_39 : decode cX10_keep 39 = .ok (.aload_n 0, 1) := by decide +kernel
theorem dX10_keep_40 : decode cX10_keep 40 = .ok (.getfield 41, 3) := by decide +kernel
theorem dX10_keep_43 : decode cX10_keep 43 = .ok (.iload 7, 2) := by decide +kernel
theorem dX10_keep_45 : decode cX10_keep 45 = .ok (.iaload, 1) := by decide +kernel
theorem dX10_keep_46 : decode cX10_keep 46 = .ok (.iastore, 1) := by decide +kernel
theorem dX10_keep_47 : decode cX10_keep 47 = .ok (.iinc 7 1, 3) := by decide +kernel
theorem dX10_keep_50 : decode cX10_keep 50 = .ok (.goto (-31), 3) := by decide +kernel
theorem dX10_keep_53 : decode cX10_keep 53 = .ok (.aload_n 0, 1) := by decide +kernel
theorem dX10_keep_54 : decode cX10_keep 54 = .ok (.getfield 38, 3) := by decide +kernel
theorem dX10_keep_57 : decode cX10_keep 57 = .ok (.iload_n 1, 1) := by decide +kernel
theorem dX10_keep_58 : decode cX10_keep 58 = .ok (.dup2, 1) := by decide +kernel
theorem dX10_keep_59 : decode cX10_keep 59 = .ok (.iaload, 1) := by decide +kernel
theorem dX10_keep_60 : decode cX10_keep 60 = .ok (.iconst 1, 1) := by decide +kernel
theorem dX10_keep_61 : decode cX10_keep 61 = .ok (.iadd, 1) := by decide +kernel
theorem dX10_keep_62 : decode cX10_keep 62 = .ok (.iastore, 1) := by decide +kernel
theorem dX10_keep_63 : decode cX10_keep 63 = .ok (.return_, 1) := by decide +kernel
theorem dX10_kindLine_0 : decode cX10_kindLine 0 = .ok (.aload_n 0, 1) := by decide +kernel
theorem dX10_kindLine_1 : decode cX10_kindLine 1 = .ok (.iconst 0, 1) := by decide +kernel
theorem dX10_kindLine_2 : decode cX10_kindLine 2 = .ok (.invokevirtual 173, 3) := by decide +kernel
theorem dX10_kindLine_5 : decode cX10_kindLine 5 = .ok (.ifCond .eq 31, 3) := by decide +kernel
theorem dX10_kindLine_8 : decode cX10_kindLine 8 = .ok (.aload_n 0, 1) := by decide +kernel
theorem dX10_kindLine_9 : decode cX10_kindLine 9 = .ok (.iconst 1, 1) := by decide +kernel
theorem dX10_kindLine_10 : decode cX10_kindLine 10 = .ok (.iload_n 1, 1) := by decide +kernel
theorem dX10_kindLine_11 : decode cX10_kindLine 11 = .ok (.ifCond .eq 7, 3) := by decide +kernel
theorem dX10_kindLine_14 : decode cX10_kindLine 14 = .ok (.iconst 0, 1) := by decide +kernel
theorem dX10_kindLine_15 : decode cX10_kindLine 15 = .ok (.goto 4, 3) := by decide +kernel
theorem dX10_kindLine_18 : decode cX10_kindLine 18 = .ok (.iconst 1, 1) := by decide +kernel
theorem dX10_kindLine_19 : decode cX10_kindLine 19 = .ok (.iload_n 1, 1) := by decide +kernel
theorem dX10_kindLine_20 : decode cX10_kindLine 20 = .ok (.ifCond .eq 8, 3) := by decide +kernel
theorem dX10_kindLine_23 : decode cX10_kindLine 23 = .ok (.bipush 9, 2) := by decide +kernel
theorem dX10_kindLine_25 : decode cX10_kindLine 25 = .ok (.goto 5, 3) := by decide +kernel
theorem dX10_kindLine_28 : decode cX10_kindLine 28 = .ok (.bipush 30, 2) := by decide +kernel
theorem dX10_kindLine_30 : decode cX10_kindLine 30 = .ok (.invokevirtual 177, 3) := by decide +kernel
theorem dX10_kindLine_33 : decode cX10_kindLine 33 = .ok (.ifCond .ne 5, 3) := by decide +kernel
theorem dX10_kindLine_36 : decode cX10_kindLine 36 = .ok (.iconst 0, 1) := by decide +kernel
theorem dX10_kindLine_37 : decode cX10_kindLine 37 = .ok (.ireturn, 1) := by decide +kernel
theorem dX10_kindLine_38 : decode cX10_kindLine 38 = .ok (.aload_n 0, 1) := by decide +kernel
theorem dX10_kindLine_39 : decode cX10_kindLine 39 = .ok (.iload_n 1, 1) := by decide +kernel
theorem dX10_kindLine_40 : decode cX10_kindLine 40 = .ok (.ifCond .eq 7, 3) := by decide +kernel
theorem dX10_kindLine_43 : decode cX10_kindLine 43 = .ok (.iconst 0, 1) := by decide +kernel
theorem dX10_kindLine_44 : decode cX10_kindLine 44 = .ok (.goto 4, 3) := by decide +kernel
theorem dX10_kindLine_47 : decode cX10_kindLine 47 = .ok (.iconst 1, 1) := by decide +kernel
theorem dX10_kindLine_48 : decode cX10_kindLine 48 = .ok (.iload_n 1, 1) := by decide +kernel
theorem dX10_kindLine_49 : decode cX10_kindLine 49 = .ok (.ifCond .eq 7, 3) := by decide +kernel
theorem dX10_kindLine_52 : decode cX10_kindLine 52 = .ok (.iconst 3, 1) := by decide +kernel
theorem dX10_kindLine_53 : decode cX10_kindLine 53 = .ok (.goto 5, 3) := by decide +kernel
theorem dX10_kindLine_56 : decode cX10_kindLine 56 = .ok (.bipush 27, 2) := by decide +kernel
theorem dX10_kindLine_58 : decode cX10_kindLine 58 = .ok (.iload_n 1, 1) := by decide +kernel
theorem dX10_kindLine_59 : decode cX10_kindLine 59 = .ok (.ifCond .eq 8, 3) := by decide +kernel
theorem dX10_kindLine_62 : decode cX10_kindLine 62 = .ok (.bipush 8, 2) := by decide +kernel
theorem dX10_kindLine_64 : decode cX10_kindLine 64 = .ok (.goto 5, 3) := by decide +kernel
theorem dX10_kindLine_67 : decode cX10_kindLine 67 = .ok (.bipush 10, 2) := by decide +kernel
theorem dX10_kindLine_69 : decode cX10_kindLine 69 = .ok (.iconst 2, 1) := by decide +kernel
theorem dX10_kindLine_70 : decode cX10_kindLine 70 = .ok (.iload_n 1, 1) := by decide +kernel
theorem dX10_kindLine_71 : decode cX10_kindLine 71 = .ok (.ifCond .eq 8, 3) := by decide +kernel
theorem dX10_kindLine_74 : decode cX10_kindLine 74 = .ok (.bipush 8, 2) := by decide +kernel
theorem dX10_kindLine_76 : decode cX10_kindLine 76 = .ok (.goto 5, 3) := by decide +kernel
theorem dX10_kindLine_79 : decode cX10_kindLine 79 = .ok (.bipush 10, 2) := by decide +kernel
theorem dX10_kindLine_81 : decode cX10_kindLine 81 = .ok (.invokevirtual 180, 3) := by decide +kernel
theorem dX10_kindLine_84 : decode cX10_kindLine 84 = .ok (.iconst 1, 1) := by decide +kernel
theorem dX10_kindLine_85 : decode cX10_kindLine 85 = .ok (.ireturn, 1) := by decide +kernel
theorem dX10_knowsLine_0 : decode cX10_knowsLine 0 = .ok (.aload_n 0, 1) := by decide +kernel
theorem dX10_knowsLine_1 : decode cX10_knowsLine 1 = .ok (.iconst 0, 1) := by decide +kernel
theorem dX10_knowsLine_2 : decode cX10_knowsLine 2 = .ok (.iconst (-1), 1) := by decide +kernel
theorem dX10_knowsLine_3 : decode cX10_knowsLine 3 = .ok (.invokevirtual 184, 3) := by decide +kernel
theorem dX10_knowsLine_6 : decode cX10_knowsLine 6 = .ok (.ifCond .eq 13, 3) := by decide +kernel
theorem dX10_knowsLine_9 : decode cX10_knowsLine 9 = .ok (.aload_n 0, 1) := by decide +kernel
theorem dX10_knowsLine_10 : decode cX10_knowsLine 10 = .ok (.iconst 1, 1) := by decide +kernel
theorem dX10_knowsLine_11 : decode cX10_knowsLine 11 = .ok (.iconst (-1), 1) := by decide +kernel
theorem dX10_knowsLine_12 : decode cX10_knowsLine 12 = .ok (.iconst (-1), 1) := by decide +kernel
theorem dX10_knowsLine_13 : decode cX10_knowsLine 13 = .ok (.invokevirtual 187, 3) := by decide +kernel
theorem dX10_knowsLine_16 : decode cX10_knowsLine 16 = .ok (.ifCond .ne 5, 3) := by decide +kernel
theorem dX10_knowsLine_19 : decode cX10_knowsLine 19 = .ok (.iconst 0, 1) := by decide +kernel
theorem dX10_knowsLine_20 : decode cX10_knowsLine 20 = .ok (.ireturn, 1) := by decide +kernel
theorem dX10_knowsLine_21 : decode cX10_knowsLine 21 = .ok (.aload_n 0, 1) := by decide +kernel
theorem dX10_knowsLine_22 : decode cX10_knowsLine 22 = .ok (.getfield 144, 3) := by decide +kernel
theorem dX10_knowsLine_25 : decode cX10_knowsLine 25 = .ok (.ifCond .eq 28, 3) := by decide +kernel
theorem dX10_knowsLine_28 : decode cX10_knowsLine 28 = .ok (.aload_n 0, 1) := by decide +kernel
theorem dX10_knowsLine_29 : decode cX10_knowsLine 29 = .ok (.getfield 38, 3) := by decide +kernel
theorem dX10_knowsLine_32 : decode cX10_knowsLine 32 = .ok (.bipush 19, 2) := by decide +kernel
theorem dX10_knowsLine_34 : decode cX10_knowsLine 34 = .ok (.aload_n 0, 1) := by decide +kernel
theorem dX10_knowsLine_35 : decode cX10_knowsLine 35 = .ok (.getfield 41, 3) := by decide +kernel
theorem dX10_knowsLine_38 : decode cX10_knowsLine 38 = .ok (.iconst 0, 1) := by decide +kernel
theorem dX10_knowsLine_39 : decode cX10_knowsLine 39 = .ok (.iaload, 1) := by decide +kernel
theorem dX10_knowsLine_40 : decode cX10_knowsLine 40 = .ok (.iadd, 1) := by decide +kernel
theorem dX10_knowsLine_41 : decode cX10_knowsLine 41 = .ok (.dup2, 1) := by decide +kernel
theorem dX10_knowsLine_42 : decode cX10_knowsLine 42 = .ok (.iaload, 1) := by decide +kernel
theorem dX10_knowsLine_43 : decode cX10_knowsLine 43 = .ok (.iconst 1, 1) := by decide +kernel
theorem dX10_knowsLine_44 : decode cX10_knowsLine 44 = .ok (.aload_n 0, 1) := by decide +kernel
theorem dX10_knowsLine_45 : decode cX10_knowsLine 45 = .ok (.getfield 41, 3) := by decide +kernel
theorem dX10_knowsLine_48 : decode cX10_knowsLine 48 = .ok (.iconst 1, 1) := by decide +kernel
theorem dX10_knowsLine_49 : decode cX10_knowsLine 49 = .ok (.iaload, 1) := by decide +kernel
theorem dX10_knowsLine_50 : decode cX10_knowsLine 50 = .ok (.ishl, 1) := by decide +kernel
theorem dX10_knowsLine_51 : decode cX10_knowsLine 51 = .ok (.ior, 1) := by decide +kernel
theorem dX10_knowsLine_52 : decode cX10_knowsLine 52 = .ok (.iastore, 1) := by decide +kernel
theorem dX10_knowsLine_53 : decode cX10_knowsLine 53 = .ok (.iconst 1, 1) := by decide +kernel
theorem dX10_knowsLine_54 : decode cX10_knowsLine 54 = .ok (.ireturn, 1) := by decide +kernel
theorem dX10_houseLine_0 : decode cX10_houseLine 0 = .ok (.lload_n 1, 1) := by decide +kernel
theorem dX10_houseLine_1 : decode cX10_houseLine 1 = .ok (.ldc2_w 190, 3) := by decide +kernel
theorem dX10_houseLine_4 : decode cX10_houseLine 4 = .ok (.lcmp, 1) := by decide +kernel
theorem dX10_houseLine_5 : decode cX10_houseLine 5 = .ok (.ifCond .eq 32, 3) := by decide +kernel
theorem dX10_houseLine_8 : decode cX10_houseLine 8 = .ok (.lload_n 1, 1) := by decide +kernel
theorem dX10_houseLine_9 : decode cX10_houseLine 9 = .ok (.ldc2_w 192, 3) := by decide +kernel
theorem dX10_houseLine_12 : decode cX10_houseLine 12 = .ok (.lcmp, 1) := by decide +kernel
theorem dX10_houseLine_13 : decode cX10_houseLine 13 = .ok (.ifCond .eq 24, 3) := by decide +kernel
theorem dX10_houseLine_16 : decode cX10_houseLine 16 = .ok (.lload_n 1, 1) := by decide +kernel
theorem dX10_houseLine_17 : decode cX10_houseLine 17 = .ok (.ldc2_w 194, 3) := by decide +kernel
theorem dX10_houseLine_20 : decode cX10_houseLine 20 = .ok (.lcmp, 1) := by decide +kernel
theorem dX10_houseLine_21 : decode cX10_houseLine 21 = .ok (.ifCond .eq 16, 3) := by decide +kernel
theorem dX10_houseLine_24 : decode cX10_houseLine 24 = .ok (.lload_n 1, 1) := by decide +kernel
theorem dX10_houseLine_25 : decode cX10_houseLine 25 = .ok (.ldc2_w 196, 3) := by decide +kernel
theorem dX10_houseLine_28 : decode cX10_houseLine 28 = .ok (.lcmp, 1) := by decide +kernel
theorem dX10_houseLine_29 : decode cX10_houseLine 29 = .ok (.ifCond .eq 8, 3) := by decide +kernel
theorem dX10_houseLine_32 : decode cX10_houseLine 32 = .ok (.aload_n 0, 1) := by decide +kernel
theorem dX10_houseLine_33 : decode cX10_houseLine 33 = .ok (.invokevirtual 136, 3) := by decide +kernel
theorem dX10_houseLine_36 : decode cX10_houseLine 36 = .ok (.ireturn, 1) := by decide +kernel
theorem dX10_houseLine_37 : decode cX10_houseLine 37 = .ok (.lload_n 1, 1) := by decide +kernel
theorem dX10_houseLine_38 : decode cX10_houseLine 38 = .ok (.ldc2_w 194, 3) := by decide +kernel
theorem dX10_houseLine_41 : decode cX10_houseLine 41 = .ok (.lcmp, 1) := by decide +kernel
theorem dX10_houseLine_42 : decode cX10_houseLine 42 = .ok (.ifCond .eq 48, 3) := by decide +kernel
theorem dX10_houseLine_45 : decode cX10_houseLine 45 = .ok (.aload_n 0, 1) := by decide +kernel
theorem dX10_houseLine_46 : decode cX10_houseLine 46 = .ok (.lload_n 1, 1) := by decide +kernel
theorem dX10_houseLine_47 : decode cX10_houseLine 47 = .ok (.ldc2_w 190, 3) := by decide +kernel
theorem dX10_houseLine_50 : decode cX10_houseLine 50 = .ok (.lcmp, 1) := by decide +kernel
theorem dX10_houseLine_51 : decode cX10_houseLine 51 = .ok (.ifCond .ne 7, 3) := by decide +kernel
theorem dX10_houseLine_54 : decode cX10_houseLine 54 = .ok (.iconst 0, 1) := by decide +kernel
theorem dX10_houseLine_55 : decode cX10_houseLine 55 = .ok (.goto 16, 3) := by decide +kernel
theorem dX10_houseLine_58 : decode cX10_houseLine 58 = .ok (.lload_n 1, 1) := by decide +kernel
theorem dX10_houseLine_59 : decode cX10_houseLine 59 = .ok (.ldc2_w 192, 3) := by decide +kernel
theorem dX10_houseLine_62 : decode cX10_houseLine 62 = .ok (.lcmp, 1) := by decide +kernel
theorem dX10_houseLine_63 : decode cX10_houseLine 63 = .ok (.ifCond .ne 7, 3) := by decide +kernel
theorem dX10_houseLine_66 : decode cX10_houseLine 66 = .ok (.iconst 1, 1) := by decide +kernel
theorem dX10_houseLine_67 : decode cX10_houseLine 67 = .ok (.goto 4, 3) := by decide +kernel
theorem dX10_houseLine_70 : decode cX10_houseLine 70 = .ok (.iconst 2, 1) := by decide +kernel
theorem dX10_houseLine_71 : decode cX10_houseLine 71 = .ok (.lload_n 1, 1) := by decide +kernel
theorem dX10_houseLine_72 : decode cX10_houseLine 72 = .ok (.ldc2_w 192, 3) := by decide +kernel
theorem dX10_houseLine_75 : decode cX10_houseLine 75 = .ok (.lcmp, 1) := by decide +kernel
theorem dX10_houseLine_76 : decode cX10_houseLine 76 = .ok (.ifCond .ne 8, 3) := by decide +kernel
theorem dX10_houseLine_79 : decode cX10_houseLine 79 = .ok (.bipush 10, 2) := by decide +kernel
theorem dX10_houseLine_81 : decode cX10_houseLine 81 = .ok (.goto 5, 3) := by decide +kernel
theorem dX10_houseLine_84 : decode cX10_houseLine 84 = .ok (.bipush 8, 2) := by decide +kernel
theorem dX10_houseLine_86 : decode cX10_houseLine 86 = .ok (.iload_n 3, 1) := by decide +kernel
theorem dX10_houseLine_87 : decode cX10_houseLine 87 = .ok (.invokevirtual 198, 3) := by decide +kernel
theorem dX10_houseLine_90 : decode cX10_houseLine 90 = .ok (.aload_n 0, 1) := by decide +kernel
theorem dX10_houseLine_91 : decode cX10_houseLine 91 = .ok (.invokevirtual 148, 3) := by decide +kernel
theorem dX10_houseLine_94 : decode cX10_houseLine 94 = .ok (.lload_n 1, 1) := by decide +kernel
theorem dX10_houseLine_95 : decode cX10_houseLine 95 = .ok (.ldc2_w 194, 3) := by decide +kernel
theorem dX10_houseLine_98 : decode cX10_houseLine 98 = .ok (.lcmp, 1) := by decide +kernel
theorem dX10_houseLine_99 : decode cX10_houseLine 99 = .ok (.ifCond .ne 8, 3) := by decide +kernel
theorem dX10_houseLine_102 : decode cX10_houseLine 102 = .ok (.aload_n 0, 1) := by decide +kernel
theorem dX10_houseLine_103 : decode cX10_houseLine 103 = .ok (.invokevirtual 202, 3) := by decide +kernel
theorem dX10_houseLine_106 : decode cX10_houseLine 106 = .ok (.ireturn, 1) := by decide +kernel
theorem dX10_houseLine_107 : decode cX10_houseLine 107 = .ok (.lload_n 1, 1) := by decide +kernel
theorem dX10_houseLine_108 : decode cX10_houseLine 108 = .ok (.ldc2_w 196, 3) := by decide +kernel
theorem dX10_houseLine_111 : decode cX10_houseLine 111 = .ok (.lcmp, 1) := by decide +kernel
theorem dX10_houseLine_112 : decode cX10_houseLine 112 = .ok (.ifCond .eq 21, 3) := by decide +kernel
theorem dX10_houseLine_115 : decode cX10_houseLine 115 = .ok (.aload_n 0, 1) := by decide +kernel
theorem dX10_houseLine_116 : decode cX10_houseLine 116 = .ok (.lload_n 1, 1) := by decide +kernel
theorem dX10_houseLine_117 : decode cX10_houseLine 117 = .ok (.ldc2_w 190, 3) := by decide +kernel
theorem dX10_houseLine_120 : decode cX10_houseLine 120 = .ok (.lcmp, 1) := by decide +kernel
theorem dX10_houseLine_121 : decode cX10_houseLine 121 = .ok (.ifCond .ne 7, 3) := by decide +kernel
theorem dX10_houseLine_124 : decode cX10_houseLine 124 = .ok (.iconst 1, 1) := by decide +kernel
theorem dX10_houseLine_125 : decode cX10_houseLine 125 = .ok (.goto 4, 3) := by decide +kernel
theorem dX10_houseLine_128 : decode cX10_houseLine 128 = .ok (.iconst 0, 1) := by decide +kernel
theorem dX10_houseLine_129 : decode cX10_houseLine 129 = .ok (.invokevirtual 205, 3) := by decide +kernel
theorem dX10_houseLine_132 : decode cX10_houseLine 132 = .ok (.ireturn, 1) := by decide +kernel
theorem dX10_houseLine_133 : decode cX10_houseLine 133 = .ok (.aload_n 0, 1) := by decide +kernel
theorem dX10_houseLine_134 : decode cX10_houseLine 134 = .ok (.iconst 0, 1) := by decide +kernel
theorem dX10_houseLine_135 : decode cX10_houseLine 135 = .ok (.iconst (-1), 1) := by decide +kernel
theorem dX10_houseLine_136 : decode cX10_houseLine 136 = .ok (.iconst (-1), 1) := by decide +kernel
theorem dX10_houseLine_137 : decode cX10_houseLine 137 = .ok (.invokevirtual 187, 3) := by decide +kernel
theorem dX10_houseLine_140 : decode cX10_houseLine 140 = .ok (.ifCond .eq 38, 3) := by decide +kernel
theorem dX10_houseLine_143 : decode cX10_houseLine 143 = .ok (.aload_n 0, 1) := by decide +kernel
theorem dX10_houseLine_144 : decode cX10_houseLine 144 = .ok (.iconst 1, 1) := by decide +kernel
theorem dX10_houseLine_145 : decode cX10_houseLine 145 = .ok (.aload_n 0, 1) := by decide +kernel
theorem dX10_houseLine_146 : decode cX10_houseLine 146 = .ok (.getfield 41, 3) := by decide +kernel
theorem dX10_houseLine_149 : decode cX10_houseLine 149 = .ok (.iconst 0, 1) := by decide +kernel
theorem dX10_houseLine_150 : decode cX10_houseLine 150 = .ok (.iaload, 1) := by decide +kernel
theorem dX10_houseLine_151 : decode cX10_houseLine 151 = .ok (.iconst (-1), 1) := by decide +kernel
theorem dX10_houseLine_152 : decode cX10_houseLine 152 = .ok (.invokevirtual 187, 3) := by decide +kernel
theorem dX10_houseLine_155 : decode cX10_houseLine 155 = .ok (.ifCond .eq 23, 3) := by decide +kernel
theorem dX10_houseLine_158 : decode cX10_houseLine 158 = .ok (.aload_n 0, 1) := by decide +kernel
theorem dX10_houseLine_159 : decode cX10_houseLine 159 = .ok (.iconst 2, 1) := by decide +kernel
theorem dX10_houseLine_160 : decode cX10_houseLine 160 = .ok (.aload_n 0, 1) := by decide +kernel
theorem dX10_houseLine_161 : decode cX10_houseLine 161 = .ok (.getfield 41, 3) := by decide +kernel
theorem dX10_houseLine_164 : decode cX10_houseLine 164 = .ok (.iconst 0, 1) := by decide +kernel
theorem dX10_houseLine_165 : decode cX10_houseLine 165 = .ok (.iaload, 1) := by decide +kernel
theorem dX10_houseLine_166 : decode cX10_houseLine 166 = .ok (.aload_n 0, 1) := by decide +kernel
theorem dX10_houseLine_167 : decode cX10_houseLine 167 = .ok (.getfield 41, 3) := by decide +kernel
theorem dX10_houseLine_170 : decode cX10_houseLine 170 = .ok (.iconst 1, 1) := by decide +kernel
theorem dX10_houseLine_171 : decode cX10_houseLine 171 = .ok (.iaload, 1) := by decide +kernel
theorem dX10_houseLine_172 : decode cX10_houseLine 172 = .ok (.invokevirtual 187, 3) := by decide +kernel
theorem dX10_houseLine_175 : decode cX10_houseLine 175 = .ok (.ifCond .ne 5, 3) := by decide +kernel
theorem dX10_houseLine_178 : decode cX10_houseLine 178 = .ok (.iconst 0, 1) := by decide +kernel
theorem dX10_houseLine_179 : decode cX10_houseLine 179 = .ok (.ireturn, 1) := by decide +kernel
theorem dX10_houseLine_180 : decode cX10_houseLine 180 = .ok (.aload_n 0, 1) := by decide +kernel
theorem dX10_houseLine_181 : decode cX10_houseLine 181 = .ok (.iconst 2, 1) := by decide +kernel
theorem dX10_houseLine_182 : decode cX10_houseLine 182 = .ok (.bipush 47, 2) := by decide +kernel
theorem dX10_houseLine_184 : decode cX10_houseLine 184 = .ok (.bipush 8, 2) := by decide +kernel
theorem dX10_houseLine_186 : decode cX10_houseLine 186 = .ok (.iconst 3, 1) := by decide +kernel
theorem dX10_houseLine_187 : decode cX10_houseLine 187 = .ok (.bipush 8, 2) := by decide +kernel
theorem dX10_houseLine_189 : decode cX10_houseLine 189 = .ok (.invokevirtual 180, 3) := by decide +kernel
theorem dX10_houseLine_192 : decode cX10_houseLine 192 = .ok (.iconst 1, 1) := by decide +kernel
theorem dX10_houseLine_193 : decode cX10_houseLine 193 = .ok (.ireturn, 1) := by decide +kernel
theorem dX10_deedBy_0 : decode cX10_deedBy 0 = .ok (.lload_n 0, 1) := by decide +kernel
theorem dX10_deedBy_1 : decode cX10_deedBy 1 = .ok (.ldc2_w 209, 3) := by decide +kernel
theorem dX10_deedBy_4 : decode cX10_deedBy 4 = .ok (.lcmp, 1) := by decide +kernel
theorem dX10_deedBy_5 : decode cX10_deedBy 5 = .ok (.ifCond .ne 7, 3) := by decide +kernel
theorem dX10_deedBy_8 : decode cX10_deedBy 8 = .ok (.iconst 0, 1) := by decide +kernel
theorem dX10_deedBy_9 : decode cX10_deedBy 9 = .ok (.goto 64, 3) := by decide +kernel
theorem dX10_deedBy_12 : decode cX10_deedBy 12 = .ok (.lload_n 0, 1) := by decide +kernel
theorem dX10_deedBy_13 : decode cX10_deedBy 13 = .ok (.ldc2_w 211, 3) := by decide +kernel
theorem dX10_deedBy_16 : decode cX10_deedBy 16 = .ok (.lcmp, 1) := by decide +kernel
theorem dX10_deedBy_17 : decode cX10_deedBy 17 = .ok (.ifCond .ne 7, 3) := by decide +kernel
theorem dX10_deedBy_20 : decode cX10_deedBy 20 = .ok (.iconst 1, 1) := by decide +kernel
theorem dX10_deedBy_21 : decode cX10_deedBy 21 = .ok (.goto 52, 3) := by decide +kernel
theorem dX10_deedBy_24 : decode cX10_deedBy 24 = .ok (.lload_n 0, 1) := by decide +kernel
theorem dX10_deedBy_25 : decode cX10_deedBy 25 = .ok (.ldc2_w 213, 3) := by decide +kernel
theorem dX10_deedBy_28 : decode cX10_deedBy 28 = .ok (.lcmp, 1) := by decide +kernel
theorem dX10_deedBy_29 : decode cX10_deedBy 29 = .ok (.ifCond .ne 7, 3) := by decide +kernel
theorem dX10_deedBy_32 : decode cX10_deedBy 32 = .ok (.iconst 2, 1) := by decide +kernel
theorem dX10_deedBy_33 : decode cX10_deedBy 33 = .ok (.goto 40, 3) := by decide +kernel
theorem dX10_deedBy_36 : decode cX10_deedBy 36 = .ok (.lload_n 0, 1) := by decide +kernel
theorem dX10_deedBy_37 : decode cX10_deedBy 37 = .ok (.ldc2_w 215, 3) := by decide +kernel
theorem dX10_deedBy_40 : decode cX10_deedBy 40 = .ok (.lcmp, 1) := by decide +kernel
theorem dX10_deedBy_41 : decode cX10_deedBy 41 = .ok (.ifCond .ne 7, 3) := by decide +kernel
theorem dX10_deedBy_44 : decode cX10_deedBy 44 = .ok (.iconst 3, 1) := by decide +kernel
theorem dX10_deedBy_45 : decode cX10_deedBy 45 = .ok (.goto 28, 3) := by decide +kernel
theorem dX10_deedBy_48 : decode cX10_deedBy 48 = .ok (.lload_n 0, 1) := by decide +kernel
theorem dX10_deedBy_49 : decode cX10_deedBy 49 = .ok (.ldc2_w 217, 3) := by decide +kernel
theorem dX10_deedBy_52 : decode cX10_deedBy 52 = .ok (.lcmp, 1) := by decide +kernel
theorem dX10_deedBy_53 : decode cX10_deedBy 53 = .ok (.ifCond .ne 7, 3) := by decide +kernel
theorem dX10_deedBy_56 : decode cX10_deedBy 56 = .ok (.iconst 4, 1) := by decide +kernel
theorem dX10_deedBy_57 : decode cX10_deedBy 57 = .ok (.goto 16, 3) := by decide +kernel
theorem dX10_deedBy_60 : decode cX10_deedBy 60 = .ok (.lload_n 0, 1) := by decide +kernel
theorem dX10_deedBy_61 : decode cX10_deedBy 61 = .ok (.ldc2_w 219, 3) := by decide +kernel
theorem dX10_deedBy_64 : decode cX10_deedBy 64 = .ok (.lcmp, 1) := by decide +kernel
theorem dX10_deedBy_65 : decode cX10_deedBy 65 = .ok (.ifCond .ne 7, 3) := by decide +kernel
theorem dX10_deedBy_68 : decode cX10_deedBy 68 = .ok (.iconst 5, 1) := by decide +kernel
theorem dX10_deedBy_69 : decode cX10_deedBy 69 = .ok (.goto 4, 3) := by decide +kernel
theorem dX10_deedBy_72 : decode cX10_deedBy 72 = .ok (.iconst (-1), 1) := by decide +kernel
theorem dX10_deedBy_73 : decode cX10_deedBy 73 = .ok (.ireturn, 1) := by decide +kernel
theorem dX10_keepRow_0 : decode cX10_keepRow 0 = .ok (.aload_n 0, 1) := by decide +kernel
theorem dX10_keepRow_1 : decode cX10_keepRow 1 = .ok (.getfield 38, 3) := by decide +kernel
theorem dX10_keepRow_4 : decode cX10_keepRow 4 = .ok (.iconst 0, 1) := by decide +kernel
theorem dX10_keepRow_5 : decode cX10_keepRow 5 = .ok (.iaload, 1) := by decide +kernel
theorem dX10_keepRow_6 : decode cX10_keepRow 6 = .ok (.istore_n 3, 1) := by decide +kernel
theorem dX10_keepRow_7 : decode cX10_keepRow 7 = .ok (.iload_n 3, 1) := by decide +kernel
theorem dX10_keepRow_8 : decode cX10_keepRow 8 = .ok (.iload_n 2, 1) := by decide +kernel
theorem dX10_keepRow_9 : decode cX10_keepRow 9 = .ok (.if_icmp .ne 4, 3) := by decide +kernel
theorem dX10_keepRow_12 : decode cX10_keepRow 12 = .ok (.return_, 1) := by decide +kernel
theorem dX10_keepRow_13 : decode cX10_keepRow 13 = .ok (.iconst 0, 1) := by decide +kernel
theorem dX10_keepRow_14 : decode cX10_keepRow 14 = .ok (.istore 4, 2) := by decide +kernel
theorem dX10_keepRow_16 : decode cX10_keepRow 16 = .ok (.iload 4, 2) := by decide +kernel
theorem dX10_keepRow_18 : decode cX10_keepRow 18 = .ok (.iload_n 1, 1) := by decide +kernel
theorem dX10_keepRow_19 : decode cX10_keepRow 19 = .ok (.if_icmp .ge 29, 3) := by decide +kernel
theorem dX10_keepRow_22 : decode cX10_keepRow 22 = .ok (.aload_n 0, 1) := by decide +kernel
theorem dX10_keepRow_23 : decode cX10_keepRow 23 = .ok (.getfield 38, 3) := by decide +kernel
theorem dX10_keepRow_26 : decode cX10_keepRow 26 = .ok (.iconst 1, 1) := by decide +kernel
theorem dX10_keepRow_27 : decode cX10_keepRow 27 = .ok (.iload_n 1, 1) := by decide +kernel
theorem dX10_keepRow_28 : decode cX10_keepRow 28 = .ok (.iload_n 3, 1) := by decide +kernel
theorem dX10_keepRow_29 : decode cX10_keepRow 29 = .ok (.imul, 1) := by decide +kernel
theorem dX10_keepRow_30 : decode cX10_keepRow 30 = .ok (.iadd, 1) := by decide +kernel
theorem dX10_keepRow_31 : decode cX10_keepRow 31 = .ok (.iload 4, 2) := by decide +kernel
theorem dX10_keepRow_33 : decode cX10_keepRow 33 = .ok (.iadd, 1) := by decide +kernel
theorem dX10_keepRow_34 : decode cX10_keepRow 34 = .ok (.aload_n 0, 1) := by decide +kernel
theorem dX10_keepRow_35 : decode cX10_keepRow 35 = .ok (.getfield 41, 3) := by decide +kernel
theorem dX10_keepRow_38 : decode cX10_keepRow 38 = .ok (.iload 4, 2) := by decide +kernel
theorem dX10_keepRow_40 : decode cX10_keepRow 40 = .ok (.iaload, 1) := by decide +kernel
theorem dX10_keepRow_41 : decode cX10_keepRow 41 = .ok (.iastore, 1) := by decide +kernel
theorem dX10_keepRow_42 : decode cX10_keepRow 42 = .ok (.iinc 4 1, 3) := by decide +kernel
theorem dX10_keepRow_45 : decode cX10_keepRow 45 = .ok (.goto (-29), 3) := by decide +kernel
theorem dX10_keepRow_48 : decode cX10_keepRow 48 = .ok (.aload_n 0, 1) := by decide +kernel
theorem dX10_keepRow_49 : decode cX10_keepRow 49 = .ok (.getfield 38, 3) := by decide +kernel
theorem dX10_keepRow_52 : decode cX10_keepRow 52 = .ok (.iconst 0, 1) := by decide +kernel
theorem dX10_keepRow_53 : decode cX10_keepRow 53 = .ok (.dup2, 1) := by decide +kernel
theorem dX10_keepRow_54 : decode cX10_keepRow 54 = .ok (.iaload, 1) := by decide +kernel
theorem dX10_keepRow_55 : decode cX10_keepRow 55 = .ok (.iconst 1, 1) := by decide +kernel
theorem dX10_keepRow_56 : decode cX10_keepRow 56 = .ok (.iadd, 1) := by decide +kernel
theorem dX10_keepRow_57 : decode cX10_keepRow 57 = .ok (.iastore, 1) := by decide +kernel
theorem dX10_keepRow_58 : decode cX10_keepRow 58 = .ok (.return_, 1) := by decide +kernel
theorem dX10_monthLine_0 : decode cX10_monthLine 0 = .ok (.lload_n 1, 1) := by decide +kernel
theorem dX10_monthLine_1 : decode cX10_monthLine 1 = .ok (.invokestatic 221, 3) := by decide +kernel
theorem dX10_monthLine_4 : decode cX10_monthLine 4 = .ok (.istore 4, 2) := by decide +kernel
theorem dX10_monthLine_6 : decode cX10_monthLine 6 = .ok (.iload 4, 2) := by decide +kernel
theorem dX10_monthLine_8 : decode cX10_monthLine 8 = .ok (.iconst (-1), 1) := by decide +kernel
theorem dX10_monthLine_9 : decode cX10_monthLine 9 = .ok (.if_icmp .ne 8, 3) := by decide +kernel
theorem dX10_monthLine_12 : decode cX10_monthLine 12 = .ok (.aload_n 0, 1) := by decide +kernel
theorem dX10_monthLine_13 : decode cX10_monthLine 13 = .ok (.invokevirtual 136, 3) := by decide +kernel
theorem dX10_monthLine_16 : decode cX10_monthLine 16 = .ok (.ireturn, 1) := by decide +kernel
theorem dX10_monthLine_17 : decode cX10_monthLine 17 = .ok (.aload_n 0, 1) := by decide +kernel
theorem dX10_monthLine_18 : decode cX10_monthLine 18 = .ok (.iconst 0, 1) := by decide +kernel
theorem dX10_monthLine_19 : decode cX10_monthLine 19 = .ok (.bipush 40, 2) := by decide +kernel
theorem dX10_monthLine_21 : decode cX10_monthLine 21 = .ok (.iload_n 3, 1) := by decide +kernel
theorem dX10_monthLine_22 : decode cX10_monthLine 22 = .ok (.invokevirtual 198, 3) := by decide +kernel
theorem dX10_monthLine_25 : decode cX10_monthLine 25 = .ok (.aload_n 0, 1) := by decide +kernel
theorem dX10_monthLine_26 : decode cX10_monthLine 26 = .ok (.invokevirtual 148, 3) := by decide +kernel
theorem dX10_monthLine_29 : decode cX10_monthLine 29 = .ok (.iconst 1, 1) := by decide +kernel
theorem dX10_monthLine_30 : decode cX10_monthLine 30 = .ok (.istore 5, 2) := by decide +kernel
theorem dX10_monthLine_32 : decode cX10_monthLine 32 = .ok (.iload 5, 2) := by decide +kernel
theorem dX10_monthLine_34 : decode cX10_monthLine 34 = .ok (.iconst 4, 1) := by decide +kernel
theorem dX10_monthLine_35 : decode cX10_monthLine 35 = .ok (.if_icmp .ge 17, 3) := by decide +kernel
theorem dX10_monthLine_38 : decode cX10_monthLine 38 = .ok (.aload_n 0, 1) := by decide +kernel
theorem dX10_monthLine_39 : decode cX10_monthLine 39 = .ok (.getfield 41, 3) := by decide +kernel
theorem dX10_monthLine_42 : decode cX10_monthLine 42 = .ok (.iload 5, 2) := by decide +kernel
theorem dX10_monthLine_44 : decode cX10_monthLine 44 = .ok (.iconst (-1), 1) := by decide +kernel
theorem dX10_monthLine_45 : decode cX10_monthLine 45 = .ok (.iastore, 1) := by decide +kernel
theorem dX10_monthLine_46 : decode cX10_monthLine 46 = .ok (.iinc 5 1, 3) := by decide +kernel
theorem dX10_monthLine_49 : decode cX10_monthLine 49 = .ok (.goto (-17), 3) := by decide +kernel
theorem dX10_monthLine_52 : decode cX10_monthLine 52 = .ok (.iconst 1, 1) := by decide +kernel
theorem dX10_monthLine_53 : decode cX10_monthLine 53 = .ok (.istore 5, 2) := by decide +kernel
theorem dX10_monthLine_55 : decode cX10_monthLine 55 = .ok (.iload 4, 2) := by decide +kernel
theorem dX10_monthLine_57 : decode cX10_monthLine 57 = .ok (.iconst 2, 1) := by decide +kernel
theorem dX10_monthLine_58 : decode cX10_monthLine 58 = .ok (.if_icmp .ge 51, 3) := by decide +kernel
theorem dX10_monthLine_61 : decode cX10_monthLine 61 = .ok (.aload_n 0, 1) := by decide +kernel
theorem dX10_monthLine_62 : decode cX10_monthLine 62 = .ok (.iconst 1, 1) := by decide +kernel
theorem dX10_monthLine_63 : decode cX10_monthLine 63 = .ok (.iconst (-1), 1) := by decide +kernel
theorem dX10_monthLine_64 : decode cX10_monthLine 64 = .ok (.iconst (-1), 1) := by decide +kernel
theorem dX10_monthLine_65 : decode cX10_monthLine 65 = .ok (.invokevirtual 187, 3) := by decide +kernel
theorem dX10_monthLine_68 : decode cX10_monthLine 68 = .ok (.ifCond .eq 35, 3) := by decide +kernel
theorem dX10_monthLine_71 : decode cX10_monthLine 71 = .ok (.aload_n 0, 1) := by decide +kernel
theorem dX10_monthLine_72 : decode cX10_monthLine 72 = .ok (.iconst 2, 1) := by decide +kernel
theorem dX10_monthLine_73 : decode cX10_monthLine 73 = .ok (.iconst (-1), 1) := by decide +kernel
theorem dX10_monthLine_74 : decode cX10_monthLine 74 = .ok (.invokevirtual 184, 3) := by decide +kernel
theorem dX10_monthLine_77 : decode cX10_monthLine 77 = .ok (.ifCond .eq 26, 3) := by decide +kernel
theorem dX10_monthLine_80 : decode cX10_monthLine 80 = .ok (.iload 4, 2) := by decide +kernel
theorem dX10_monthLine_82 : decode cX10_monthLine 82 = .ok (.ifCond .eq 17, 3) := by decide +kernel
theorem dX10_monthLine_85 : decode cX10_monthLine 85 = .ok (.aload_n 0, 1) := by decide +kernel
theorem dX10_monthLine_86 : decode cX10_monthLine 86 = .ok (.iconst 3, 1) := by decide +kernel
theorem dX10_monthLine_87 : decode cX10_monthLine 87 = .ok (.aload_n 0, 1) := by decide +kernel
theorem dX10_monthLine_88 : decode cX10_monthLine 88 = .ok (.getfield 41, 3) := by decide +kernel
theorem dX10_monthLine_91 : decode cX10_monthLine 91 = .ok (.iconst 2, 1) := by decide +kernel
theorem dX10_monthLine_92 : decode cX10_monthLine 92 = .ok (.iaload, 1) := by decide +kernel
theorem dX10_monthLine_93 : decode cX10_monthLine 93 = .ok (.invokevirtual 184, 3) := by decide +kernel
theorem dX10_monthLine_96 : decode cX10_monthLine 96 = .ok (.ifCond .eq 7, 3) := by decide +kernel
theorem dX10_monthLine_99 : decode cX10_monthLine 99 = .ok (.iconst 1, 1) := by decide +kernel
theorem dX10_monthLine_100 : decode cX10_monthLine 100 = .ok (.goto 4, 3) := by decide +kernel
theorem dX10_monthLine_103 : decode cX10_monthLine 103 = .ok (.iconst 0, 1) := by decide +kernel
theorem dX10_monthLine_104 : decode cX10_monthLine 104 = .ok (.istore 5, 2) := by decide +kernel
theorem dX10_monthLine_106 : decode cX10_monthLine 106 = .ok (.goto 17, 3) := by decide +kernel
theorem dX10_monthLine_109 : decode cX10_monthLine 109 = .ok (.iload 4, 2) := by decide +kernel
theorem dX10_monthLine_111 : decode cX10_monthLine 111 = .ok (.iconst 5, 1) := by decide +kernel
theorem dX10_monthLine_112 : decode cX10_monthLine 112 = .ok (.if_icmp .ge 11, 3) := by decide +kernel
theorem dX10_monthLine_115 : decode cX10_monthLine 115 = .ok (.aload_n 0, 1) := by decide +kernel
theorem dX10_monthLine_116 : decode cX10_monthLine 116 = .ok (.iconst 1, 1) := by decide +kernel
theorem dX10_monthLine_117 : decode cX10_monthLine 117 = .ok (.iconst (-1), 1) := by decide +kernel
theorem dX10_monthLine_118 : decode cX10_monthLine 118 = .ok (.invokevirtual 184, 3) := by decide +kernel
theorem dX10_monthLine_121 : decode cX10_monthLine 121 = .ok (.istore 5, 2) := by decide +kernel
theorem dX10_monthLine_123 : decode cX10_monthLine 123 = .ok (.iload 5, 2) := by decide +kernel
theorem dX10_monthLine_125 : decode cX10_monthLine 125 = .ok (.ifCond .ne 5, 3) := by decide +kernel
theorem dX10_monthLine_128 : decode cX10_monthLine 128 = .ok (.iconst 0, 1) := by decide +kernel
theorem dX10_monthLine_129 : decode cX10_monthLine 129 = .ok (.ireturn, 1) := by decide +kernel
theorem dX10_monthLine_130 : decode cX10_monthLine 130 = .ok (.aload_n 0, 1) := by decide +kernel
theorem dX10_monthLine_131 : decode cX10_monthLine 131 = .ok (.getfield 41, 3) := by decide +kernel
theorem dX10_monthLine_134 : decode cX10_monthLine 134 = .ok (.iconst 0, 1) := by decide +kernel
theorem dX10_monthLine_135 : decode cX10_monthLine 135 = .ok (.iload 4, 2) := by decide +kernel
theorem dX10_monthLine_137 : decode cX10_monthLine 137 = .ok (.iastore, 1) := by decide +kernel
theorem dX10_monthLine_138 : decode cX10_monthLine 138 = .ok (.aload_n 0, 1) := by decide +kernel
theorem dX10_monthLine_139 : decode cX10_monthLine 139 = .ok (.iconst 4, 1) := by decide +kernel
theorem dX10_monthLine_140 : decode cX10_monthLine 140 = .ok (.bipush 40, 2) := by decide +kernel
theorem dX10_monthLine_142 : decode cX10_monthLine 142 = .ok (.invokevirtual 225, 3) := by decide +kernel
theorem dX10_monthLine_145 : decode cX10_monthLine 145 = .ok (.iconst 1, 1) := by decide +kernel
theorem dX10_monthLine_146 : decode cX10_monthLine 146 = .ok (.ireturn, 1) := by decide +kernel
theorem dX10_dinnerLine_0 : decode cX10_dinnerLine 0 = .ok (.lload_n 1, 1) := by decide +kernel
theorem dX10_dinnerLine_1 : decode cX10_dinnerLine 1 = .ok (.ldc2_w 228, 3) := by decide +kernel
theorem dX10_dinnerLine_4 : decode cX10_dinnerLine 4 = .ok (.lcmp, 1) := by decide +kernel
theorem dX10_dinnerLine_5 : decode cX10_dinnerLine 5 = .ok (.ifCond .eq 8, 3) := by decide +kernel
theorem dX10_dinnerLine_8 : decode cX10_dinnerLine 8 = .ok (.aload_n 0, 1) := by decide +kernel
theorem dX10_dinnerLine_9 : decode cX10_dinnerLine 9 = .ok (.invokevirtual 136, 3) := by decide +kernel
theorem dX10_dinnerLine_12 : decode cX10_dinnerLine 12 = .ok (.ireturn, 1) := by decide +kernel
theorem dX10_dinnerLine_13 : decode cX10_dinnerLine 13 = .ok (.aload_n 0, 1) := by decide +kernel
theorem dX10_dinnerLine_14 : decode cX10_dinnerLine 14 = .ok (.iconst 0, 1) := by decide +kernel
theorem dX10_dinnerLine_15 : decode cX10_dinnerLine 15 = .ok (.bipush 8, 2) := by decide +kernel
theorem dX10_dinnerLine_17 : decode cX10_dinnerLine 17 = .ok (.iload_n 3, 1) := by decide +kernel
theorem dX10_dinnerLine_18 : decode cX10_dinnerLine 18 = .ok (.invokevirtual 198, 3) := by decide +kernel
theorem dX10_dinnerLine_21 : decode cX10_dinnerLine 21 = .ok (.aload_n 0, 1) := by decide +kernel
theorem dX10_dinnerLine_22 : decode cX10_dinnerLine 22 = .ok (.invokevirtual 148, 3) := by decide +kernel
theorem dX10_dinnerLine_25 : decode cX10_dinnerLine 25 = .ok (.aload_n 0, 1) := by decide +kernel
theorem dX10_dinnerLine_26 : decode cX10_dinnerLine 26 = .ok (.iconst 0, 1) := by decide +kernel
theorem dX10_dinnerLine_27 : decode cX10_dinnerLine 27 = .ok (.aload_n 0, 1) := by decide +kernel
theorem dX10_dinnerLine_28 : decode cX10_dinnerLine 28 = .ok (.getfield 230, 3) := by decide +kernel
theorem dX10_dinnerLine_31 : decode cX10_dinnerLine 31 = .ok (.bipush 60, 2) := by decide +kernel
theorem dX10_dinnerLine_33 : decode cX10_dinnerLine 33 = .ok (.invokevirtual 177, 3) := by decide +kernel
theorem dX10_dinnerLine_36 : decode cX10_dinnerLine 36 = .ok (.ifCond .eq 23, 3) := by decide +kernel
theorem dX10_dinnerLine_39 : decode cX10_dinnerLine 39 = .ok (.aload_n 0, 1) := by decide +kernel
theorem dX10_dinnerLine_40 : decode cX10_dinnerLine 40 = .ok (.iconst 1, 1) := by decide +kernel
theorem dX10_dinnerLine_41 : decode cX10_dinnerLine 41 = .ok (.iconst (-1), 1) := by decide +kernel
theorem dX10_dinnerLine_42 : decode cX10_dinnerLine 42 = .ok (.invokevirtual 184, 3) := by decide +kernel
theorem dX10_dinnerLine_45 : decode cX10_dinnerLine 45 = .ok (.ifCond .eq 14, 3) := by decide +kernel
theorem dX10_dinnerLine_48 : decode cX10_dinnerLine 48 = .ok (.aload_n 0, 1) := by decide +kernel
theorem dX10_dinnerLine_49 : decode cX10_dinnerLine 49 = .ok (.iconst 2, 1) := by decide +kernel
theorem dX10_dinnerLine_50 : decode cX10_dinnerLine 50 = .ok (.iconst 1, 1) := by decide +kernel
theorem dX10_dinnerLine_51 : decode cX10_dinnerLine 51 = .ok (.bipush 60, 2) := by decide +kernel
theorem dX10_dinnerLine_53 : decode cX10_dinnerLine 53 = .ok (.invokevirtual 177, 3) := by decide +kernel
theorem dX10_dinnerLine_56 : decode cX10_dinnerLine 56 = .ok (.ifCond .ne 5, 3) := by decide +kernel
theorem dX10_dinnerLine_59 : decode cX10_dinnerLine 59 = .ok (.iconst 0, 1) := by decide +kernel
theorem dX10_dinnerLine_60 : decode cX10_dinnerLine 60 = .ok (.ireturn, 1) := by decide +kernel
theorem dX10_dinnerLine_61 : decode cX10_dinnerLine 61 = .ok (.aload_n 0, 1) := by decide +kernel
theorem dX10_dinnerLine_62 : decode cX10_dinnerLine 62 = .ok (.aload_n 0, 1) := by decide +kernel
theorem dX10_dinnerLine_63 : decode cX10_dinnerLine 63 = .ok (.getfield 41, 3) := by decide +kernel
theorem dX10_dinnerLine_66 : decode cX10_dinnerLine 66 = .ok (.iconst 0, 1) := by decide +kernel
theorem dX10_dinnerLine_67 : decode cX10_dinnerLine 67 = .ok (.iaload, 1) := by decide +kernel
theorem dX10_dinnerLine_68 : decode cX10_dinnerLine 68 = .ok (.putfield 230, 3) := by decide +kernel
theorem dX10_dinnerLine_71 : decode cX10_dinnerLine 71 = .ok (.aload_n 0, 1) := by decide +kernel
theorem dX10_dinnerLine_72 : decode cX10_dinnerLine 72 = .ok (.iconst 3, 1) := by decide +kernel
theorem dX10_dinnerLine_73 : decode cX10_dinnerLine 73 = .ok (.bipush 8, 2) := by decide +kernel
theorem dX10_dinnerLine_75 : decode cX10_dinnerLine 75 = .ok (.invokevirtual 225, 3) := by decide +kernel
theorem dX10_dinnerLine_78 : decode cX10_dinnerLine 78 = .ok (.iconst 1, 1) := by decide +kernel
theorem dX10_dinnerLine_79 : decode cX10_dinnerLine 79 = .ok (.ireturn, 1) := by decide +kernel
theorem dX10_logLine_0 : decode cX10_logLine 0 = .ok (.lload_n 1, 1) := by decide +kernel
theorem dX10_logLine_1 : decode cX10_logLine 1 = .ok (.ldc2_w 233, 3) := by decide +kernel
theorem dX10_logLine_4 : decode cX10_logLine 4 = .ok (.lcmp, 1) := by decide +kernel
theorem dX10_logLine_5 : decode cX10_logLine 5 = .ok (.ifCond .eq 8, 3) := by decide +kernel
theorem dX10_logLine_8 : decode cX10_logLine 8 = .ok (.aload_n 0, 1) := by decide +kernel
theorem dX10_logLine_9 : decode cX10_logLine 9 = .ok (.invokevirtual 136, 3) := by decide +kernel
theorem dX10_logLine_12 : decode cX10_logLine 12 = .ok (.ireturn, 1) := by decide +kernel
theorem dX10_logLine_13 : decode cX10_logLine 13 = .ok (.aload_n 0, 1) := by decide +kernel
theorem dX10_logLine_14 : decode cX10_logLine 14 = .ok (.iconst 0, 1) := by decide +kernel
theorem dX10_logLine_15 : decode cX10_logLine 15 = .ok (.bipush 8, 2) := by decide +kernel
theorem dX10_logLine_17 : decode cX10_logLine 17 = .ok (.iload_n 3, 1) := by decide +kernel
theorem dX10_logLine_18 : decode cX10_logLine 18 = .ok (.invokevirtual 198, 3) := by decide +kernel
theorem dX10_logLine_21 : decode cX10_logLine 21 = .ok (.aload_n 0, 1) := by decide +kernel
theorem dX10_logLine_22 : decode cX10_logLine 22 = .ok (.invokevirtual 148, 3) := by decide +kernel
theorem dX10_logLine_25 : decode cX10_logLine 25 = .ok (.aload_n 0, 1) := by decide +kernel
theorem dX10_logLine_26 : decode cX10_logLine 26 = .ok (.iconst 0, 1) := by decide +kernel
theorem dX10_logLine_27 : decode cX10_logLine 27 = .ok (.iconst (-1), 1) := by decide +kernel
theorem dX10_logLine_28 : decode cX10_logLine 28 = .ok (.invokevirtual 184, 3) := by decide +kernel
theorem dX10_logLine_31 : decode cX10_logLine 31 = .ok (.ifCond .eq 14, 3) := by decide +kernel
theorem dX10_logLine_34 : decode cX10_logLine 34 = .ok (.aload_n 0, 1) := by decide +kernel
theorem dX10_logLine_35 : decode cX10_logLine 35 = .ok (.iconst 1, 1) := by decide +kernel
theorem dX10_logLine_36 : decode cX10_logLine 36 = .ok (.iconst 0, 1) := by decide +kernel
theorem dX10_logLine_37 : decode cX10_logLine 37 = .ok (.bipush 60, 2) := by decide +kernel
theorem dX10_logLine_39 : decode cX10_logLine 39 = .ok (.invokevirtual 177, 3) := by decide +kernel
theorem dX10_logLine_42 : decode cX10_logLine 42 = .ok (.ifCond .ne 5, 3) := by decide +kernel
theorem dX10_logLine_45 : decode cX10_logLine 45 = .ok (.iconst 0, 1) := by decide +kernel
theorem dX10_logLine_46 : decode cX10_logLine 46 = .ok (.ireturn, 1) := by decide +kernel
theorem dX10_logLine_47 : decode cX10_logLine 47 = .ok (.aload_n 0, 1) := by decide +kernel
theorem dX10_logLine_48 : decode cX10_logLine 48 = .ok (.iconst 2, 1) := by decide +kernel
theorem dX10_logLine_49 : decode cX10_logLine 49 = .ok (.bipush 8, 2) := by decide +kernel
theorem dX10_logLine_51 : decode cX10_logLine 51 = .ok (.invokevirtual 225, 3) := by decide +kernel
theorem dX10_logLine_54 : decode cX10_logLine 54 = .ok (.iconst 1, 1) := by decide +kernel
theorem dX10_logLine_55 : decode cX10_logLine 55 = .ok (.ireturn, 1) := by decide +kernel
theorem dX10_lineOf_0 : decode cX10_lineOf 0 = .ok (.iload_n 1, 1) := by decide +kernel
theorem dX10_lineOf_1 : decode cX10_lineOf 1 = .ok (.tableswitch 51 0 2 #[27, 35, 43], 27) := by decide +kernel
theorem dX10_lineOf_28 : decode cX10_lineOf 28 = .ok (.aload_n 0, 1) := by decide +kernel
theorem dX10_lineOf_29 : decode cX10_lineOf 29 = .ok (.lload_n 2, 1) := by decide +kernel
theorem dX10_lineOf_30 : decode cX10_lineOf 30 = .ok (.iload 4, 2) := by decide +kernel
theorem dX10_lineOf_32 : decode cX10_lineOf 32 = .ok (.invokevirtual 235, 3) := by decide +kernel
theorem dX10_lineOf_35 : decode cX10_lineOf 35 = .ok (.ireturn, 1) := by decide +kernel
theorem dX10_lineOf_36 : decode cX10_lineOf 36 = .ok (.aload_n 0, 1) := by decide +kernel
theorem dX10_lineOf_37 : decode cX10_lineOf 37 = .ok (.lload_n 2, 1) := by decide +kernel
theorem dX10_lineOf_38 : decode cX10_lineOf 38 = .ok (.iload 4, 2) := by decide +kernel
theorem dX10_lineOf_40 : decode cX10_lineOf 40 = .ok (.invokevirtual 239, 3) := by decide +kernel
theorem dX10_lineOf_43 : decode cX10_lineOf 43 = .ok (.ireturn, 1) := by decide +kernel
theorem dX10_lineOf_44 : decode cX10_lineOf 44 = .ok (.aload_n 0, 1) := by decide +kernel
theorem dX10_lineOf_45 : decode cX10_lineOf 45 = .ok (.lload_n 2, 1) := by decide +kernel
theorem dX10_lineOf_46 : decode cX10_lineOf 46 = .ok (.iload 4, 2) := by decide +kernel
theorem dX10_lineOf_48 : decode cX10_lineOf 48 = .ok (.invokevirtual 242, 3) := by decide +kernel
theorem dX10_lineOf_51 : decode cX10_lineOf 51 = .ok (.ireturn, 1) := by decide +kernel
theorem dX10_lineOf_52 : decode cX10_lineOf 52 = .ok (.aload_n 0, 1) := by decide +kernel
theorem dX10_lineOf_53 : decode cX10_lineOf 53 = .ok (.lload_n 2, 1) := by decide +kernel
theorem dX10_lineOf_54 : decode cX10_lineOf 54 = .ok (.iload 4, 2) := by decide +kernel
theorem dX10_lineOf_56 : decode cX10_lineOf 56 = .ok (.invokevirtual 245, 3) := by decide +kernel
theorem dX10_lineOf_59 : decode cX10_lineOf 59 = .ok (.ireturn, 1) := by decide +kernel
theorem dX10_lines_0 : decode cX10_lines 0 = .ok (.iconst 1, 1) := by decide +kernel
theorem dX10_lines_1 : decode cX10_lines 1 = .ok (.istore_n 2, 1) := by decide +kernel
theorem dX10_lines_2 : decode cX10_lines 2 = .ok (.iload_n 2, 1) := by decide +kernel
theorem dX10_lines_3 : decode cX10_lines 3 = .ok (.ifCond .eq 71, 3) := by decide +kernel
theorem dX10_lines_6 : decode cX10_lines 6 = .ok (.aload_n 0, 1) := by decide +kernel
theorem dX10_lines_7 : decode cX10_lines 7 = .ok (.getfield 121, 3) := by decide +kernel
theorem dX10_lines_10 : decode cX10_lines 10 = .ok (.ifCond .eq 64, 3) := by decide +kernel
theorem dX10_lines_13 : decode cX10_lines 13 = .ok (.aload_n 0, 1) := by decide +kernel
theorem dX10_lines_14 : decode cX10_lines 14 = .ok (.getfield 114, 3) := by decide +kernel
theorem dX10_lines_17 : decode cX10_lines 17 = .ok (.istore_n 3, 1) := by decide +kernel
theorem dX10_lines_18 : decode cX10_lines 18 = .ok (.aload_n 0, 1) := by decide +kernel
theorem dX10_lines_19 : decode cX10_lines 19 = .ok (.iconst 1, 1) := by decide +kernel
theorem dX10_lines_20 : decode cX10_lines 20 = .ok (.putfield 144, 3) := by decide +kernel
theorem dX10_lines_23 : decode cX10_lines 23 = .ok (.aload_n 0, 1) := by decide +kernel
theorem dX10_lines_24 : decode cX10_lines 24 = .ok (.iload_n 1, 1) := by decide +kernel
theorem dX10_lines_25 : decode cX10_lines 25 = .ok (.aload_n 0, 1) := by decide +kernel
theorem dX10_lines_26 : decode cX10_lines 26 = .ok (.getfield 121, 3) := by decide +kernel
theorem dX10_lines_29 : decode cX10_lines 29 = .ok (.iconst 2, 1) := by decide +kernel
theorem dX10_lines_30 : decode cX10_lines 30 = .ok (.if_icmp .ne 10, 3) := by decide +kernel
theorem dX10_lines_33 : decode cX10_lines 33 = .ok (.aload_n 0, 1) := by decide +kernel
theorem dX10_lines_34 : decode cX10_lines 34 = .ok (.getfield 117, 3) := by decide +kernel
theorem dX10_lines_37 : decode cX10_lines 37 = .ok (.goto 4, 3) := by decide +kernel
theorem dX10_lines_40 : decode cX10_lines 40 = .ok (.lconst 0, 1) := by decide +kernel
theorem dX10_lines_41 : decode cX10_lines 41 = .ok (.iload_n 3, 1) := by decide +kernel
theorem dX10_lines_42 : decode cX10_lines 42 = .ok (.invokevirtual 248, 3) := by decide +kernel
theorem dX10_lines_45 : decode cX10_lines 45 = .ok (.istore_n 2, 1) := by decide +kernel
theorem dX10_lines_46 : decode cX10_lines 46 = .ok (.iload_n 2, 1) := by decide +kernel
theorem dX10_lines_47 : decode cX10_lines 47 = .ok (.ifCond .eq 16, 3) := by decide +kernel
theorem dX10_lines_50 : decode cX10_lines 50 = .ok (.aload_n 0, 1) := by decide +kernel
theorem dX10_lines_51 : decode cX10_lines 51 = .ok (.getfield 121, 3) := by decide +kernel
theorem dX10_lines_54 : decode cX10_lines 54 = .ok (.iconst 4, 1) := by decide +kernel
theorem dX10_lines_55 : decode cX10_lines 55 = .ok (.if_icmp .eq 8, 3) := by decide +kernel
theorem dX10_lines_58 : decode cX10_lines 58 = .ok (.aload_n 0, 1) := by decide +kernel
theorem dX10_lines_59 : decode cX10_lines 59 = .ok (.invokevirtual 136, 3) := by decide +kernel
theorem dX10_lines_62 : decode cX10_lines 62 = .ok (.istore_n 2, 1) := by decide +kernel
theorem dX10_lines_63 : decode cX10_lines 63 = .ok (.iload_n 2, 1) := by decide +kernel
theorem dX10_lines_64 : decode cX10_lines 64 = .ok (.ifCond .eq 7, 3) := by decide +kernel
theorem dX10_lines_67 : decode cX10_lines 67 = .ok (.aload_n 0, 1) := by decide +kernel
theorem dX10_lines_68 : decode cX10_lines 68 = .ok (.invokevirtual 148, 3) := by decide +kernel
theorem dX10_lines_71 : decode cX10_lines 71 = .ok (.goto (-69), 3) := by decide +kernel
theorem dX10_lines_74 : decode cX10_lines 74 = .ok (.iload_n 2, 1) := by decide +kernel
theorem dX10_lines_75 : decode cX10_lines 75 = .ok (.ireturn, 1) := by decide +kernel
theorem dX10_readText_0 : decode cX10_readText 0 = .ok (.iconst 0, 1) := by decide +kernel
theorem dX10_readText_1 : decode cX10_readText 1 = .ok (.istore_n 2, 1) := by decide +kernel
theorem dX10_readText_2 : decode cX10_readText 2 = .ok (.iload_n 2, 1) := by decide +kernel
theorem dX10_readText_3 : decode cX10_readText 3 = .ok (.sipush 161, 3) := by decide +kernel
theorem dX10_readText_6 : decode cX10_readText 6 = .ok (.if_icmp .ge 16, 3) := by decide +kernel
theorem dX10_readText_9 : decode cX10_readText 9 = .ok (.aload_n 0, 1) := by decide +kernel
theorem dX10_readText_10 : decode cX10_readText 10 = .ok (.getfield 38, 3) := by decide +kernel
theorem dX10_readText_13 : decode cX10_readText 13 = .ok (.iload_n 2, 1) := by decide +kernel
theorem dX10_readText_14 : decode cX10_readText 14 = .ok (.iconst 0, 1) := by decide +kernel
theorem dX10_readText_15 : decode cX10_readText 15 = .ok (.iastore, 1) := by decide +kernel
theorem dX10_readText_16 : decode cX10_readText 16 = .ok (.iinc 2 1, 3) := by decide +kernel
theorem dX10_readText_19 : decode cX10_readText 19 = .ok (.goto (-17), 3) := by decide +kernel
theorem dX10_readText_22 : decode cX10_readText 22 = .ok (.aload_n 0, 1) := by decide +kernel
theorem dX10_readText_23 : decode cX10_readText 23 = .ok (.iconst (-1), 1) := by decide +kernel
theorem dX10_readText_24 : decode cX10_readText 24 = .ok (.putfield 155, 3) := by decide +kernel
theorem dX10_readText_27 : decode cX10_readText 27 = .ok (.aload_n 0, 1) := by decide +kernel
theorem dX10_readText_28 : decode cX10_readText 28 = .ok (.iconst (-1), 1) := by decide +kernel
theorem dX10_readText_29 : decode cX10_readText 29 = .ok (.putfield 162, 3) := by decide +kernel
theorem dX10_readText_32 : decode cX10_readText 32 = .ok (.aload_n 0, 1) := by decide +kernel
theorem dX10_readText_33 : decode cX10_readText 33 = .ok (.iconst 0, 1) := by decide +kernel
theorem dX10_readText_34 : decode cX10_readText 34 = .ok (.putfield 230, 3) := by decide +kernel
theorem dX10_readText_37 : decode cX10_readText 37 = .ok (.aload_n 0, 1) := by decide +kernel
theorem dX10_readText_38 : decode cX10_readText 38 = .ok (.iconst 0, 1) := by decide +kernel
theorem dX10_readText_39 : decode cX10_readText 39 = .ok (.putfield 104, 3) := by decide +kernel
theorem dX10_readText_42 : decode cX10_readText 42 = .ok (.aload_n 0, 1) := by decide +kernel
theorem dX10_readText_43 : decode cX10_readText 43 = .ok (.iconst 0, 1) := by decide +kernel
theorem dX10_readText_44 : decode cX10_readText 44 = .ok (.putfield 130, 3) := by decide +kernel
theorem dX10_readText_47 : decode cX10_readText 47 = .ok (.aload_n 0, 1) := by decide +kernel
theorem dX10_readText_48 : decode cX10_readText 48 = .ok (.invokevirtual 148, 3) := by decide +kernel
theorem dX10_readText_51 : decode cX10_readText 51 = .ok (.aload_n 0, 1) := by decide +kernel
theorem dX10_readText_52 : decode cX10_readText 52 = .ok (.iload_n 1, 1) := by decide +kernel
theorem dX10_readText_53 : decode cX10_readText 53 = .ok (.invokevirtual 252, 3) := by decide +kernel
theorem dX10_readText_56 : decode cX10_readText 56 = .ok (.istore_n 2, 1) := by decide +kernel
theorem dX10_readText_57 : decode cX10_readText 57 = .ok (.iload_n 2, 1) := by decide +kernel
theorem dX10_readText_58 : decode cX10_readText 58 = .ok (.ifCond .eq 49, 3) := by decide +kernel
theorem dX10_readText_61 : decode cX10_readText 61 = .ok (.iload_n 1, 1) := by decide +kernel
theorem dX10_readText_62 : decode cX10_readText 62 = .ok (.ifCond .ne 45, 3) := by decide +kernel
theorem dX10_readText_65 : decode cX10_readText 65 = .ok (.aload_n 0, 1) := by decide +kernel
theorem dX10_readText_66 : decode cX10_readText 66 = .ok (.getfield 130, 3) := by decide +kernel
theorem dX10_readText_69 : decode cX10_readText 69 = .ok (.ifCond .ne 38, 3) := by decide +kernel
theorem dX10_readText_72 : decode cX10_readText 72 = .ok (.aload_n 0, 1) := by decide +kernel
theorem dX10_readText_73 : decode cX10_readText 73 = .ok (.getfield 155, 3) := by decide +kernel
theorem dX10_readText_76 : decode cX10_readText 76 = .ok (.aload_n 0, 1) := by decide +kernel
theorem dX10_readText_77 : decode cX10_readText 77 = .ok (.getfield 38, 3) := by decide +kernel
theorem dX10_readText_80 : decode cX10_readText 80 = .ok (.iconst 0, 1) := by decide +kernel
theorem dX10_readText_81 : decode cX10_readText 81 = .ok (.iaload, 1) := by decide +kernel
theorem dX10_readText_82 : decode cX10_readText 82 = .ok (.if_icmp .ge 16, 3) := by decide +kernel
theorem dX10_readText_85 : decode cX10_readText 85 = .ok (.aload_n 0, 1) := by decide +kernel
theorem dX10_readText_86 : decode cX10_readText 86 = .ok (.getfield 162, 3) := by decide +kernel
theorem dX10_readText_89 : decode cX10_readText 89 = .ok (.aload_n 0, 1) := by decide +kernel
theorem dX10_readText_90 : decode cX10_readText 90 = .ok (.getfield 38, 3) := by decide +kernel
theorem dX10_readText_93 : decode cX10_readText 93 = .ok (.iconst 1, 1) := by decide +kernel
theorem dX10_readText_94 : decode cX10_readText 94 = .ok (.iaload, 1) := by decide +kernel
theorem dX10_readText_95 : decode cX10_readText 95 = .ok (.if_icmp .lt 12, 3) := by decide +kernel
theorem dX10_readText_98 : decode cX10_readText 98 = .ok (.aload_n 0, 1) := by decide +kernel
theorem dX10_readText_99 : decode cX10_readText 99 = .ok (.iconst 4, 1) := by decide +kernel
theorem dX10_readText_100 : decode cX10_readText 100 = .ok (.aload_n 0, 1) := by decide +kernel
theorem dX10_readText_101 : decode cX10_readText 101 = .ok (.getfield 114, 3) := by decide +kernel
theorem dX10_readText_104 : decode cX10_readText 104 = .ok (.invokevirtual 140, 3) := by decide +kernel
theorem dX10_readText_107 : decode cX10_readText 107 = .ok (.aload_n 0, 1) := by decide +kernel
theorem dX10_readText_108 : decode cX10_readText 108 = .ok (.getfield 17, 3) := by decide +kernel
theorem dX10_readText_111 : decode cX10_readText 111 = .ok (.iconst 0, 1) := by decide +kernel
theorem dX10_readText_112 : decode cX10_readText 112 = .ok (.iload_n 2, 1) := by decide +kernel
theorem dX10_readText_113 : decode cX10_readText 113 = .ok (.ifCond .eq 10, 3) := by decide +kernel
theorem dX10_readText_116 : decode cX10_readText 116 = .ok (.aload_n 0, 1) := by decide +kernel
theorem dX10_readText_117 : decode cX10_readText 117 = .ok (.getfield 130, 3) := by decide +kernel
theorem dX10_readText_120 : decode cX10_readText 120 = .ok (.goto 4, 3) := by decide +kernel
theorem dX10_readText_123 : decode cX10_readText 123 = .ok (.iconst 1, 1) := by decide +kernel
theorem dX10_readText_124 : decode cX10_readText 124 = .ok (.iastore, 1) := by decide +kernel
theorem dX10_readText_125 : decode cX10_readText 125 = .ok (.aload_n 0, 1) := by decide +kernel
theorem dX10_readText_126 : decode cX10_readText 126 = .ok (.getfield 20, 3) := by decide +kernel
theorem dX10_readText_129 : decode cX10_readText 129 = .ok (.iconst 0, 1) := by decide +kernel
theorem dX10_readText_130 : decode cX10_readText 130 = .ok (.iload_n 2, 1) := by decide +kernel
theorem dX10_readText_131 : decode cX10_readText 131 = .ok (.ifCond .ne 10, 3) := by decide +kernel
theorem dX10_readText_134 : decode cX10_readText 134 = .ok (.aload_n 0, 1) := by decide +kernel
theorem dX10_readText_135 : decode cX10_readText 135 = .ok (.getfield 127, 3) := by decide +kernel
theorem dX10_readText_138 : decode cX10_readText 138 = .ok (.goto 18, 3) := by decide +kernel
theorem dX10_readText_141 : decode cX10_readText 141 = .ok (.aload_n 0, 1) := by decide +kernel
theorem dX10_readText_142 : decode cX10_readText 142 = .ok (.getfield 130, 3) := by decide +kernel
theorem dX10_readText_145 : decode cX10_readText 145 = .ok (.ifCond .le 10, 3) := by decide +kernel
theorem dX10_readText_148 : decode cX10_readText 148 = .ok (.aload_n 0, 1) := by decide +kernel
theorem dX10_readText_149 : decode cX10_readText 149 = .ok (.getfield 133, 3) := by decide +kernel
theorem dX10_readText_152 : decode cX10_readText 152 = .ok (.goto 4, 3) := by decide +kernel
theorem dX10_readText_155 : decode cX10_readText 155 = .ok (.iconst (-1), 1) := by decide +kernel
theorem dX10_readText_156 : decode cX10_readText 156 = .ok (.iastore, 1) := by decide +kernel
theorem dX10_readText_157 : decode cX10_readText 157 = .ok (.aload_n 0, 1) := by decide +kernel
theorem dX10_readText_158 : decode cX10_readText 158 = .ok (.getfield 17, 3) := by decide +kernel
theorem dX10_readText_161 : decode cX10_readText 161 = .ok (.iconst 0, 1) := by decide +kernel
theorem dX10_readText_162 : decode cX10_readText 162 = .ok (.iaload, 1) := by decide +kernel
theorem dX10_readText_163 : decode cX10_readText 163 = .ok (.ifCond .ne 7, 3) := by decide +kernel
theorem dX10_readText_166 : decode cX10_readText 166 = .ok (.iconst 1, 1) := by decide +kernel
theorem dX10_readText_167 : decode cX10_readText 167 = .ok (.goto 4, 3) := by decide +kernel
theorem dX10_readText_170 : decode cX10_readText 170 = .ok (.iconst 0, 1) := by decide +kernel
theorem dX10_readText_171 : decode cX10_readText 171 = .ok (.ireturn, 1) := by decide +kernel
theorem dX10_store_0 : decode cX10_store 0 = .ok (.iconst 0, 1) := by decide +kernel
theorem dX10_store_1 : decode cX10_store 1 = .ok (.istore 4, 2) := by decide +kernel
theorem dX10_store_3 : decode cX10_store 3 = .ok (.iload 4, 2) := by decide +kernel
theorem dX10_store_5 : decode cX10_store 5 = .ok (.iload_n 2, 1) := by decide +kernel
theorem dX10_store_6 : decode cX10_store 6 = .ok (.if_icmp .ge 24, 3) := by decide +kernel
theorem dX10_store_9 : decode cX10_store 9 = .ok (.aload_n 1, 1) := by decide +kernel
theorem dX10_store_10 : decode cX10_store 10 = .ok (.iload_n 2, 1) := by decide +kernel
theorem dX10_store_11 : decode cX10_store 11 = .ok (.iload_n 3, 1) := by decide +kernel
theorem dX10_store_12 : decode cX10_store 12 = .ok (.imul, 1) := by decide +kernel
theorem dX10_store_13 : decode cX10_store 13 = .ok (.iload 4, 2) := by decide +kernel
theorem dX10_store_15 : decode cX10_store 15 = .ok (.iadd, 1) := by decide +kernel
theorem dX10_store_16 : decode cX10_store 16 = .ok (.aload_n 0, 1) := by decide +kernel
theorem dX10_store_17 : decode cX10_store 17 = .ok (.getfield 38, 3) := by decide +kernel
theorem dX10_store_20 : decode cX10_store 20 = .ok (.iload 4, 2) := by decide +kernel
theorem dX10_store_22 : decode cX10_store 22 = .ok (.iaload, 1) := by decide +kernel
theorem dX10_store_23 : decode cX10_store 23 = .ok (.iastore, 1) := by decide +kernel
theorem dX10_store_24 : decode cX10_store 24 = .ok (.iinc 4 1, 3) := by decide +kernel
theorem dX10_store_27 : decode cX10_store 27 = .ok (.goto (-24), 3) := by decide +kernel
theorem dX10_store_30 : decode cX10_store 30 = .ok (.return_, 1) := by decide +kernel
theorem dX10_storeAll_0 : decode cX10_storeAll 0 = .ok (.iload_n 1, 1) := by decide +kernel
theorem dX10_storeAll_1 : decode cX10_storeAll 1 = .ok (.tableswitch 64 0 2 #[27, 39, 52], 27) := by decide +kernel
theorem dX10_storeAll_28 : decode cX10_storeAll 28 = .ok (.aload_n 0, 1) := by decide +kernel
theorem dX10_storeAll_29 : decode cX10_storeAll 29 = .ok (.aload_n 0, 1) := by decide +kernel
theorem dX10_storeAll_30 : decode cX10_storeAll 30 = .ok (.getfield 26, 3) := by decide +kernel
theorem dX10_storeAll_33 : decode cX10_storeAll 33 = .ok (.bipush 71, 2) := by decide +kernel
theorem dX10_storeAll_35 : decode cX10_storeAll 35 = .ok (.iload_n 2, 1) := by decide +kernel
theorem dX10_storeAll_36 : decode cX10_storeAll 36 = .ok (.invokevirtual 255, 3) := by decide +kernel
theorem dX10_storeAll_39 : decode cX10_storeAll 39 = .ok (.return_, 1) := by decide +kernel
theorem dX10_storeAll_40 : decode cX10_storeAll 40 = .ok (.aload_n 0, 1) := by decide +kernel
theorem dX10_storeAll_41 : decode cX10_storeAll 41 = .ok (.aload_n 0, 1) := by decide +kernel
theorem dX10_storeAll_42 : decode cX10_storeAll 42 = .ok (.getfield 29, 3) := by decide +kernel
theorem dX10_storeAll_45 : decode cX10_storeAll 45 = .ok (.sipush 161, 3) := by decide +kernel
theorem dX10_storeAll_48 : decode cX10_storeAll 48 = .ok (.iload_n 2, 1) := by decide +kernel
theorem dX10_storeAll_49 : decode cX10_storeAll 49 = .ok (.invokevirtual 255, 3) := by decide +kernel
theorem dX10_storeAll_52 : decode cX10_storeAll 52 = .ok (.return_, 1) := by decide +kernel
theorem dX10_storeAll_53 : decode cX10_storeAll 53 = .ok (.aload_n 0, 1) := by decide +kernel
theorem dX10_storeAll_54 : decode cX10_storeAll 54 = .ok (.aload_n 0, 1) := by decide +kernel
theorem dX10_storeAll_55 : decode cX10_storeAll 55 = .ok (.getfield 32, 3) := by decide +kernel
theorem dX10_storeAll_58 : decode cX10_storeAll 58 = .ok (.bipush 25, 2) := by decide +kernel
theorem dX10_storeAll_60 : decode cX10_storeAll 60 = .ok (.iload_n 2, 1) := by decide +kernel
theorem dX10_storeAll_61 : decode cX10_storeAll 61 = .ok (.invokevirtual 255, 3) := by decide +kernel
theorem dX10_storeAll_64 : decode cX10_storeAll 64 = .ok (.return_, 1) := by decide +kernel
theorem dX10_storeAll_65 : decode cX10_storeAll 65 = .ok (.aload_n 0, 1) := by decide +kernel
theorem dX10_storeAll_66 : decode cX10_storeAll 66 = .ok (.aload_n 0, 1) := by decide +kernel
theorem dX10_storeAll_67 : decode cX10_storeAll 67 = .ok (.getfield 35, 3) := by decide +kernel
theorem dX10_storeAll_70 : decode cX10_storeAll 70 = .ok (.bipush 17, 2) := by decide +kernel
theorem dX10_storeAll_72 : decode cX10_storeAll 72 = .ok (.iload_n 2, 1) := by decide +kernel
theorem dX10_storeAll_73 : decode cX10_storeAll 73 = .ok (.invokevirtual 255, 3) := by decide +kernel
theorem dX10_storeAll_76 : decode cX10_storeAll 76 = .ok (.return_, 1) := by decide +kernel
theorem dX10_text_0 : decode cX10_text 0 = .ok (.aload_n 0, 1) := by decide +kernel
theorem dX10_text_1 : decode cX10_text 1 = .ok (.iconst 0, 1) := by decide +kernel
theorem dX10_text_2 : decode cX10_text 2 = .ok (.putfield 84, 3) := by decide +kernel
theorem dX10_text_5 : decode cX10_text 5 = .ok (.aload_n 0, 1) := by decide +kernel
theorem dX10_text_6 : decode cX10_text 6 = .ok (.aload_n 0, 1) := by decide +kernel
theorem dX10_text_7 : decode cX10_text 7 = .ok (.getfield 13, 3) := by decide +kernel
theorem dX10_text_10 : decode cX10_text 10 = .ok (.iconst 0, 1) := by decide +kernel
theorem dX10_text_11 : decode cX10_text 11 = .ok (.iaload, 1) := by decide +kernel
theorem dX10_text_12 : decode cX10_text 12 = .ok (.putfield 107, 3) := by decide +kernel
theorem dX10_text_15 : decode cX10_text 15 = .ok (.aload_n 0, 1) := by decide +kernel
theorem dX10_text_16 : decode cX10_text 16 = .ok (.getfield 13, 3) := by decide +kernel
theorem dX10_text_19 : decode cX10_text 19 = .ok (.iconst 0, 1) := by decide +kernel
theorem dX10_text_20 : decode cX10_text 20 = .ok (.iconst 0, 1) := by decide +kernel
theorem dX10_text_21 : decode cX10_text 21 = .ok (.iastore, 1) := by decide +kernel
theorem dX10_text_22 : decode cX10_text 22 = .ok (.aload_n 0, 1) := by decide +kernel
theorem dX10_text_23 : decode cX10_text 23 = .ok (.getfield 17, 3) := by decide +kernel
theorem dX10_text_26 : decode cX10_text 26 = .ok (.iconst 0, 1) := by decide +kernel
theorem dX10_text_27 : decode cX10_text 27 = .ok (.iconst 0, 1) := by decide +kernel
theorem dX10_text_28 : decode cX10_text 28 = .ok (.iastore, 1) := by decide +kernel
theorem dX10_text_29 : decode cX10_text 29 = .ok (.aload_n 0, 1) := by decide +kernel
theorem dX10_text_30 : decode cX10_text 30 = .ok (.getfield 20, 3) := by decide +kernel
theorem dX10_text_33 : decode cX10_text 33 = .ok (.iconst 0, 1) := by decide +kernel
theorem dX10_text_34 : decode cX10_text 34 = .ok (.iconst (-1), 1) := by decide +kernel
theorem dX10_text_35 : decode cX10_text 35 = .ok (.iastore, 1) := by decide +kernel
theorem dX10_text_36 : decode cX10_text 36 = .ok (.iload_n 1, 1) := by decide +kernel
theorem dX10_text_37 : decode cX10_text 37 = .ok (.iconst 0, 1) := by decide +kernel
theorem dX10_text_38 : decode cX10_text 38 = .ok (.iconst 3, 1) := by decide +kernel
theorem dX10_text_39 : decode cX10_text 39 = .ok (.invokestatic 96, 3) := by decide +kernel
theorem dX10_text_42 : decode cX10_text 42 = .ok (.ifCond .eq 30, 3) := by decide +kernel
theorem dX10_text_45 : decode cX10_text 45 = .ok (.iload_n 2, 1) := by decide +kernel
theorem dX10_text_46 : decode cX10_text 46 = .ok (.iconst (-1), 1) := by decide +kernel
theorem dX10_text_47 : decode cX10_text 47 = .ok (.if_icmp .ne 16, 3) := by decide +kernel
theorem dX10_text_50 : decode cX10_text 50 = .ok (.aload_n 0, 1) := by decide +kernel
theorem dX10_text_51 : decode cX10_text 51 = .ok (.getfield 23, 3) := by decide +kernel
theorem dX10_text_54 : decode cX10_text 54 = .ok (.iload_n 1, 1) := by decide +kernel
theorem dX10_text_55 : decode cX10_text 55 = .ok (.iaload, 1) := by decide +kernel
theorem dX10_text_56 : decode cX10_text 56 = .ok (.iconst 2, 1) := by decide +kernel
theorem dX10_text_57 : decode cX10_text 57 = .ok (.if_icmp .ne 18, 3) := by decide +kernel
theorem dX10_text_60 : decode cX10_text 60 = .ok (.goto 12, 3) := by decide +kernel
theorem dX10_text_63 : decode cX10_text 63 = .ok (.aload_n 0, 1) := by decide +kernel
theorem dX10_text_64 : decode cX10_text 64 = .ok (.iload_n 1, 1) := by decide +kernel
theorem dX10_text_65 : decode cX10_text 65 = .ok (.iload_n 2, 1) := by decide +kernel
theorem dX10_text_66 : decode cX10_text 66 = .ok (.invokevirtual 259, 3) := by decide +kernel
theorem dX10_text_69 : decode cX10_text 69 = .ok (.ifCond .ne 6, 3) := by decide +kernel
theorem dX10_text_72 : decode cX10_text 72 = .ok (.bipush (-2), 2) := by decide +kernel
theorem dX10_text_74 : decode cX10_text 74 = .ok (.ireturn, 1) := by decide +kernel
theorem dX10_text_75 : decode cX10_text 75 = .ok (.aload_n 0, 1) := by decide +kernel
theorem dX10_text_76 : decode cX10_text 76 = .ok (.iload_n 1, 1) := by decide +kernel
theorem dX10_text_77 : decode cX10_text 77 = .ok (.invokevirtual 262, 3) := by decide +kernel
theorem dX10_text_80 : decode cX10_text 80 = .ok (.ifCond .ne 5, 3) := by decide +kernel
theorem dX10_text_83 : decode cX10_text 83 = .ok (.iconst (-1), 1) := by decide +kernel
theorem dX10_text_84 : decode cX10_text 84 = .ok (.ireturn, 1) := by decide +kernel
theorem dX10_text_85 : decode cX10_text 85 = .ok (.iload_n 2, 1) := by decide +kernel
theorem dX10_text_86 : decode cX10_text 86 = .ok (.iconst (-1), 1) := by decide +kernel
theorem dX10_text_87 : decode cX10_text 87 = .ok (.if_icmp .ne 12, 3) := by decide +kernel
theorem dX10_text_90 : decode cX10_text 90 = .ok (.aload_n 0, 1) := by decide +kernel
theorem dX10_text_91 : decode cX10_text 91 = .ok (.getfield 23, 3) := by decide +kernel
theorem dX10_text_94 : decode cX10_text 94 = .ok (.iload_n 1, 1) := by decide +kernel
theorem dX10_text_95 : decode cX10_text 95 = .ok (.iaload, 1) := by decide +kernel
theorem dX10_text_96 : decode cX10_text 96 = .ok (.goto 4, 3) := by decide +kernel
theorem dX10_text_99 : decode cX10_text 99 = .ok (.iload_n 2, 1) := by decide +kernel
theorem dX10_text_100 : decode cX10_text 100 = .ok (.istore_n 3, 1) := by decide +kernel
theorem dX10_text_101 : decode cX10_text 101 = .ok (.aload_n 0, 1) := by decide +kernel
theorem dX10_text_102 : decode cX10_text 102 = .ok (.getfield 23, 3) := by decide +kernel
theorem dX10_text_105 : decode cX10_text 105 = .ok (.iload_n 1, 1) := by decide +kernel
theorem dX10_text_106 : decode cX10_text 106 = .ok (.dup2, 1) := by decide +kernel
theorem dX10_text_107 : decode cX10_text 107 = .ok (.iaload, 1) := by decide +kernel
theorem dX10_text_108 : decode cX10_text 108 = .ok (.iload_n 2, 1) := by decide +kernel
theorem dX10_text_109 : decode cX10_text 109 = .ok (.iconst (-1), 1) := by decide +kernel
theorem dX10_text_110 : decode cX10_text 110 = .ok (.if_icmp .ne 7, 3) := by decide +kernel
theorem dX10_text_113 : decode cX10_text 113 = .ok (.iconst 1, 1) := by decide +kernel
theorem dX10_text_114 : decode cX10_text 114 = .ok (.goto 4, 3) := by decide +kernel
theorem dX10_text_117 : decode cX10_text 117 = .ok (.iconst 0, 1) := by decide +kernel
theorem dX10_text_118 : decode cX10_text 118 = .ok (.iadd, 1) := by decide +kernel
theorem dX10_text_119 : decode cX10_text 119 = .ok (.iastore, 1) := by decide +kernel
theorem dX10_text_120 : decode cX10_text 120 = .ok (.aload_n 0, 1) := by decide +kernel
theorem dX10_text_121 : decode cX10_text 121 = .ok (.iload_n 1, 1) := by decide +kernel
theorem dX10_text_122 : decode cX10_text 122 = .ok (.iload_n 3, 1) := by decide +kernel
theorem dX10_text_123 : decode cX10_text 123 = .ok (.invokevirtual 265, 3) := by decide +kernel
theorem dX10_text_126 : decode cX10_text 126 = .ok (.iload_n 3, 1) := by decide +kernel
theorem dX10_text_127 : decode cX10_text 127 = .ok (.ireturn, 1) := by decide +kernel
theorem dX10_fault_0 : decode cX10_fault 0 = .ok (.aload_n 0, 1) := by decide +kernel
theorem dX10_fault_1 : decode cX10_fault 1 = .ok (.iconst 0, 1) := by decide +kernel
theorem dX10_fault_2 : decode cX10_fault 2 = .ok (.putfield 84, 3) := by decide +kernel
theorem dX10_fault_5 : decode cX10_fault 5 = .ok (.iload_n 1, 1) := by decide +kernel
theorem dX10_fault_6 : decode cX10_fault 6 = .ok (.ifCond .ne 12, 3) := by decide +kernel
theorem dX10_fault_9 : decode cX10_fault 9 = .ok (.aload_n 0, 1) := by decide +kernel
theorem dX10_fault_10 : decode cX10_fault 10 = .ok (.getfield 17, 3) := by decide +kernel
theorem dX10_fault_13 : decode cX10_fault 13 = .ok (.iconst 0, 1) := by decide +kernel
theorem dX10_fault_14 : decode cX10_fault 14 = .ok (.iaload, 1) := by decide +kernel
theorem dX10_fault_15 : decode cX10_fault 15 = .ok (.goto 18, 3) := by decide +kernel
theorem dX10_fault_18 : decode cX10_fault 18 = .ok (.iload_n 1, 1) := by decide +kernel
theorem dX10_fault_19 : decode cX10_fault 19 = .ok (.iconst 1, 1) := by decide +kernel
theorem dX10_fault_20 : decode cX10_fault 20 = .ok (.if_icmp .ne 12, 3) := by decide +kernel
theorem dX10_fault_23 : decode cX10_fault 23 = .ok (.aload_n 0, 1) := by decide +kernel
theorem dX10_fault_24 : decode cX10_fault 24 = .ok (.getfield 20, 3) := by decide +kernel
theorem dX10_fault_27 : decode cX10_fault 27 = .ok (.iconst 0, 1) := by decide +kernel
theorem dX10_fault_28 : decode cX10_fault 28 = .ok (.iaload, 1) := by decide +kernel
theorem dX10_fault_29 : decode cX10_fault 29 = .ok (.goto 4, 3) := by decide +kernel
theorem dX10_fault_32 : decode cX10_fault 32 = .ok (.iconst (-1), 1) := by decide +kernel
theorem dX10_fault_33 : decode cX10_fault 33 = .ok (.ireturn, 1) := by decide +kernel
theorem dX10_of_0 : decode cX10_of 0 = .ok (.aload_n 0, 1) := by decide +kernel
theorem dX10_of_1 : decode cX10_of 1 = .ok (.getfield 26, 3) := by decide +kernel
theorem dX10_of_4 : decode cX10_of 4 = .ok (.bipush 71, 2) := by decide +kernel
theorem dX10_of_6 : decode cX10_of 6 = .ok (.aload_n 0, 1) := by decide +kernel
theorem dX10_of_7 : decode cX10_of 7 = .ok (.getfield 268, 3) := by decide +kernel
theorem dX10_of_10 : decode cX10_of 10 = .ok (.imul, 1) := by decide +kernel
theorem dX10_of_11 : decode cX10_of 11 = .ok (.iload_n 1, 1) := by decide +kernel
theorem dX10_of_12 : decode cX10_of 12 = .ok (.iadd, 1) := by decide +kernel
theorem dX10_of_13 : decode cX10_of 13 = .ok (.iaload, 1) := by decide +kernel
theorem dX10_of_14 : decode cX10_of 14 = .ok (.ireturn, 1) := by decide +kernel
theorem dX10_hand_0 : decode cX10_hand 0 = .ok (.aload_n 0, 1) := by decide +kernel
theorem dX10_hand_1 : decode cX10_hand 1 = .ok (.iconst 0, 1) := by decide +kernel
theorem dX10_hand_2 : decode cX10_hand 2 = .ok (.iload_n 1, 1) := by decide +kernel
theorem dX10_hand_3 : decode cX10_hand 3 = .ok (.invokevirtual 259, 3) := by decide +kernel
theorem dX10_hand_6 : decode cX10_hand 6 = .ok (.ifCond .ne 5, 3) := by decide +kernel
theorem dX10_hand_9 : decode cX10_hand 9 = .ok (.iconst 0, 1) := by decide +kernel
theorem dX10_hand_10 : decode cX10_hand 10 = .ok (.ireturn, 1) := by decide +kernel
theorem dX10_hand_11 : decode cX10_hand 11 = .ok (.aload_n 0, 1) := by decide +kernel
theorem dX10_hand_12 : decode cX10_hand 12 = .ok (.iload_n 1, 1) := by decide +kernel
theorem dX10_hand_13 : decode cX10_hand 13 = .ok (.putfield 268, 3) := by decide +kernel
theorem dX10_hand_16 : decode cX10_hand 16 = .ok (.aload_n 0, 1) := by decide +kernel
theorem dX10_hand_17 : decode cX10_hand 17 = .ok (.aload_n 0, 1) := by decide +kernel
theorem dX10_hand_18 : decode cX10_hand 18 = .ok (.iconst 0, 1) := by decide +kernel
theorem dX10_hand_19 : decode cX10_hand 19 = .ok (.invokevirtual 271, 3) := by decide +kernel
theorem dX10_hand_22 : decode cX10_hand 22 = .ok (.putfield 275, 3) := by decide +kernel
theorem dX10_hand_25 : decode cX10_hand 25 = .ok (.aload_n 0, 1) := by decide +kernel
theorem dX10_hand_26 : decode cX10_hand 26 = .ok (.aload_n 0, 1) := by decide +kernel
theorem dX10_hand_27 : decode cX10_hand 27 = .ok (.iconst 1, 1) := by decide +kernel
theorem dX10_hand_28 : decode cX10_hand 28 = .ok (.invokevirtual 271, 3) := by decide +kernel
theorem dX10_hand_31 : decode cX10_hand 31 = .ok (.putfield 278, 3) := by decide +kernel
theorem dX10_hand_34 : decode cX10_hand 34 = .ok (.iconst 0, 1) := by decide +kernel
theorem dX10_hand_35 : decode cX10_hand 35 = .ok (.istore_n 2, 1) := by decide +kernel
theorem dX10_hand_36 : decode cX10_hand 36 = .ok (.iload_n 2, 1) := by decide +kernel
theorem dX10_hand_37 : decode cX10_hand 37 = .ok (.bipush 8, 2) := by decide +kernel
theorem dX10_hand_39 : decode cX10_hand 39 = .ok (.if_icmp .ge 23, 3) := by decide +kernel
theorem dX10_hand_42 : decode cX10_hand 42 = .ok (.aload_n 0, 1) := by decide +kernel
theorem dX10_hand_43 : decode cX10_hand 43 = .ok (.getfield 44, 3) := by decide +kernel
theorem dX10_hand_46 : decode cX10_hand 46 = .ok (.iload_n 2, 1) := by decide +kernel
theorem dX10_hand_47 : decode cX10_hand 47 = .ok (.aload_n 0, 1) := by decide +kernel
theorem dX10_hand_48 : decode cX10_hand 48 = .ok (.bipush 19, 2) := by decide +kernel
theorem dX10_hand_50 : decode cX10_hand 50 = .ok (.iload_n 2, 1) := by decide +kernel
theorem dX10_hand_51 : decode cX10_hand 51 = .ok (.iadd, 1) := by decide +kernel
theorem dX10_hand_52 : decode cX10_hand 52 = .ok (.invokevirtual 271, 3) := by decide +kernel
theorem dX10_hand_55 : decode cX10_hand 55 = .ok (.iastore, 1) := by decide +kernel
theorem dX10_hand_56 : decode cX10_hand 56 = .ok (.iinc 2 1, 3) := by decide +kernel
theorem dX10_hand_59 : decode cX10_hand 59 = .ok (.goto (-23), 3) := by decide +kernel
theorem dX10_hand_62 : decode cX10_hand 62 = .ok (.iconst 1, 1) := by decide +kernel
theorem dX10_hand_63 : decode cX10_hand 63 = .ok (.ireturn, 1) := by decide +kernel
theorem dX10_isPiece_0 : decode cX10_isPiece 0 = .ok (.iload_n 1, 1) := by decide +kernel
theorem dX10_isPiece_1 : decode cX10_isPiece 1 = .ok (.iconst 0, 1) := by decide +kernel
theorem dX10_isPiece_2 : decode cX10_isPiece 2 = .ok (.aload_n 0, 1) := by decide +kernel
theorem dX10_isPiece_3 : decode cX10_isPiece 3 = .ok (.getfield 275, 3) := by decide +kernel
theorem dX10_isPiece_6 : decode cX10_isPiece 6 = .ok (.iconst 1, 1) := by decide +kernel
theorem dX10_isPiece_7 : decode cX10_isPiece 7 = .ok (.isub, 1) := by decide +kernel
theorem dX10_isPiece_8 : decode cX10_isPiece 8 = .ok (.invokestatic 96, 3) := by decide +kernel
theorem dX10_isPiece_11 : decode cX10_isPiece 11 = .ok (.ireturn, 1) := by decide +kernel
theorem dX10_isSecret_0 : decode cX10_isSecret 0 = .ok (.iload_n 1, 1) := by decide +kernel
theorem dX10_isSecret_1 : decode cX10_isSecret 1 = .ok (.iconst 0, 1) := by decide +kernel
theorem dX10_isSecret_2 : decode cX10_isSecret 2 = .ok (.aload_n 0, 1) := by decide +kernel
theorem dX10_isSecret_3 : decode cX10_isSecret 3 = .ok (.getfield 278, 3) := by decide +kernel
theorem dX10_isSecret_6 : decode cX10_isSecret 6 = .ok (.iconst 1, 1) := by decide +kernel
theorem dX10_isSecret_7 : decode cX10_isSecret 7 = .ok (.isub, 1) := by decide +kernel
theorem dX10_isSecret_8 : decode cX10_isSecret 8 = .ok (.invokestatic 96, 3) := by decide +kernel
theorem dX10_isSecret_11 : decode cX10_isSecret 11 = .ok (.ireturn, 1) := by decide +kernel
theorem dX10_plain_0 : decode cX10_plain 0 = .ok (.aload_n 0, 1) := by decide +kernel
theorem dX10_plain_1 : decode cX10_plain 1 = .ok (.bipush 37, 2) := by decide +kernel
theorem dX10_plain_3 : decode cX10_plain 3 = .ok (.iload_n 1, 1) := by decide +kernel
theorem dX10_plain_4 : decode cX10_plain 4 = .ok (.iadd, 1) := by decide +kernel
theorem dX10_plain_5 : decode cX10_plain 5 = .ok (.invokevirtual 271, 3) := by decide +kernel
theorem dX10_plain_8 : decode cX10_plain 8 = .ok (.aload_n 0, 1) := by decide +kernel
theorem dX10_plain_9 : decode cX10_plain 9 = .ok (.bipush 27, 2) := by decide +kernel
theorem dX10_plain_11 : decode cX10_plain 11 = .ok (.iload_n 1, 1) := by decide +kernel
theorem dX10_plain_12 : decode cX10_plain 12 = .ok (.iadd, 1) := by decide +kernel
theorem dX10_plain_13 : decode cX10_plain 13 = .ok (.invokevirtual 271, 3) := by decide +kernel
theorem dX10_plain_16 : decode cX10_plain 16 = .ok (.aload_n 0, 1) := by decide +kernel
theorem dX10_plain_17 : decode cX10_plain 17 = .ok (.iconst 3, 1) := by decide +kernel
theorem dX10_plain_18 : decode cX10_plain 18 = .ok (.iload_n 2, 1) := by decide +kernel
theorem dX10_plain_19 : decode cX10_plain 19 = .ok (.iadd, 1) := by decide +kernel
theorem dX10_plain_20 : decode cX10_plain 20 = .ok (.invokevirtual 271, 3) := by decide +kernel
theorem dX10_plain_23 : decode cX10_plain 23 = .ok (.if_icmp .ne 7, 3) := by decide +kernel
theorem dX10_plain_26 : decode cX10_plain 26 = .ok (.iconst 2, 1) := by decide +kernel
theorem dX10_plain_27 : decode cX10_plain 27 = .ok (.goto 4, 3) := by decide +kernel
theorem dX10_plain_30 : decode cX10_plain 30 = .ok (.iconst 1, 1) := by decide +kernel
theorem dX10_plain_31 : decode cX10_plain 31 = .ok (.imul, 1) := by decide +kernel
theorem dX10_plain_32 : decode cX10_plain 32 = .ok (.ireturn, 1) := by decide +kernel
theorem dX10_worthNow_0 : decode cX10_worthNow 0 = .ok (.aload_n 0, 1) := by decide +kernel
theorem dX10_worthNow_1 : decode cX10_worthNow 1 = .ok (.getfield 44, 3) := by decide +kernel
theorem dX10_worthNow_4 : decode cX10_worthNow 4 = .ok (.iload_n 2, 1) := by decide +kernel
theorem dX10_worthNow_5 : decode cX10_worthNow 5 = .ok (.iaload, 1) := by decide +kernel
theorem dX10_worthNow_6 : decode cX10_worthNow 6 = .ok (.iload_n 1, 1) := by decide +kernel
theorem dX10_worthNow_7 : decode cX10_worthNow 7 = .ok (.invokestatic 88, 3) := by decide +kernel
theorem dX10_worthNow_10 : decode cX10_worthNow 10 = .ok (.ifCond .eq 14, 3) := by decide +kernel
theorem dX10_worthNow_13 : decode cX10_worthNow 13 = .ok (.aload_n 0, 1) := by decide +kernel
theorem dX10_worthNow_14 : decode cX10_worthNow 14 = .ok (.iload_n 1, 1) := by decide +kernel
theorem dX10_worthNow_15 : decode cX10_worthNow 15 = .ok (.iload_n 2, 1) := by decide +kernel
theorem dX10_worthNow_16 : decode cX10_worthNow 16 = .ok (.invokevirtual 281, 3) := by decide +kernel
theorem dX10_worthNow_19 : decode cX10_worthNow 19 = .ok (.iconst 2, 1) := by decide +kernel
theorem dX10_worthNow_20 : decode cX10_worthNow 20 = .ok (.idiv, 1) := by decide +kernel
theorem dX10_worthNow_21 : decode cX10_worthNow 21 = .ok (.goto 9, 3) := by decide +kernel
theorem dX10_worthNow_24 : decode cX10_worthNow 24 = .ok (.aload_n 0, 1) := by decide +kernel
theorem dX10_worthNow_25 : decode cX10_worthNow 25 = .ok (.iload_n 1, 1) := by decide +kernel
theorem dX10_worthNow_26 : decode cX10_worthNow 26 = .ok (.iload_n 2, 1) := by decide +kernel
theorem dX10_worthNow_27 : decode cX10_worthNow 27 = .ok (.invokevirtual 281, 3) := by decide +kernel
theorem dX10_worthNow_30 : decode cX10_worthNow 30 = .ok (.ireturn, 1) := by decide +kernel
theorem dX10_lastsFor_0 : decode cX10_lastsFor 0 = .ok (.iload_n 1, 1) := by decide +kernel
theorem dX10_lastsFor_1 : decode cX10_lastsFor 1 = .ok (.ifCond .ne 7, 3) := by decide +kernel
theorem dX10_lastsFor_4 : decode cX10_lastsFor 4 = .ok (.iconst 0, 1) := by decide +kernel
theorem dX10_lastsFor_5 : decode cX10_lastsFor 5 = .ok (.goto 24, 3) := by decide +kernel
theorem dX10_lastsFor_8 : decode cX10_lastsFor 8 = .ok (.iload_n 2, 1) := by decide +kernel
theorem dX10_lastsFor_9 : decode cX10_lastsFor 9 = .ok (.ifCond .ne 8, 3) := by decide +kernel
theorem dX10_lastsFor_12 : decode cX10_lastsFor 12 = .ok (.bipush 60, 2) := by decide +kernel
theorem dX10_lastsFor_14 : decode cX10_lastsFor 14 = .ok (.goto 15, 3) := by decide +kernel
theorem dX10_lastsFor_17 : decode cX10_lastsFor 17 = .ok (.bipush 60, 2) := by decide +kernel
theorem dX10_lastsFor_19 : decode cX10_lastsFor 19 = .ok (.iload_n 1, 1) := by decide +kernel
theorem dX10_lastsFor_20 : decode cX10_lastsFor 20 = .ok (.iload_n 2, 1) := by decide +kernel
theorem dX10_lastsFor_21 : decode cX10_lastsFor 21 = .ok (.iadd, 1) := by decide +kernel
theorem dX10_lastsFor_22 : decode cX10_lastsFor 22 = .ok (.iconst 1, 1) := by decide +kernel
theorem dX10_lastsFor_23 : decode cX10_lastsFor 23 = .ok (.isub, 1) := by decide +kernel
theorem dX10_lastsFor_24 : decode cX10_lastsFor 24 = .ok (.iload_n 2, 1) := by decide +kernel
theorem dX10_lastsFor_25 : decode cX10_lastsFor 25 = .ok (.idiv, 1) := by decide +kernel
theorem dX10_lastsFor_26 : decode cX10_lastsFor 26 = .ok (.invokestatic 284, 3) := by decide +kernel
theorem dX10_lastsFor_29 : decode cX10_lastsFor 29 = .ok (.ireturn, 1) := by decide +kernel
theorem dX10_wear_0 : decode cX10_wear 0 = .ok (.aload_n 0, 1) := by decide +kernel
theorem dX10_wear_1 : decode cX10_wear 1 = .ok (.bipush 11, 2) := by decide +kernel
theorem dX10_wear_3 : decode cX10_wear 3 = .ok (.iload_n 1, 1) := by decide +kernel
theorem dX10_wear_4 : decode cX10_wear 4 = .ok (.iadd, 1) := by decide +kernel
theorem dX10_wear_5 : decode cX10_wear 5 = .ok (.invokevirtual 271, 3) := by decide +kernel
theorem dX10_wear_8 : decode cX10_wear 8 = .ok (.ireturn, 1) := by decide +kernel
theorem dX10_house_0 : decode cX10_house 0 = .ok (.aload_n 0, 1) := by decide +kernel
theorem dX10_house_1 : decode cX10_house 1 = .ok (.iconst 0, 1) := by decide +kernel
theorem dX10_house_2 : decode cX10_house 2 = .ok (.putfield 84, 3) := by decide +kernel
theorem dX10_house_5 : decode cX10_house 5 = .ok (.aload_n 0, 1) := by decide +kernel
theorem dX10_house_6 : decode cX10_house 6 = .ok (.iload_n 1, 1) := by decide +kernel
theorem dX10_house_7 : decode cX10_house 7 = .ok (.invokevirtual 287, 3) := by decide +kernel
theorem dX10_house_10 : decode cX10_house 10 = .ok (.ifCond .ne 5, 3) := by decide +kernel
theorem dX10_house_13 : decode cX10_house 13 = .ok (.iconst (-1), 1) := by decide +kernel
theorem dX10_house_14 : decode cX10_house 14 = .ok (.ireturn, 1) := by decide +kernel
theorem dX10_house_15 : decode cX10_house 15 = .ok (.iload_n 2, 1) := by decide +kernel
theorem dX10_house_16 : decode cX10_house 16 = .ok (.bipush 10, 2) := by decide +kernel
theorem dX10_house_18 : decode cX10_house 18 = .ok (.irem, 1) := by decide +kernel
theorem dX10_house_19 : decode cX10_house 19 = .ok (.istore_n 3, 1) := by decide +kernel
theorem dX10_house_20 : decode cX10_house 20 = .ok (.iload_n 2, 1) := by decide +kernel
theorem dX10_house_21 : decode cX10_house 21 = .ok (.bipush 10, 2) := by decide +kernel
theorem dX10_house_23 : decode cX10_house 23 = .ok (.idiv, 1) := by decide +kernel
theorem dX10_house_24 : decode cX10_house 24 = .ok (.tableswitch 166 0 8 #[52, 71, 71, 71, 101, 101, 133, 133, 133], 52) := by decide +kernel
theorem dX10_house_76 : decode cX10_house 76 = .ok (.iload_n 2, 1) := by decide +kernel
theorem dX10_house_77 : decode cX10_house 77 = .ok (.iconst 0, 1) := by decide +kernel
theorem dX10_house_78 : decode cX10_house 78 = .ok (.iconst 2, 1) := by decide +kernel
theorem dX10_house_79 : decode cX10_house 79 = .ok (.invokestatic 96, 3) := by decide +kernel
theorem dX10_house_82 : decode cX10_house 82 = .ok (.ifCond .eq 11, 3) := by decide +kernel
theorem dX10_house_85 : decode cX10_house 85 = .ok (.aload_n 0, 1) := by decide +kernel
theorem dX10_house_86 : decode cX10_house 86 = .ok (.iload_n 2, 1) := by decide +kernel
theorem dX10_house_87 : decode cX10_house 87 = .ok (.invokevirtual 271, 3) := by decide +kernel
theorem dX10_house_90 : decode cX10_house 90 = .ok (.goto 4, 3) := by decide +kernel
theorem dX10_house_93 : decode cX10_house 93 = .ok (.iconst (-1), 1) := by decide +kernel
theorem dX10_house_94 : decode cX10_house 94 = .ok (.ireturn, 1) := by decide +kernel
theorem dX10_house_95 : decode cX10_house 95 = .ok (.iload_n 3, 1) := by decide +kernel
theorem dX10_house_96 : decode cX10_house 96 = .ok (.aload_n 0, 1) := by decide +kernel
theorem dX10_house_97 : decode cX10_house 97 = .ok (.getfield 275, 3) := by decide +kernel
theorem dX10_house_100 : decode cX10_house 100 = .ok (.if_icmp .ge 23, 3) := by decide +kernel
theorem dX10_house_103 : decode cX10_house 103 = .ok (.aload_n 0, 1) := by decide +kernel
theorem dX10_house_104 : decode cX10_house 104 = .ok (.iconst 3, 1) := by decide +kernel
theorem dX10_house_105 : decode cX10_house 105 = .ok (.bipush 8, 2) := by decide +kernel
theorem dX10_house_107 : decode cX10_house 107 = .ok (.iload_n 2, 1) := by decide +kernel
theorem dX10_house_108 : decode cX10_house 108 = .ok (.bipush 10, 2) := by decide +kernel
theorem dX10_house_110 : decode cX10_house 110 = .ok (.idiv, 1) := by decide +kernel
theorem dX10_house_111 : decode cX10_house 111 = .ok (.iconst 1, 1) := by decide +kernel
theorem dX10_house_112 : decode cX10_house 112 = .ok (.isub, 1) := by decide +kernel
theorem dX10_house_113 : decode cX10_house 113 = .ok (.imul, 1) := by decide +kernel
theorem dX10_house_114 : decode cX10_house 114 = .ok (.iadd, 1) := by decide +kernel
theorem dX10_house_115 : decode cX10_house 115 = .ok (.iload_n 3, 1) := by decide +kernel
theorem dX10_house_116 : decode cX10_house 116 = .ok (.iadd, 1) := by decide +kernel
theorem dX10_house_117 : decode cX10_house 117 = .ok (.invokevirtual 271, 3) := by decide +kernel
theorem dX10_house_120 : decode cX10_house 120 = .ok (.goto 4, 3) := by decide +kernel
theorem dX10_house_123 : decode cX10_house 123 = .ok (.iconst (-1), 1) := by decide +kernel
theorem dX10_house_124 : decode cX10_house 124 = .ok (.ireturn, 1) := by decide +kernel
theorem dX10_house_125 : decode cX10_house 125 = .ok (.iload_n 3, 1) := by decide +kernel
theorem dX10_house_126 : decode cX10_house 126 = .ok (.aload_n 0, 1) := by decide +kernel
theorem dX10_house_127 : decode cX10_house 127 = .ok (.getfield 278, 3) := by decide +kernel
theorem dX10_house_130 : decode cX10_house 130 = .ok (.if_icmp .ge 25, 3) := by decide +kernel
theorem dX10_house_133 : decode cX10_house 133 = .ok (.aload_n 0, 1) := by decide +kernel
theorem dX10_house_134 : decode cX10_house 134 = .ok (.iload_n 2, 1) := by decide +kernel
theorem dX10_house_135 : decode cX10_house 135 = .ok (.bipush 50, 2) := by decide +kernel
theorem dX10_house_137 : decode cX10_house 137 = .ok (.if_icmp .ge 8, 3) := by decide +kernel
theorem dX10_house_140 : decode cX10_house 140 = .ok (.bipush 27, 2) := by decide +kernel
theorem dX10_house_142 : decode cX10_house 142 = .ok (.goto 5, 3) := by decide +kernel
theorem dX10_house_145 : decode cX10_house 145 = .ok (.bipush 37, 2) := by decide +kernel
theorem dX10_house_147 : decode cX10_house 147 = .ok (.iload_n 3, 1) := by decide +kernel
theorem dX10_house_148 : decode cX10_house 148 = .ok (.iadd, 1) := by decide +kernel
theorem dX10_house_149 : decode cX10_house 149 = .ok (.invokevirtual 271, 3) := by decide +kernel
theorem dX10_house_152 : decode cX10_house 152 = .ok (.goto 4, 3) := by decide +kernel
theorem dX10_house_155 : decode cX10_house 155 = .ok (.iconst (-1), 1) := by decide +kernel
theorem dX10_house_156 : decode cX10_house 156 = .ok (.ireturn, 1) := by decide +kernel
theorem dX10_house_157 : decode cX10_house 157 = .ok (.iload_n 3, 1) := by decide +kernel
theorem dX10_house_158 : decode cX10_house 158 = .ok (.aload_n 0, 1) := by decide +kernel
theorem dX10_house_159 : decode cX10_house 159 = .ok (.iconst 2, 1) := by decide +kernel
theorem dX10_house_160 : decode cX10_house 160 = .ok (.invokevirtual 271, 3) := by decide +kernel
theorem dX10_house_163 : decode cX10_house 163 = .ok (.if_icmp .ge 25, 3) := by decide +kernel
theorem dX10_house_166 : decode cX10_house 166 = .ok (.aload_n 0, 1) := by decide +kernel
theorem dX10_house_167 : decode cX10_house 167 = .ok (.bipush 47, 2) := by decide +kernel
theorem dX10_house_169 : decode cX10_house 169 = .ok (.bipush 8, 2) := by decide +kernel
theorem dX10_house_171 : decode cX10_house 171 = .ok (.iload_n 2, 1) := by decide +kernel
theorem dX10_house_172 : decode cX10_house 172 = .ok (.bipush 10, 2) := by decide +kernel
theorem dX10_house_174 : decode cX10_house 174 = .ok (.idiv, 1) := by decide +kernel
theorem dX10_house_175 : decode cX10_house 175 = .ok (.bipush 6, 2) := by decide +kernel
theorem dX10_house_177 : decode cX10_house 177 = .ok (.isub, 1) := by decide +kernel
theorem dX10_house_178 : decode cX10_house 178 = .ok (.imul, 1) := by decide +kernel
theorem dX10_house_179 : decode cX10_house 179 = .ok (.iadd, 1) := by decide +kernel
theorem dX10_house_180 : decode cX10_house 180 = .ok (.iload_n 3, 1) := by decide +kernel
theorem dX10_house_181 : decode cX10_house 181 = .ok (.iadd, 1) := by decide +kernel
theorem dX10_house_182 : decode cX10_house 182 = .ok (.invokevirtual 271, 3) := by decide +kernel
theorem dX10_house_185 : decode cX10_house 185 = .ok (.goto 4, 3) := by decide +kernel
theorem dX10_house_188 : decode cX10_house 188 = .ok (.iconst (-1), 1) := by decide +kernel
theorem dX10_house_189 : decode cX10_house 189 = .ok (.ireturn, 1) := by decide +kernel
theorem dX10_house_190 : decode cX10_house 190 = .ok (.iconst (-1), 1) := by decide +kernel
theorem dX10_house_191 : decode cX10_house 191 = .ok (.ireturn, 1) := by decide +kernel
theorem dX10_worth_0 : decode cX10_worth 0 = .ok (.aload_n 0, 1) := by decide +kernel
theorem dX10_worth_1 : decode cX10_worth 1 = .ok (.iconst 0, 1) := by decide +kernel
theorem dX10_worth_2 : decode cX10_worth 2 = .ok (.putfield 84, 3) := by decide +kernel
theorem dX10_worth_5 : decode cX10_worth 5 = .ok (.aload_n 0, 1) := by decide +kernel
theorem dX10_worth_6 : decode cX10_worth 6 = .ok (.iload_n 1, 1) := by decide +kernel
theorem dX10_worth_7 : decode cX10_worth 7 = .ok (.invokevirtual 287, 3) := by decide +kernel
theorem dX10_worth_10 : decode cX10_worth 10 = .ok (.ifCond .eq 28, 3) := by decide +kernel
theorem dX10_worth_13 : decode cX10_worth 13 = .ok (.aload_n 0, 1) := by decide +kernel
theorem dX10_worth_14 : decode cX10_worth 14 = .ok (.iload_n 2, 1) := by decide +kernel
theorem dX10_worth_15 : decode cX10_worth 15 = .ok (.invokevirtual 290, 3) := by decide +kernel
theorem dX10_worth_18 : decode cX10_worth 18 = .ok (.ifCond .eq 20, 3) := by decide +kernel
theorem dX10_worth_21 : decode cX10_worth 21 = .ok (.aload_n 0, 1) := by decide +kernel
theorem dX10_worth_22 : decode cX10_worth 22 = .ok (.iload_n 3, 1) := by decide +kernel
theorem dX10_worth_23 : decode cX10_worth 23 = .ok (.invokevirtual 293, 3) := by decide +kernel
theorem dX10_worth_26 : decode cX10_worth 26 = .ok (.ifCond .eq 12, 3) := by decide +kernel
theorem dX10_worth_29 : decode cX10_worth 29 = .ok (.aload_n 0, 1) := by decide +kernel
theorem dX10_worth_30 : decode cX10_worth 30 = .ok (.iload_n 2, 1) := by decide +kernel
theorem dX10_worth_31 : decode cX10_worth 31 = .ok (.iload_n 3, 1) := by decide +kernel
theorem dX10_worth_32 : decode cX10_worth 32 = .ok (.invokevirtual 296, 3) := by decide +kernel
theorem dX10_worth_35 : decode cX10_worth 35 = .ok (.goto 4, 3) := by decide +kernel
theorem dX10_worth_38 : decode cX10_worth 38 = .ok (.iconst (-1), 1) := by decide +kernel
theorem dX10_worth_39 : decode cX10_worth 39 = .ok (.ireturn, 1) := by decide +kernel
theorem dX10_deeds_0 : decode cX10_deeds 0 = .ok (.aload_n 0, 1) := by decide +kernel
theorem dX10_deeds_1 : decode cX10_deeds 1 = .ok (.getfield 29, 3) := by decide +kernel
theorem dX10_deeds_4 : decode cX10_deeds 4 = .ok (.sipush 161, 3) := by decide +kernel
theorem dX10_deeds_7 : decode cX10_deeds 7 = .ok (.aload_n 0, 1) := by decide +kernel
theorem dX10_deeds_8 : decode cX10_deeds 8 = .ok (.getfield 299, 3) := by decide +kernel
theorem dX10_deeds_11 : decode cX10_deeds 11 = .ok (.imul, 1) := by decide +kernel
theorem dX10_deeds_12 : decode cX10_deeds 12 = .ok (.iaload, 1) := by decide +kernel
theorem dX10_deeds_13 : decode cX10_deeds 13 = .ok (.ireturn, 1) := by decide +kernel
theorem dX10_deedOf_0 : decode cX10_deedOf 0 = .ok (.aload_n 0, 1) := by decide +kernel
theorem dX10_deedOf_1 : decode cX10_deedOf 1 = .ok (.getfield 29, 3) := by decide +kernel
theorem dX10_deedOf_4 : decode cX10_deedOf 4 = .ok (.sipush 161, 3) := by decide +kernel
theorem dX10_deedOf_7 : decode cX10_deedOf 7 = .ok (.aload_n 0, 1) := by decide +kernel
theorem dX10_deedOf_8 : decode cX10_deedOf 8 = .ok (.getfield 299, 3) := by decide +kernel
theorem dX10_deedOf_11 : decode cX10_deedOf 11 = .ok (.imul, 1) := by decide +kernel
theorem dX10_deedOf_12 : decode cX10_deedOf 12 = .ok (.iconst 1, 1) := by decide +kernel
theorem dX10_deedOf_13 : decode cX10_deedOf 13 = .ok (.iadd, 1) := by decide +kernel
theorem dX10_deedOf_14 : decode cX10_deedOf 14 = .ok (.iconst 4, 1) := by decide +kernel
theorem dX10_deedOf_15 : decode cX10_deedOf 15 = .ok (.iload_n 1, 1) := by decide +kernel
theorem dX10_deedOf_16 : decode cX10_deedOf 16 = .ok (.imul, 1) := by decide +kernel
theorem dX10_deedOf_17 : decode cX10_deedOf 17 = .ok (.iadd, 1) := by decide +kernel
theorem dX10_deedOf_18 : decode cX10_deedOf 18 = .ok (.iload_n 2, 1) := by decide +kernel
theorem dX10_deedOf_19 : decode cX10_deedOf 19 = .ok (.iadd, 1) := by decide +kernel
theorem dX10_deedOf_20 : decode cX10_deedOf 20 = .ok (.iaload, 1) := by decide +kernel
theorem dX10_deedOf_21 : decode cX10_deedOf 21 = .ok (.ireturn, 1) := by decide +kernel
theorem dX10_hasMonth_0 : decode cX10_hasMonth 0 = .ok (.aload_n 0, 1) := by decide +kernel
theorem dX10_hasMonth_1 : decode cX10_hasMonth 1 = .ok (.iload_n 1, 1) := by decide +kernel
theorem dX10_hasMonth_2 : decode cX10_hasMonth 2 = .ok (.putfield 299, 3) := by decide +kernel
theorem dX10_hasMonth_5 : decode cX10_hasMonth 5 = .ok (.aload_n 0, 1) := by decide +kernel
theorem dX10_hasMonth_6 : decode cX10_hasMonth 6 = .ok (.iconst 1, 1) := by decide +kernel
theorem dX10_hasMonth_7 : decode cX10_hasMonth 7 = .ok (.iload_n 1, 1) := by decide +kernel
theorem dX10_hasMonth_8 : decode cX10_hasMonth 8 = .ok (.invokevirtual 259, 3) := by decide +kernel
theorem dX10_hasMonth_11 : decode cX10_hasMonth 11 = .ok (.ireturn, 1) := by decide +kernel
theorem dX10_deed_0 : decode cX10_deed 0 = .ok (.aload_n 0, 1) := by decide +kernel
theorem dX10_deed_1 : decode cX10_deed 1 = .ok (.iconst 0, 1) := by decide +kernel
theorem dX10_deed_2 : decode cX10_deed 2 = .ok (.putfield 84, 3) := by decide +kernel
theorem dX10_deed_5 : decode cX10_deed 5 = .ok (.aload_n 0, 1) := by decide +kernel
theorem dX10_deed_6 : decode cX10_deed 6 = .ok (.iload_n 1, 1) := by decide +kernel
theorem dX10_deed_7 : decode cX10_deed 7 = .ok (.invokevirtual 302, 3) := by decide +kernel
theorem dX10_deed_10 : decode cX10_deed 10 = .ok (.ifCond .ne 6, 3) := by decide +kernel
theorem dX10_deed_13 : decode cX10_deed 13 = .ok (.bipush (-2), 2) := by decide +kernel
theorem dX10_deed_15 : decode cX10_deed 15 = .ok (.ireturn, 1) := by decide +kernel
theorem dX10_deed_16 : decode cX10_deed 16 = .ok (.iload_n 2, 1) := by decide +kernel
theorem dX10_deed_17 : decode cX10_deed 17 = .ok (.iconst (-1), 1) := by decide +kernel
theorem dX10_deed_18 : decode cX10_deed 18 = .ok (.if_icmp .ne 17, 3) := by decide +kernel
theorem dX10_deed_21 : decode cX10_deed 21 = .ok (.iload_n 3, 1) := by decide +kernel
theorem dX10_deed_22 : decode cX10_deed 22 = .ok (.ifCond .ne 10, 3) := by decide +kernel
theorem dX10_deed_25 : decode cX10_deed 25 = .ok (.aload_n 0, 1) := by decide +kernel
theorem dX10_deed_26 : decode cX10_deed 26 = .ok (.invokevirtual 305, 3) := by decide +kernel
theorem dX10_deed_29 : decode cX10_deed 29 = .ok (.goto 5, 3) := by decide +kernel
theorem dX10_deed_32 : decode cX10_deed 32 = .ok (.bipush (-2), 2) := by decide +kernel
theorem dX10_deed_34 : decode cX10_deed 34 = .ok (.ireturn, 1) := by decide +kernel
theorem dX10_deed_35 : decode cX10_deed 35 = .ok (.iload_n 2, 1) := by decide +kernel
theorem dX10_deed_36 : decode cX10_deed 36 = .ok (.iconst 0, 1) := by decide +kernel
theorem dX10_deed_37 : decode cX10_deed 37 = .ok (.aload_n 0, 1) := by decide +kernel
theorem dX10_deed_38 : decode cX10_deed 38 = .ok (.invokevirtual 305, 3) := by decide +kernel
theorem dX10_deed_41 : decode cX10_deed 41 = .ok (.iconst 1, 1) := by decide +kernel
theorem dX10_deed_42 : decode cX10_deed 42 = .ok (.isub, 1) := by decide +kernel
theorem dX10_deed_43 : decode cX10_deed 43 = .ok (.invokestatic 96, 3) := by decide +kernel
theorem dX10_deed_46 : decode cX10_deed 46 = .ok (.ifCond .eq 21, 3) := by decide +kernel
theorem dX10_deed_49 : decode cX10_deed 49 = .ok (.iload_n 3, 1) := by decide +kernel
theorem dX10_deed_50 : decode cX10_deed 50 = .ok (.iconst 0, 1) := by decide +kernel
theorem dX10_deed_51 : decode cX10_deed 51 = .ok (.iconst 3, 1) := by decide +kernel
theorem dX10_deed_52 : decode cX10_deed 52 = .ok (.invokestatic 96, 3) := by decide +kernel
theorem dX10_deed_55 : decode cX10_deed 55 = .ok (.ifCond .eq 12, 3) := by decide +kernel
theorem dX10_deed_58 : decode cX10_deed 58 = .ok (.aload_n 0, 1) := by decide +kernel
theorem dX10_deed_59 : decode cX10_deed 59 = .ok (.iload_n 2, 1) := by decide +kernel
theorem dX10_deed_60 : decode cX10_deed 60 = .ok (.iload_n 3, 1) := by decide +kernel
theorem dX10_deed_61 : decode cX10_deed 61 = .ok (.invokevirtual 308, 3) := by decide +kernel
theorem dX10_deed_64 : decode cX10_deed 64 = .ok (.goto 5, 3) := by decide +kernel
theorem dX10_deed_67 : decode cX10_deed 67 = .ok (.bipush (-2), 2) := by decide +kernel
theorem dX10_deed_69 : decode cX10_deed 69 = .ok (.ireturn, 1) := by decide +kernel
theorem dX10_begin_0 : decode cX10_begin 0 = .ok (.aload_n 0, 1) := by decide +kernel
theorem dX10_begin_1 : decode cX10_begin 1 = .ok (.iconst 0, 1) := by decide +kernel
theorem dX10_begin_2 : decode cX10_begin 2 = .ok (.putfield 311, 3) := by decide +kernel
theorem dX10_begin_5 : decode cX10_begin 5 = .ok (.aload_n 0, 1) := by decide +kernel
theorem dX10_begin_6 : decode cX10_begin 6 = .ok (.iconst 0, 1) := by decide +kernel
theorem dX10_begin_7 : decode cX10_begin 7 = .ok (.putfield 314, 3) := by decide +kernel
theorem dX10_begin_10 : decode cX10_begin 10 = .ok (.aload_n 0, 1) := by decide +kernel
theorem dX10_begin_11 : decode cX10_begin 11 = .ok (.iconst 0, 1) := by decide +kernel
theorem dX10_begin_12 : decode cX10_begin 12 = .ok (.putfield 317, 3) := by decide +kernel
theorem dX10_begin_15 : decode cX10_begin 15 = .ok (.iconst 0, 1) := by decide +kernel
theorem dX10_begin_16 : decode cX10_begin 16 = .ok (.istore_n 1, 1) := by decide +kernel
theorem dX10_begin_17 : decode cX10_begin 17 = .ok (.iload_n 1, 1) := by decide +kernel
theorem dX10_begin_18 : decode cX10_begin 18 = .ok (.bipush 8, 2) := by decide +kernel
theorem dX10_begin_20 : decode cX10_begin 20 = .ok (.if_icmp .ge 23, 3) := by decide +kernel
theorem dX10_begin_23 : decode cX10_begin 23 = .ok (.aload_n 0, 1) := by decide +kernel
theorem dX10_begin_24 : decode cX10_begin 24 = .ok (.getfield 47, 3) := by decide +kernel
theorem dX10_begin_27 : decode cX10_begin 27 = .ok (.iload_n 1, 1) := by decide +kernel
theorem dX10_begin_28 : decode cX10_begin 28 = .ok (.iconst 0, 1) := by decide +kernel
theorem dX10_begin_29 : decode cX10_begin 29 = .ok (.iastore, 1) := by decide +kernel
theorem dX10_begin_30 : decode cX10_begin 30 = .ok (.aload_n 0, 1) := by decide +kernel
theorem dX10_begin_31 : decode cX10_begin 31 = .ok (.getfield 50, 3) := by decide +kernel
theorem dX10_begin_34 : decode cX10_begin 34 = .ok (.iload_n 1, 1) := by decide +kernel
theorem dX10_begin_35 : decode cX10_begin 35 = .ok (.iconst 0, 1) := by decide +kernel
theorem dX10_begin_36 : decode cX10_begin 36 = .ok (.iastore, 1) := by decide +kernel
theorem dX10_begin_37 : decode cX10_begin 37 = .ok (.iinc 1 1, 3) := by decide +kernel
theorem dX10_begin_40 : decode cX10_begin 40 = .ok (.goto (-23), 3) := by decide +kernel
theorem dX10_begin_43 : decode cX10_begin 43 = .ok (.return_, 1) := by decide +kernel
theorem dX10_isThere_0 : decode cX10_isThere 0 = .ok (.aload_n 0, 1) := by decide +kernel
theorem dX10_isThere_1 : decode cX10_isThere 1 = .ok (.iload_n 1, 1) := by decide +kernel
theorem dX10_isThere_2 : decode cX10_isThere 2 = .ok (.invokevirtual 293, 3) := by decide +kernel
theorem dX10_isThere_5 : decode cX10_isThere 5 = .ok (.ifCond .eq 18, 3) := by decide +kernel
theorem dX10_isThere_8 : decode cX10_isThere 8 = .ok (.aload_n 0, 1) := by decide +kernel
theorem dX10_isThere_9 : decode cX10_isThere 9 = .ok (.getfield 314, 3) := by decide +kernel
theorem dX10_isThere_12 : decode cX10_isThere 12 = .ok (.iload_n 1, 1) := by decide +kernel
theorem dX10_isThere_13 : decode cX10_isThere 13 = .ok (.invokestatic 88, 3) := by decide +kernel
theorem dX10_isThere_16 : decode cX10_isThere 16 = .ok (.ifCond .ne 7, 3) := by decide +kernel
theorem dX10_isThere_19 : decode cX10_isThere 19 = .ok (.iconst 1, 1) := by decide +kernel
theorem dX10_isThere_20 : decode cX10_isThere 20 = .ok (.goto 4, 3) := by decide +kernel
theorem dX10_isThere_23 : decode cX10_isThere 23 = .ok (.iconst 0, 1) := by decide +kernel
theorem dX10_isThere_24 : decode cX10_isThere 24 = .ok (.ireturn, 1) := by decide +kernel
theorem dX10_tells_0 : decode cX10_tells 0 = .ok (.aload_n 0, 1) := by decide +kernel
theorem dX10_tells_1 : decode cX10_tells 1 = .ok (.iload_n 1, 1) := by decide +kernel
theorem dX10_tells_2 : decode cX10_tells 2 = .ok (.invokevirtual 290, 3) := by decide +kernel
theorem dX10_tells_5 : decode cX10_tells 5 = .ok (.ifCond .eq 11, 3) := by decide +kernel
theorem dX10_tells_8 : decode cX10_tells 8 = .ok (.aload_n 0, 1) := by decide +kernel
theorem dX10_tells_9 : decode cX10_tells 9 = .ok (.iload_n 2, 1) := by decide +kernel
theorem dX10_tells_10 : decode cX10_tells 10 = .ok (.invokevirtual 320, 3) := by decide +kernel
theorem dX10_tells_13 : decode cX10_tells 13 = .ok (.ifCond .ne 5, 3) := by decide +kernel
theorem dX10_tells_16 : decode cX10_tells 16 = .ok (.iconst 0, 1) := by decide +kernel
theorem dX10_tells_17 : decode cX10_tells 17 = .ok (.ireturn, 1) := by decide +kernel
theorem dX10_tells_18 : decode cX10_tells 18 = .ok (.iconst 0, 1) := by decide +kernel
theorem dX10_tells_19 : decode cX10_tells 19 = .ok (.istore_n 3, 1) := by decide +kernel
theorem dX10_tells_20 : decode cX10_tells 20 = .ok (.iload_n 3, 1) := by decide +kernel
theorem dX10_tells_21 : decode cX10_tells 21 = .ok (.bipush 8, 2) := by decide +kernel
theorem dX10_tells_23 : decode cX10_tells 23 = .ok (.if_icmp .ge 30, 3) := by decide +kernel
theorem dX10_tells_26 : decode cX10_tells 26 = .ok (.aload_n 0, 1) := by decide +kernel
theorem dX10_tells_27 : decode cX10_tells 27 = .ok (.getfield 47, 3) := by decide +kernel
theorem dX10_tells_30 : decode cX10_tells 30 = .ok (.iload_n 3, 1) := by decide +kernel
theorem dX10_tells_31 : decode cX10_tells 31 = .ok (.iload_n 3, 1) := by decide +kernel
theorem dX10_tells_32 : decode cX10_tells 32 = .ok (.iload_n 2, 1) := by decide +kernel
theorem dX10_tells_33 : decode cX10_tells 33 = .ok (.if_icmp .ne 12, 3) := by decide +kernel
theorem dX10_tells_36 : decode cX10_tells 36 = .ok (.aload_n 0, 1) := by decide +kernel
theorem dX10_tells_37 : decode cX10_tells 37 = .ok (.iload_n 1, 1) := by decide +kernel
theorem dX10_tells_38 : decode cX10_tells 38 = .ok (.iload_n 2, 1) := by decide +kernel
theorem dX10_tells_39 : decode cX10_tells 39 = .ok (.invokevirtual 296, 3) := by decide +kernel
theorem dX10_tells_42 : decode cX10_tells 42 = .ok (.goto 4, 3) := by decide +kernel
theorem dX10_tells_45 : decode cX10_tells 45 = .ok (.iconst 0, 1) := by decide +kernel
theorem dX10_tells_46 : decode cX10_tells 46 = .ok (.iastore, 1) := by decide +kernel
theorem dX10_tells_47 : decode cX10_tells 47 = .ok (.iinc 3 1, 3) := by decide +kernel
theorem dX10_tells_50 : decode cX10_tells 50 = .ok (.goto (-30), 3) := by decide +kernel
theorem dX10_tells_53 : decode cX10_tells 53 = .ok (.aload_n 0, 1) := by decide +kernel
theorem dX10_tells_54 : decode cX10_tells 54 = .ok (.dup, 1) := by decide +kernel
theorem dX10_tells_55 : decode cX10_tells 55 = .ok (.getfield 317, 3) := by decide +kernel
theorem dX10_tells_58 : decode cX10_tells 58 = .ok (.aload_n 0, 1) := by decide +kernel
theorem dX10_tells_59 : decode cX10_tells 59 = .ok (.getfield 47, 3) := by decide +kernel
theorem dX10_tells_62 : decode cX10_tells 62 = .ok (.iload_n 2, 1) := by decide +kernel
theorem dX10_tells_63 : decode cX10_tells 63 = .ok (.iaload, 1) := by decide +kernel
theorem dX10_tells_64 : decode cX10_tells 64 = .ok (.iadd, 1) := by decide +kernel
theorem dX10_tells_65 : decode cX10_tells 65 = .ok (.putfield 317, 3) := by decide +kernel
theorem dX10_tells_68 : decode cX10_tells 68 = .ok (.aload_n 0, 1) := by decide +kernel
theorem dX10_tells_69 : decode cX10_tells 69 = .ok (.getfield 44, 3) := by decide +kernel
theorem dX10_tells_72 : decode cX10_tells 72 = .ok (.iload_n 2, 1) := by decide +kernel
theorem dX10_tells_73 : decode cX10_tells 73 = .ok (.dup2, 1) := by decide +kernel
theorem dX10_tells_74 : decode cX10_tells 74 = .ok (.iaload, 1) := by decide +kernel
theorem dX10_tells_75 : decode cX10_tells 75 = .ok (.iconst 1, 1) := by decide +kernel
theorem dX10_tells_76 : decode cX10_tells 76 = .ok (.iload_n 1, 1) := by decide +kernel
theorem dX10_tells_77 : decode cX10_tells 77 = .ok (.ishl, 1) := by decide +kernel
theorem dX10_tells_78 : decode cX10_tells 78 = .ok (.ior, 1) := by decide +kernel
theorem dX10_tells_79 : decode cX10_tells 79 = .ok (.iastore, 1) := by decide +kernel
theorem dX10_tells_80 : decode cX10_tells 80 = .ok (.iconst 1, 1) := by decide +kernel
theorem dX10_tells_81 : decode cX10_tells 81 = .ok (.ireturn, 1) := by decide +kernel
theorem dX10_tellsBoth_0 : decode cX10_tellsBoth 0 = .ok (.aload_n 0, 1) := by decide +kernel
theorem dX10_tellsBoth_1 : decode cX10_tellsBoth 1 = .ok (.iload_n 1, 1) := by decide +kernel
theorem dX10_tellsBoth_2 : decode cX10_tellsBoth 2 = .ok (.invokevirtual 290, 3) := by decide +kernel
theorem dX10_tellsBoth_5 : decode cX10_tellsBoth 5 = .ok (.ifCond .eq 24, 3) := by decide +kernel
theorem dX10_tellsBoth_8 : decode cX10_tellsBoth 8 = .ok (.aload_n 0, 1) := by decide +kernel
theorem dX10_tellsBoth_9 : decode cX10_tellsBoth 9 = .ok (.iload_n 2, 1) := by decide +kernel
theorem dX10_tellsBoth_10 : decode cX10_tellsBoth 10 = .ok (.invokevirtual 320, 3) := by decide +kernel
theorem dX10_tellsBoth_13 : decode cX10_tellsBoth 13 = .ok (.ifCond .eq 16, 3) := by decide +kernel
theorem dX10_tellsBoth_16 : decode cX10_tellsBoth 16 = .ok (.aload_n 0, 1) := by decide +kernel
theorem dX10_tellsBoth_17 : decode cX10_tellsBoth 17 = .ok (.iload_n 3, 1) := by decide +kernel
theorem dX10_tellsBoth_18 : decode cX10_tellsBoth 18 = .ok (.invokevirtual 320, 3) := by decide +kernel
theorem dX10_tellsBoth_21 : decode cX10_tellsBoth 21 = .ok (.ifCond .eq 8, 3) := by decide +kernel
theorem dX10_tellsBoth_24 : decode cX10_tellsBoth 24 = .ok (.iload_n 2, 1) := by decide +kernel
theorem dX10_tellsBoth_25 : decode cX10_tellsBoth 25 = .ok (.iload_n 3, 1) := by decide +kernel
theorem dX10_tellsBoth_26 : decode cX10_tellsBoth 26 = .ok (.if_icmp .ne 5, 3) := by decide +kernel
theorem dX10_tellsBoth_29 : decode cX10_tellsBoth 29 = .ok (.iconst 0, 1) := by decide +kernel
theorem dX10_tellsBoth_30 : decode cX10_tellsBoth 30 = .ok (.ireturn, 1) := by decide +kernel
theorem dX10_tellsBoth_31 : decode cX10_tellsBoth 31 = .ok (.iconst 0, 1) := by decide +kernel
theorem dX10_tellsBoth_32 : decode cX10_tellsBoth 32 = .ok (.istore 4, 2) := by decide +kernel
theorem dX10_tellsBoth_34 : decode cX10_tellsBoth 34 = .ok (.iload 4, 2) := by decide +kernel
theorem dX10_tellsBoth_36 : decode cX10_tellsBoth 36 = .ok (.bipush 8, 2) := by decide +kernel
theorem dX10_tellsBoth_38 : decode cX10_tellsBoth 38 = .ok (.if_icmp .ge 41, 3) := by decide +kernel
theorem dX10_tellsBoth_41 : decode cX10_tellsBoth 41 = .ok (.aload_n 0, 1) := by decide +kernel
theorem dX10_tellsBoth_42 : decode cX10_tellsBoth 42 = .ok (.getfield 47, 3) := by decide +kernel
theorem dX10_tellsBoth_45 : decode cX10_tellsBoth 45 = .ok (.iload 4, 2) := by decide +kernel
theorem dX10_tellsBoth_47 : decode cX10_tellsBoth 47 = .ok (.iload 4, 2) := by decide +kernel
theorem dX10_tellsBoth_49 : decode cX10_tellsBoth 49 = .ok (.iload_n 2, 1) := by decide +kernel
theorem dX10_tellsBoth_50 : decode cX10_tellsBoth 50 = .ok (.if_icmp .eq 9, 3) := by decide +kernel
theorem dX10_tellsBoth_53 : decode cX10_tellsBoth 53 = .ok (.iload 4, 2) := by decide +kernel
theorem dX10_tellsBoth_55 : decode cX10_tellsBoth 55 = .ok (.iload_n 3, 1) := by decide +kernel
theorem dX10_tellsBoth_56 : decode cX10_tellsBoth 56 = .ok (.if_icmp .ne 15, 3) := by decide +kernel
theorem dX10_tellsBoth_59 : decode cX10_tellsBoth 59 = .ok (.aload_n 0, 1) := by decide +kernel
theorem dX10_tellsBoth_60 : decode cX10_tellsBoth 60 = .ok (.iload_n 1, 1) := by decide +kernel
theorem dX10_tellsBoth_61 : decode cX10_tellsBoth 61 = .ok (.iload 4, 2) := by decide +kernel
theorem dX10_tellsBoth_63 : decode cX10_tellsBoth 63 = .ok (.invokevirtual 296, 3) := by decide +kernel
theorem dX10_tellsBoth_66 : decode cX10_tellsBoth 66 = .ok (.iconst 2, 1) := by decide +kernel
theorem dX10_tellsBoth_67 : decode cX10_tellsBoth 67 = .ok (.idiv, 1) := by decide +kernel
theorem dX10_tellsBoth_68 : decode cX10_tellsBoth 68 = .ok (.goto 4, 3) := by decide +kernel
theorem dX10_tellsBoth_71 : decode cX10_tellsBoth 71 = .ok (.iconst 0, 1) := by decide +kernel
theorem dX10_tellsBoth_72 : decode cX10_tellsBoth 72 = .ok (.iastore, 1) := by decide +kernel
theorem dX10_tellsBoth_73 : decode cX10_tellsBoth 73 = .ok (.iinc 4 1, 3) := by decide +kernel
theorem dX10_tellsBoth_76 : decode cX10_tellsBoth 76 = .ok (.goto (-42), 3) := by decide +kernel
theorem dX10_tellsBoth_79 : decode cX10_tellsBoth 79 = .ok (.aload_n 0, 1) := by decide +kernel
theorem dX10_tellsBoth_80 : decode cX10_tellsBoth 80 = .ok (.dup, 1) := by decide +kernel
theorem dX10_tellsBoth_81 : decode cX10_tellsBoth 81 = .ok (.getfield 317, 3) := by decide +kernel
theorem dX10_tellsBoth_84 : decode cX10_tellsBoth 84 = .ok (.aload_n 0, 1) := by decide +kernel
theorem dX10_tellsBoth_85 : decode cX10_tellsBoth 85 = .ok (.getfield 47, 3) := by decide +kernel
theorem dX10_tellsBoth_88 : decode cX10_tellsBoth 88 = .ok (.iload_n 2, 1) := by decide +kernel
theorem dX10_tellsBoth_89 : decode cX10_tellsBoth 89 = .ok (.iaload, 1) := by decide +kernel
theorem dX10_tellsBoth_90 : decode cX10_tellsBoth 90 = .ok (.aload_n 0, 1) := by decide +kernel
theorem dX10_tellsBoth_91 : decode cX10_tellsBoth 91 = .ok (.getfield 47, 3) := by decide +kernel
theorem dX10_tellsBoth_94 : decode cX10_tellsBoth 94 = .ok (.iload_n 3, 1) := by decide +kernel
theorem dX10_tellsBoth_95 : decode cX10_tellsBoth 95 = .ok (.iaload, 1) := by decide +kernel
theorem dX10_tellsBoth_96 : decode cX10_tellsBoth 96 = .ok (.iadd, 1) := by decide +kernel
theorem dX10_tellsBoth_97 : decode cX10_tellsBoth 97 = .ok (.iadd, 1) := by decide +kernel
theorem dX10_tellsBoth_98 : decode cX10_tellsBoth 98 = .ok (.putfield 317, 3) := by decide +kernel
theorem dX10_tellsBoth_101 : decode cX10_tellsBoth 101 = .ok (.aload_n 0, 1) := by decide +kernel
theorem dX10_tellsBoth_102 : decode cX10_tellsBoth 102 = .ok (.getfield 44, 3) := by decide +kernel
theorem dX10_tellsBoth_105 : decode cX10_tellsBoth 105 = .ok (.iload_n 2, 1) := by decide +kernel
theorem dX10_tellsBoth_106 : decode cX10_tellsBoth 106 = .ok (.dup2, 1) := by decide +kernel
theorem dX10_tellsBoth_107 : decode cX10_tellsBoth 107 = .ok (.iaload, 1) := by decide +kernel
theorem dX10_tellsBoth_108 : decode cX10_tellsBoth 108 = .ok (.iconst 1, 1) := by decide +kernel
theorem dX10_tellsBoth_109 : decode cX10_tellsBoth 109 = .ok (.iload_n 1, 1) := by decide +kernel
theorem dX10_tellsBoth_110 : decode cX10_tellsBoth 110 = .ok (.ishl, 1) := by decide +kernel
theorem dX10_tellsBoth_111 : decode cX10_tellsBoth 111 = .ok (.ior, 1) := by decide +kernel
theorem dX10_tellsBoth_112 : decode cX10_tellsBoth 112 = .ok (.iastore, 1) := by decide +kernel
theorem dX10_tellsBoth_113 : decode cX10_tellsBoth 113 = .ok (.aload_n 0, 1) := by decide +kernel
theorem dX10_tellsBoth_114 : decode cX10_tellsBoth 114 = .ok (.getfield 44, 3) := by decide +kernel
theorem dX10_tellsBoth_117 : decode cX10_tellsBoth 117 = .ok (.iload_n 3, 1) := by decide +kernel
theorem dX10_tellsBoth_118 : decode cX10_tellsBoth 118 = .ok (.dup2, 1) := by decide +kernel
theorem dX10_tellsBoth_119 : decode cX10_tellsBoth 119 = .ok (.iaload, 1) := by decide +kernel
theorem dX10_tellsBoth_120 : decode cX10_tellsBoth 120 = .ok (.iconst 1, 1) := by decide +kernel
theorem dX10_tellsBoth_121 : decode cX10_tellsBoth 121 = .ok (.iload_n 1, 1) := by decide +kernel
theorem dX10_tellsBoth_122 : decode cX10_tellsBoth 122 = .ok (.ishl, 1) := by decide +kernel
theorem dX10_tellsBoth_123 : decode cX10_tellsBoth 123 = .ok (.ior, 1) := by decide +kernel
theorem dX10_tellsBoth_124 : decode cX10_tellsBoth 124 = .ok (.iastore, 1) := by decide +kernel
theorem dX10_tellsBoth_125 : decode cX10_tellsBoth 125 = .ok (.iconst 1, 1) := by decide +kernel
theorem dX10_tellsBoth_126 : decode cX10_tellsBoth 126 = .ok (.ireturn, 1) := by decide +kernel
theorem dX10_polishes_0 : decode cX10_polishes 0 = .ok (.aload_n 0, 1) := by decide +kernel
theorem dX10_polishes_1 : decode cX10_polishes 1 = .ok (.iload_n 1, 1) := by decide +kernel
theorem dX10_polishes_2 : decode cX10_polishes 2 = .ok (.invokevirtual 320, 3) := by decide +kernel
theorem dX10_polishes_5 : decode cX10_polishes 5 = .ok (.ifCond .ne 5, 3) := by decide +kernel
theorem dX10_polishes_8 : decode cX10_polishes 8 = .ok (.iconst 0, 1) := by decide +kernel
theorem dX10_polishes_9 : decode cX10_polishes 9 = .ok (.ireturn, 1) := by decide +kernel
theorem dX10_polishes_10 : decode cX10_polishes 10 = .ok (.iconst 0, 1) := by decide +kernel
theorem dX10_polishes_11 : decode cX10_polishes 11 = .ok (.istore_n 2, 1) := by decide +kernel
theorem dX10_polishes_12 : decode cX10_polishes 12 = .ok (.iload_n 2, 1) := by decide +kernel
theorem dX10_polishes_13 : decode cX10_polishes 13 = .ok (.bipush 8, 2) := by decide +kernel
theorem dX10_polishes_15 : decode cX10_polishes 15 = .ok (.if_icmp .ge 25, 3) := by decide +kernel
theorem dX10_polishes_18 : decode cX10_polishes 18 = .ok (.aload_n 0, 1) := by decide +kernel
theorem dX10_polishes_19 : decode cX10_polishes 19 = .ok (.getfield 50, 3) := by decide +kernel
theorem dX10_polishes_22 : decode cX10_polishes 22 = .ok (.iload_n 2, 1) := by decide +kernel
theorem dX10_polishes_23 : decode cX10_polishes 23 = .ok (.iload_n 2, 1) := by decide +kernel
theorem dX10_polishes_24 : decode cX10_polishes 24 = .ok (.iload_n 1, 1) := by decide +kernel
theorem dX10_polishes_25 : decode cX10_polishes 25 = .ok (.if_icmp .ne 7, 3) := by decide +kernel
theorem dX10_polishes_28 : decode cX10_polishes 28 = .ok (.iconst 5, 1) := by decide +kernel
theorem dX10_polishes_29 : decode cX10_polishes 29 = .ok (.goto 4, 3) := by decide +kernel
theorem dX10_polishes_32 : decode cX10_polishes 32 = .ok (.iconst 0, 1) := by decide +kernel
theorem dX10_polishes_33 : decode cX10_polishes 33 = .ok (.iastore, 1) := by decide +kernel
theorem dX10_polishes_34 : decode cX10_polishes 34 = .ok (.iinc 2 1, 3) := by decide +kernel
theorem dX10_polishes_37 : decode cX10_polishes 37 = .ok (.goto (-25), 3) := by decide +kernel
theorem dX10_polishes_40 : decode cX10_polishes 40 = .ok (.iconst 1, 1) := by decide +kernel
theorem dX10_polishes_41 : decode cX10_polishes 41 = .ok (.ireturn, 1) := by decide +kernel
theorem dX10_goesOn_0 : decode cX10_goesOn 0 = .ok (.aload_n 0, 1) := by decide +kernel
theorem dX10_goesOn_1 : decode cX10_goesOn 1 = .ok (.getfield 311, 3) := by decide +kernel
theorem dX10_goesOn_4 : decode cX10_goesOn 4 = .ok (.bipush 99, 2) := by decide +kernel
theorem dX10_goesOn_6 : decode cX10_goesOn 6 = .ok (.if_icmp .ne 5, 3) := by decide +kernel
theorem dX10_goesOn_9 : decode cX10_goesOn 9 = .ok (.iconst 0, 1) := by decide +kernel
theorem dX10_goesOn_10 : decode cX10_goesOn 10 = .ok (.ireturn, 1) := by decide +kernel
theorem dX10_goesOn_11 : decode cX10_goesOn 11 = .ok (.iconst 0, 1) := by decide +kernel
theorem dX10_goesOn_12 : decode cX10_goesOn 12 = .ok (.istore_n 1, 1) := by decide +kernel
theorem dX10_goesOn_13 : decode cX10_goesOn 13 = .ok (.iload_n 1, 1) := by decide +kernel
theorem dX10_goesOn_14 : decode cX10_goesOn 14 = .ok (.bipush 8, 2) := by decide +kernel
theorem dX10_goesOn_16 : decode cX10_goesOn 16 = .ok (.if_icmp .ge 38, 3) := by decide +kernel
theorem dX10_goesOn_19 : decode cX10_goesOn 19 = .ok (.aload_n 0, 1) := by decide +kernel
theorem dX10_goesOn_20 : decode cX10_goesOn 20 = .ok (.getfield 47, 3) := by decide +kernel
theorem dX10_goesOn_23 : decode cX10_goesOn 23 = .ok (.iload_n 1, 1) := by decide +kernel
theorem dX10_goesOn_24 : decode cX10_goesOn 24 = .ok (.iconst 0, 1) := by decide +kernel
theorem dX10_goesOn_25 : decode cX10_goesOn 25 = .ok (.aload_n 0, 1) := by decide +kernel
theorem dX10_goesOn_26 : decode cX10_goesOn 26 = .ok (.getfield 47, 3) := by decide +kernel
theorem dX10_goesOn_29 : decode cX10_goesOn 29 = .ok (.iload_n 1, 1) := by decide +kernel
theorem dX10_goesOn_30 : decode cX10_goesOn 30 = .ok (.iaload, 1) := by decide +kernel
theorem dX10_goesOn_31 : decode cX10_goesOn 31 = .ok (.aload_n 0, 1) := by decide +kernel
theorem dX10_goesOn_32 : decode cX10_goesOn 32 = .ok (.iload_n 1, 1) := by decide +kernel
theorem dX10_goesOn_33 : decode cX10_goesOn 33 = .ok (.invokevirtual 323, 3) := by decide +kernel
theorem dX10_goesOn_36 : decode cX10_goesOn 36 = .ok (.isub, 1) := by decide +kernel
theorem dX10_goesOn_37 : decode cX10_goesOn 37 = .ok (.invokestatic 158, 3) := by decide +kernel
theorem dX10_goesOn_40 : decode cX10_goesOn 40 = .ok (.iastore, 1) := by decide +kernel
theorem dX10_goesOn_41 : decode cX10_goesOn 41 = .ok (.aload_n 0, 1) := by decide +kernel
theorem dX10_goesOn_42 : decode cX10_goesOn 42 = .ok (.getfield 50, 3) := by decide +kernel
theorem dX10_goesOn_45 : decode cX10_goesOn 45 = .ok (.iload_n 1, 1) := by decide +kernel
theorem dX10_goesOn_46 : decode cX10_goesOn 46 = .ok (.iconst 0, 1) := by decide +kernel
theorem dX10_goesOn_47 : decode cX10_goesOn 47 = .ok (.iastore, 1) := by decide +kernel
theorem dX10_goesOn_48 : decode cX10_goesOn 48 = .ok (.iinc 1 1, 3) := by decide +kernel
theorem dX10_goesOn_51 : decode cX10_goesOn 51 = .ok (.goto (-38), 3) := by decide +kernel
theorem dX10_goesOn_54 : decode cX10_goesOn 54 = .ok (.aload_n 0, 1) := by decide +kernel
theorem dX10_goesOn_55 : decode cX10_goesOn 55 = .ok (.dup, 1) := by decide +kernel
theorem dX10_goesOn_56 : decode cX10_goesOn 56 = .ok (.getfield 311, 3) := by decide +kernel
theorem dX10_goesOn_59 : decode cX10_goesOn 59 = .ok (.iconst 1, 1) := by decide +kernel
theorem dX10_goesOn_60 : decode cX10_goesOn 60 = .ok (.iadd, 1) := by decide +kernel
theorem dX10_goesOn_61 : decode cX10_goesOn 61 = .ok (.putfield 311, 3) := by decide +kernel
theorem dX10_goesOn_64 : decode cX10_goesOn 64 = .ok (.iconst 1, 1) := by decide +kernel
theorem dX10_goesOn_65 : decode cX10_goesOn 65 = .ok (.ireturn, 1) := by decide +kernel
theorem dX10_takes_0 : decode cX10_takes 0 = .ok (.aload_n 0, 1) := by decide +kernel
theorem dX10_takes_1 : decode cX10_takes 1 = .ok (.iload_n 1, 1) := by decide +kernel
theorem dX10_takes_2 : decode cX10_takes 2 = .ok (.invokevirtual 293, 3) := by decide +kernel
theorem dX10_takes_5 : decode cX10_takes 5 = .ok (.ifCond .eq 15, 3) := by decide +kernel
theorem dX10_takes_8 : decode cX10_takes 8 = .ok (.aload_n 0, 1) := by decide +kernel
theorem dX10_takes_9 : decode cX10_takes 9 = .ok (.getfield 314, 3) := by decide +kernel
theorem dX10_takes_12 : decode cX10_takes 12 = .ok (.iload_n 1, 1) := by decide +kernel
theorem dX10_takes_13 : decode cX10_takes 13 = .ok (.invokestatic 88, 3) := by decide +kernel
theorem dX10_takes_16 : decode cX10_takes 16 = .ok (.iload_n 2, 1) := by decide +kernel
theorem dX10_takes_17 : decode cX10_takes 17 = .ok (.if_icmp .ne 5, 3) := by decide +kernel
theorem dX10_takes_20 : decode cX10_takes 20 = .ok (.iconst 0, 1) := by decide +kernel
theorem dX10_takes_21 : decode cX10_takes 21 = .ok (.ireturn, 1) := by decide +kernel
theorem dX10_takes_22 : decode cX10_takes 22 = .ok (.aload_n 0, 1) := by decide +kernel
theorem dX10_takes_23 : decode cX10_takes 23 = .ok (.dup, 1) := by decide +kernel
theorem dX10_takes_24 : decode cX10_takes 24 = .ok (.getfield 314, 3) := by decide +kernel
theorem dX10_takes_27 : decode cX10_takes 27 = .ok (.iconst 1, 1) := by decide +kernel
theorem dX10_takes_28 : decode cX10_takes 28 = .ok (.iload_n 1, 1) := by decide +kernel
theorem dX10_takes_29 : decode cX10_takes 29 = .ok (.ishl, 1) := by decide +kernel
theorem dX10_takes_30 : decode cX10_takes 30 = .ok (.ixor, 1) := by decide +kernel
theorem dX10_takes_31 : decode cX10_takes 31 = .ok (.putfield 314, 3) := by decide +kernel
theorem dX10_takes_34 : decode cX10_takes 34 = .ok (.aload_n 0, 1) := by decide +kernel
theorem dX10_takes_35 : decode cX10_takes 35 = .ok (.getfield 47, 3) := by decide +kernel
theorem dX10_takes_38 : decode cX10_takes 38 = .ok (.iload_n 1, 1) := by decide +kernel
theorem dX10_takes_39 : decode cX10_takes 39 = .ok (.iconst 0, 1) := by decide +kernel
theorem dX10_takes_40 : decode cX10_takes 40 = .ok (.iastore, 1) := by decide +kernel
theorem dX10_takes_41 : decode cX10_takes 41 = .ok (.aload_n 0, 1) := by decide +kernel
theorem dX10_takes_42 : decode cX10_takes 42 = .ok (.getfield 50, 3) := by decide +kernel
theorem dX10_takes_45 : decode cX10_takes 45 = .ok (.iload_n 1, 1) := by decide +kernel
theorem dX10_takes_46 : decode cX10_takes 46 = .ok (.iconst 0, 1) := by decide +kernel
theorem dX10_takes_47 : decode cX10_takes 47 = .ok (.iastore, 1) := by decide +kernel
theorem dX10_takes_48 : decode cX10_takes 48 = .ok (.iconst 1, 1) := by decide +kernel
theorem dX10_takes_49 : decode cX10_takes 49 = .ok (.ireturn, 1) := by decide +kernel
theorem dX10_does_0 : decode cX10_does 0 = .ok (.iload_n 1, 1) := by decide +kernel
theorem dX10_does_1 : decode cX10_does 1 = .ok (.tableswitch 66 0 5 #[39, 46, 55, 66, 66, 61], 39) := by decide +kernel
theorem dX10_does_40 : decode cX10_does 40 = .ok (.aload_n 0, 1) := by decide +kernel
theorem dX10_does_41 : decode cX10_does 41 = .ok (.iload_n 2, 1) := by decide +kernel
theorem dX10_does_42 : decode cX10_does 42 = .ok (.iload_n 3, 1) := by decide +kernel
theorem dX10_does_43 : decode cX10_does 43 = .ok (.invokevirtual 326, 3) := by decide +kernel
theorem dX10_does_46 : decode cX10_does 46 = .ok (.ireturn, 1) := by decide +kernel
theorem dX10_does_47 : decode cX10_does 47 = .ok (.aload_n 0, 1) := by decide +kernel
theorem dX10_does_48 : decode cX10_does 48 = .ok (.iload_n 2, 1) := by decide +kernel
theorem dX10_does_49 : decode cX10_does 49 = .ok (.iload_n 3, 1) := by decide +kernel
theorem dX10_does_50 : decode cX10_does 50 = .ok (.iload 4, 2) := by decide +kernel
theorem dX10_does_52 : decode cX10_does 52 = .ok (.invokevirtual 329, 3) := by decide +kernel
theorem dX10_does_55 : decode cX10_does 55 = .ok (.ireturn, 1) := by decide +kernel
theorem dX10_does_56 : decode cX10_does 56 = .ok (.aload_n 0, 1) := by decide +kernel
theorem dX10_does_57 : decode cX10_does 57 = .ok (.iload_n 2, 1) := by decide +kernel
theorem dX10_does_58 : decode cX10_does 58 = .ok (.invokevirtual 332, 3) := by decide +kernel
theorem dX10_does_61 : decode cX10_does 61 = .ok (.ireturn, 1) := by decide +kernel
theorem dX10_does_62 : decode cX10_does 62 = .ok (.aload_n 0, 1) := by decide +kernel
theorem dX10_does_63 : decode cX10_does 63 = .ok (.invokevirtual 335, 3) := by decide +kernel
theorem dX10_does_66 : decode cX10_does 66 = .ok (.ireturn, 1) := by decide +kernel
theorem dX10_does_67 : decode cX10_does 67 = .ok (.aload_n 0, 1) := by decide +kernel
theorem dX10_does_68 : decode cX10_does 68 = .ok (.iload_n 2, 1) := by decide +kernel
theorem dX10_does_69 : decode cX10_does 69 = .ok (.iload_n 1, 1) := by decide +kernel
theorem dX10_does_70 : decode cX10_does 70 = .ok (.iconst 3, 1) := by decide +kernel
theorem dX10_does_71 : decode cX10_does 71 = .ok (.if_icmp .ne 7, 3) := by decide +kernel
theorem dX10_does_74 : decode cX10_does 74 = .ok (.iconst 1, 1) := by decide +kernel
theorem dX10_does_75 : decode cX10_does 75 = .ok (.goto 4, 3) := by decide +kernel
theorem dX10_does_78 : decode cX10_does 78 = .ok (.iconst 0, 1) := by decide +kernel
theorem dX10_does_79 : decode cX10_does 79 = .ok (.invokevirtual 338, 3) := by decide +kernel
theorem dX10_does_82 : decode cX10_does 82 = .ok (.ireturn, 1) := by decide +kernel
theorem dX10_doesDeed_0 : decode cX10_doesDeed 0 = .ok (.aload_n 0, 1) := by decide +kernel
theorem dX10_doesDeed_1 : decode cX10_doesDeed 1 = .ok (.aload_n 0, 1) := by decide +kernel
theorem dX10_doesDeed_2 : decode cX10_doesDeed 2 = .ok (.iload_n 1, 1) := by decide +kernel
theorem dX10_doesDeed_3 : decode cX10_doesDeed 3 = .ok (.iconst 0, 1) := by decide +kernel
theorem dX10_doesDeed_4 : decode cX10_doesDeed 4 = .ok (.invokevirtual 308, 3) := by decide +kernel
theorem dX10_doesDeed_7 : decode cX10_doesDeed 7 = .ok (.aload_n 0, 1) := by decide +kernel
theorem dX10_doesDeed_8 : decode cX10_doesDeed 8 = .ok (.iload_n 1, 1) := by decide +kernel
theorem dX10_doesDeed_9 : decode cX10_doesDeed 9 = .ok (.iconst 1, 1) := by decide +kernel
theorem dX10_doesDeed_10 : decode cX10_doesDeed 10 = .ok (.invokevirtual 308, 3) := by decide +kernel
theorem dX10_doesDeed_13 : decode cX10_doesDeed 13 = .ok (.aload_n 0, 1) := by decide +kernel
theorem dX10_doesDeed_14 : decode cX10_doesDeed 14 = .ok (.iload_n 1, 1) := by decide +kernel
theorem dX10_doesDeed_15 : decode cX10_doesDeed 15 = .ok (.iconst 2, 1) := by decide +kernel
theorem dX10_doesDeed_16 : decode cX10_doesDeed 16 = .ok (.invokevirtual 308, 3) := by decide +kernel
theorem dX10_doesDeed_19 : decode cX10_doesDeed 19 = .ok (.aload_n 0, 1) := by decide +kernel
theorem dX10_doesDeed_20 : decode cX10_doesDeed 20 = .ok (.iload_n 1, 1) := by decide +kernel
theorem dX10_doesDeed_21 : decode cX10_doesDeed 21 = .ok (.iconst 3, 1) := by decide +kernel
theorem dX10_doesDeed_22 : decode cX10_doesDeed 22 = .ok (.invokevirtual 308, 3) := by decide +kernel
theorem dX10_doesDeed_25 : decode cX10_doesDeed 25 = .ok (.invokevirtual 342, 3) := by decide +kernel
theorem dX10_doesDeed_28 : decode cX10_doesDeed 28 = .ok (.ireturn, 1) := by decide +kernel
