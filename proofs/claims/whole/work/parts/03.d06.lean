theorem dX10_which_0 : decode cX10_which 0 = .ok (.iconst 0, 1) := by decide +kernel
theorem dX10_which_1 : decode cX10_which 1 = .ok (.istore_n 1, 1) := by decide +kernel
theorem dX10_which_2 : decode cX10_which 2 = .ok (.iconst 0, 1) := by decide +kernel
theorem dX10_which_3 : decode cX10_which 3 = .ok (.istore_n 2, 1) := by decide +kernel
theorem dX10_which_4 : decode cX10_which 4 = .ok (.iload_n 2, 1) := by decide +kernel
theorem dX10_which_5 : decode cX10_which 5 = .ok (.aload_n 0, 1) := by decide +kernel
theorem dX10_which_6 : decode cX10_which 6 = .ok (.getfield 278, 3) := by decide +kernel
theorem dX10_which_9 : decode cX10_which 9 = .ok (.if_icmp .ge 66, 3) := by decide +kernel
theorem dX10_which_12 : decode cX10_which 12 = .ok (.iconst 0, 1) := by decide +kernel
theorem dX10_which_13 : decode cX10_which 13 = .ok (.istore_n 3, 1) := by decide +kernel
theorem dX10_which_14 : decode cX10_which 14 = .ok (.iload_n 3, 1) := by decide +kernel
theorem dX10_which_15 : decode cX10_which 15 = .ok (.aload_n 0, 1) := by decide +kernel
theorem dX10_which_16 : decode cX10_which 16 = .ok (.getfield 444, 3) := by decide +kernel
theorem dX10_which_19 : decode cX10_which 19 = .ok (.if_icmp .ge 50, 3) := by decide +kernel
theorem dX10_which_22 : decode cX10_which 22 = .ok (.iload_n 1, 1) := by decide +kernel
theorem dX10_which_23 : decode cX10_which 23 = .ok (.aload_n 0, 1) := by decide +kernel
theorem dX10_which_24 : decode cX10_which 24 = .ok (.getfield 68, 3) := by decide +kernel
theorem dX10_which_27 : decode cX10_which 27 = .ok (.iload_n 3, 1) := by decide +kernel
theorem dX10_which_28 : decode cX10_which 28 = .ok (.iaload, 1) := by decide +kernel
theorem dX10_which_29 : decode cX10_which 29 = .ok (.bipush 30, 2) := by decide +kernel
theorem dX10_which_31 : decode cX10_which 31 = .ok (.aload_n 0, 1) := by decide +kernel
theorem dX10_which_32 : decode cX10_which 32 = .ok (.bipush 27, 2) := by decide +kernel
theorem dX10_which_34 : decode cX10_which 34 = .ok (.iload_n 2, 1) := by decide +kernel
theorem dX10_which_35 : decode cX10_which 35 = .ok (.iadd, 1) := by decide +kernel
theorem dX10_which_36 : decode cX10_which 36 = .ok (.invokevirtual 271, 3) := by decide +kernel
theorem dX10_which_39 : decode cX10_which 39 = .ok (.imul, 1) := by decide +kernel
theorem dX10_which_40 : decode cX10_which 40 = .ok (.aload_n 0, 1) := by decide +kernel
theorem dX10_which_41 : decode cX10_which 41 = .ok (.bipush 37, 2) := by decide +kernel
theorem dX10_which_43 : decode cX10_which 43 = .ok (.iload_n 2, 1) := by decide +kernel
theorem dX10_which_44 : decode cX10_which 44 = .ok (.iadd, 1) := by decide +kernel
theorem dX10_which_45 : decode cX10_which 45 = .ok (.invokevirtual 271, 3) := by decide +kernel
theorem dX10_which_48 : decode cX10_which 48 = .ok (.iadd, 1) := by decide +kernel
theorem dX10_which_49 : decode cX10_which 49 = .ok (.iconst 1, 1) := by decide +kernel
theorem dX10_which_50 : decode cX10_which 50 = .ok (.isub, 1) := by decide +kernel
theorem dX10_which_51 : decode cX10_which 51 = .ok (.if_icmp .ne 9, 3) := by decide +kernel
theorem dX10_which_54 : decode cX10_which 54 = .ok (.iconst 1, 1) := by decide +kernel
theorem dX10_which_55 : decode cX10_which 55 = .ok (.iload_n 2, 1) := by decide +kernel
theorem dX10_which_56 : decode cX10_which 56 = .ok (.ishl, 1) := by decide +kernel
theorem dX10_which_57 : decode cX10_which 57 = .ok (.goto 4, 3) := by decide +kernel
theorem dX10_which_60 : decode cX10_which 60 = .ok (.iconst 0, 1) := by decide +kernel
theorem dX10_which_61 : decode cX10_which 61 = .ok (.ior, 1) := by decide +kernel
theorem dX10_which_62 : decode cX10_which 62 = .ok (.istore_n 1, 1) := by decide +kernel
theorem dX10_which_63 : decode cX10_which 63 = .ok (.iinc 3 1, 3) := by decide +kernel
theorem dX10_which_66 : decode cX10_which 66 = .ok (.goto (-52), 3) := by decide +kernel
theorem dX10_which_69 : decode cX10_which 69 = .ok (.iinc 2 1, 3) := by decide +kernel
theorem dX10_which_72 : decode cX10_which 72 = .ok (.goto (-68), 3) := by decide +kernel
theorem dX10_which_75 : decode cX10_which 75 = .ok (.iload_n 1, 1) := by decide +kernel
theorem dX10_which_76 : decode cX10_which 76 = .ok (.ireturn, 1) := by decide +kernel
theorem dX10_ask_0 : decode cX10_ask 0 = .ok (.iconst (-1), 1) := by decide +kernel
theorem dX10_ask_1 : decode cX10_ask 1 = .ok (.istore_n 1, 1) := by decide +kernel
theorem dX10_ask_2 : decode cX10_ask 2 = .ok (.ldc_w 379, 3) := by decide +kernel
theorem dX10_ask_5 : decode cX10_ask 5 = .ok (.istore_n 2, 1) := by decide +kernel
theorem dX10_ask_6 : decode cX10_ask 6 = .ok (.iconst 0, 1) := by decide +kernel
theorem dX10_ask_7 : decode cX10_ask 7 = .ok (.istore_n 3, 1) := by decide +kernel
theorem dX10_ask_8 : decode cX10_ask 8 = .ok (.iload_n 3, 1) := by decide +kernel
theorem dX10_ask_9 : decode cX10_ask 9 = .ok (.aload_n 0, 1) := by decide +kernel
theorem dX10_ask_10 : decode cX10_ask 10 = .ok (.getfield 275, 3) := by decide +kernel
theorem dX10_ask_13 : decode cX10_ask 13 = .ok (.if_icmp .ge 119, 3) := by decide +kernel
theorem dX10_ask_16 : decode cX10_ask 16 = .ok (.aload_n 0, 1) := by decide +kernel
theorem dX10_ask_17 : decode cX10_ask 17 = .ok (.getfield 444, 3) := by decide +kernel
theorem dX10_ask_20 : decode cX10_ask 20 = .ok (.ifCond .le 112, 3) := by decide +kernel
theorem dX10_ask_23 : decode cX10_ask 23 = .ok (.iconst 0, 1) := by decide +kernel
theorem dX10_ask_24 : decode cX10_ask 24 = .ok (.istore 4, 2) := by decide +kernel
theorem dX10_ask_26 : decode cX10_ask 26 = .ok (.iconst 0, 1) := by decide +kernel
theorem dX10_ask_27 : decode cX10_ask 27 = .ok (.istore 5, 2) := by decide +kernel
theorem dX10_ask_29 : decode cX10_ask 29 = .ok (.iload 5, 2) := by decide +kernel
theorem dX10_ask_31 : decode cX10_ask 31 = .ok (.bipush 60, 2) := by decide +kernel
theorem dX10_ask_33 : decode cX10_ask 33 = .ok (.if_icmp .gt 17, 3) := by decide +kernel
theorem dX10_ask_36 : decode cX10_ask 36 = .ok (.aload_n 0, 1) := by decide +kernel
theorem dX10_ask_37 : decode cX10_ask 37 = .ok (.getfield 71, 3) := by decide +kernel
theorem dX10_ask_40 : decode cX10_ask 40 = .ok (.iload 5, 2) := by decide +kernel
theorem dX10_ask_42 : decode cX10_ask 42 = .ok (.iconst 0, 1) := by decide +kernel
theorem dX10_ask_43 : decode cX10_ask 43 = .ok (.iastore, 1) := by decide +kernel
theorem dX10_ask_44 : decode cX10_ask 44 = .ok (.iinc 5 1, 3) := by decide +kernel
theorem dX10_ask_47 : decode cX10_ask 47 = .ok (.goto (-18), 3) := by decide +kernel
theorem dX10_ask_50 : decode cX10_ask 50 = .ok (.iconst 0, 1) := by decide +kernel
theorem dX10_ask_51 : decode cX10_ask 51 = .ok (.istore 5, 2) := by decide +kernel
theorem dX10_ask_53 : decode cX10_ask 53 = .ok (.iload 5, 2) := by decide +kernel
theorem dX10_ask_55 : decode cX10_ask 55 = .ok (.aload_n 0, 1) := by decide +kernel
theorem dX10_ask_56 : decode cX10_ask 56 = .ok (.getfield 444, 3) := by decide +kernel
theorem dX10_ask_59 : decode cX10_ask 59 = .ok (.if_icmp .ge 48, 3) := by decide +kernel
theorem dX10_ask_62 : decode cX10_ask 62 = .ok (.aload_n 0, 1) := by decide +kernel
theorem dX10_ask_63 : decode cX10_ask 63 = .ok (.aload_n 0, 1) := by decide +kernel
theorem dX10_ask_64 : decode cX10_ask 64 = .ok (.getfield 68, 3) := by decide +kernel
theorem dX10_ask_67 : decode cX10_ask 67 = .ok (.iload 5, 2) := by decide +kernel
theorem dX10_ask_69 : decode cX10_ask 69 = .ok (.iaload, 1) := by decide +kernel
theorem dX10_ask_70 : decode cX10_ask 70 = .ok (.iload_n 3, 1) := by decide +kernel
theorem dX10_ask_71 : decode cX10_ask 71 = .ok (.invokevirtual 447, 3) := by decide +kernel
theorem dX10_ask_74 : decode cX10_ask 74 = .ok (.istore 6, 2) := by decide +kernel
theorem dX10_ask_76 : decode cX10_ask 76 = .ok (.aload_n 0, 1) := by decide +kernel
theorem dX10_ask_77 : decode cX10_ask 77 = .ok (.getfield 71, 3) := by decide +kernel
theorem dX10_ask_80 : decode cX10_ask 80 = .ok (.iload 6, 2) := by decide +kernel
theorem dX10_ask_82 : decode cX10_ask 82 = .ok (.dup2, 1) := by decide +kernel
theorem dX10_ask_83 : decode cX10_ask 83 = .ok (.iaload, 1) := by decide +kernel
theorem dX10_ask_84 : decode cX10_ask 84 = .ok (.iconst 1, 1) := by decide +kernel
theorem dX10_ask_85 : decode cX10_ask 85 = .ok (.iadd, 1) := by decide +kernel
theorem dX10_ask_86 : decode cX10_ask 86 = .ok (.iastore, 1) := by decide +kernel
theorem dX10_ask_87 : decode cX10_ask 87 = .ok (.iload 4, 2) := by decide +kernel
theorem dX10_ask_89 : decode cX10_ask 89 = .ok (.aload_n 0, 1) := by decide +kernel
theorem dX10_ask_90 : decode cX10_ask 90 = .ok (.getfield 71, 3) := by decide +kernel
theorem dX10_ask_93 : decode cX10_ask 93 = .ok (.iload 6, 2) := by decide +kernel
theorem dX10_ask_95 : decode cX10_ask 95 = .ok (.iaload, 1) := by decide +kernel
theorem dX10_ask_96 : decode cX10_ask 96 = .ok (.invokestatic 158, 3) := by decide +kernel
theorem dX10_ask_99 : decode cX10_ask 99 = .ok (.istore 4, 2) := by decide +kernel
theorem dX10_ask_101 : decode cX10_ask 101 = .ok (.iinc 5 1, 3) := by decide +kernel
theorem dX10_ask_104 : decode cX10_ask 104 = .ok (.goto (-51), 3) := by decide +kernel
theorem dX10_ask_107 : decode cX10_ask 107 = .ok (.iload 4, 2) := by decide +kernel
theorem dX10_ask_109 : decode cX10_ask 109 = .ok (.iload_n 2, 1) := by decide +kernel
theorem dX10_ask_110 : decode cX10_ask 110 = .ok (.if_icmp .ge 7, 3) := by decide +kernel
theorem dX10_ask_113 : decode cX10_ask 113 = .ok (.iload_n 3, 1) := by decide +kernel
theorem dX10_ask_114 : decode cX10_ask 114 = .ok (.goto 4, 3) := by decide +kernel
theorem dX10_ask_117 : decode cX10_ask 117 = .ok (.iload_n 1, 1) := by decide +kernel
theorem dX10_ask_118 : decode cX10_ask 118 = .ok (.istore_n 1, 1) := by decide +kernel
theorem dX10_ask_119 : decode cX10_ask 119 = .ok (.iload_n 2, 1) := by decide +kernel
theorem dX10_ask_120 : decode cX10_ask 120 = .ok (.iload 4, 2) := by decide +kernel
theorem dX10_ask_122 : decode cX10_ask 122 = .ok (.invokestatic 284, 3) := by decide +kernel
theorem dX10_ask_125 : decode cX10_ask 125 = .ok (.istore_n 2, 1) := by decide +kernel
theorem dX10_ask_126 : decode cX10_ask 126 = .ok (.iinc 3 1, 3) := by decide +kernel
theorem dX10_ask_129 : decode cX10_ask 129 = .ok (.goto (-121), 3) := by decide +kernel
theorem dX10_ask_132 : decode cX10_ask 132 = .ok (.iload_n 1, 1) := by decide +kernel
theorem dX10_ask_133 : decode cX10_ask 133 = .ok (.ireturn, 1) := by decide +kernel
theorem dX10_fits_0 : decode cX10_fits 0 = .ok (.aload_n 0, 1) := by decide +kernel
theorem dX10_fits_1 : decode cX10_fits 1 = .ok (.iconst 0, 1) := by decide +kernel
theorem dX10_fits_2 : decode cX10_fits 2 = .ok (.putfield 84, 3) := by decide +kernel
theorem dX10_fits_5 : decode cX10_fits 5 = .ok (.aload_n 0, 1) := by decide +kernel
theorem dX10_fits_6 : decode cX10_fits 6 = .ok (.iload_n 1, 1) := by decide +kernel
theorem dX10_fits_7 : decode cX10_fits 7 = .ok (.iload_n 2, 1) := by decide +kernel
theorem dX10_fits_8 : decode cX10_fits 8 = .ok (.invokevirtual 450, 3) := by decide +kernel
theorem dX10_fits_11 : decode cX10_fits 11 = .ok (.ifCond .ne 6, 3) := by decide +kernel
theorem dX10_fits_14 : decode cX10_fits 14 = .ok (.bipush (-2), 2) := by decide +kernel
theorem dX10_fits_16 : decode cX10_fits 16 = .ok (.ireturn, 1) := by decide +kernel
theorem dX10_fits_17 : decode cX10_fits 17 = .ok (.iload_n 3, 1) := by decide +kernel
theorem dX10_fits_18 : decode cX10_fits 18 = .ok (.bipush 10, 2) := by decide +kernel
theorem dX10_fits_20 : decode cX10_fits 20 = .ok (.if_icmp .lt 29, 3) := by decide +kernel
theorem dX10_fits_23 : decode cX10_fits 23 = .ok (.iload_n 3, 1) := by decide +kernel
theorem dX10_fits_24 : decode cX10_fits 24 = .ok (.bipush 10, 2) := by decide +kernel
theorem dX10_fits_26 : decode cX10_fits 26 = .ok (.isub, 1) := by decide +kernel
theorem dX10_fits_27 : decode cX10_fits 27 = .ok (.aload_n 0, 1) := by decide +kernel
theorem dX10_fits_28 : decode cX10_fits 28 = .ok (.getfield 444, 3) := by decide +kernel
theorem dX10_fits_31 : decode cX10_fits 31 = .ok (.if_icmp .ge 15, 3) := by decide +kernel
theorem dX10_fits_34 : decode cX10_fits 34 = .ok (.aload_n 0, 1) := by decide +kernel
theorem dX10_fits_35 : decode cX10_fits 35 = .ok (.getfield 68, 3) := by decide +kernel
theorem dX10_fits_38 : decode cX10_fits 38 = .ok (.iload_n 3, 1) := by decide +kernel
theorem dX10_fits_39 : decode cX10_fits 39 = .ok (.bipush 10, 2) := by decide +kernel
theorem dX10_fits_41 : decode cX10_fits 41 = .ok (.isub, 1) := by decide +kernel
theorem dX10_fits_42 : decode cX10_fits 42 = .ok (.iaload, 1) := by decide +kernel
theorem dX10_fits_43 : decode cX10_fits 43 = .ok (.goto 5, 3) := by decide +kernel
theorem dX10_fits_46 : decode cX10_fits 46 = .ok (.bipush (-2), 2) := by decide +kernel
theorem dX10_fits_48 : decode cX10_fits 48 = .ok (.ireturn, 1) := by decide +kernel
theorem dX10_fits_49 : decode cX10_fits 49 = .ok (.iload_n 3, 1) := by decide +kernel
theorem dX10_fits_50 : decode cX10_fits 50 = .ok (.tableswitch 64 0 4 #[34, 39, 39, 54, 59], 34) := by decide +kernel
theorem dX10_fits_84 : decode cX10_fits 84 = .ok (.aload_n 0, 1) := by decide +kernel
theorem dX10_fits_85 : decode cX10_fits 85 = .ok (.getfield 444, 3) := by decide +kernel
theorem dX10_fits_88 : decode cX10_fits 88 = .ok (.ireturn, 1) := by decide +kernel
theorem dX10_fits_89 : decode cX10_fits 89 = .ok (.aload_n 0, 1) := by decide +kernel
theorem dX10_fits_90 : decode cX10_fits 90 = .ok (.iload_n 3, 1) := by decide +kernel
theorem dX10_fits_91 : decode cX10_fits 91 = .ok (.iconst 1, 1) := by decide +kernel
theorem dX10_fits_92 : decode cX10_fits 92 = .ok (.if_icmp .ne 7, 3) := by decide +kernel
theorem dX10_fits_95 : decode cX10_fits 95 = .ok (.iconst 1, 1) := by decide +kernel
theorem dX10_fits_96 : decode cX10_fits 96 = .ok (.goto 4, 3) := by decide +kernel
theorem dX10_fits_99 : decode cX10_fits 99 = .ok (.iconst 0, 1) := by decide +kernel
theorem dX10_fits_100 : decode cX10_fits 100 = .ok (.invokevirtual 453, 3) := by decide +kernel
theorem dX10_fits_103 : decode cX10_fits 103 = .ok (.ireturn, 1) := by decide +kernel
theorem dX10_fits_104 : decode cX10_fits 104 = .ok (.aload_n 0, 1) := by decide +kernel
theorem dX10_fits_105 : decode cX10_fits 105 = .ok (.invokevirtual 457, 3) := by decide +kernel
theorem dX10_fits_108 : decode cX10_fits 108 = .ok (.ireturn, 1) := by decide +kernel
theorem dX10_fits_109 : decode cX10_fits 109 = .ok (.aload_n 0, 1) := by decide +kernel
theorem dX10_fits_110 : decode cX10_fits 110 = .ok (.invokevirtual 460, 3) := by decide +kernel
theorem dX10_fits_113 : decode cX10_fits 113 = .ok (.ireturn, 1) := by decide +kernel
theorem dX10_fits_114 : decode cX10_fits 114 = .ok (.bipush (-2), 2) := by decide +kernel
theorem dX10_fits_116 : decode cX10_fits 116 = .ok (.ireturn, 1) := by decide +kernel
theorem dX10_draw_0 : decode cX10_draw 0 = .ok (.aload_n 0, 1) := by decide +kernel
theorem dX10_draw_1 : decode cX10_draw 1 = .ok (.aload_n 0, 1) := by decide +kernel
theorem dX10_draw_2 : decode cX10_draw 2 = .ok (.getfield 463, 3) := by decide +kernel
theorem dX10_draw_5 : decode cX10_draw 5 = .ok (.ldc_w 466, 3) := by decide +kernel
theorem dX10_draw_8 : decode cX10_draw 8 = .ok (.imul, 1) := by decide +kernel
theorem dX10_draw_9 : decode cX10_draw 9 = .ok (.sipush 12345, 3) := by decide +kernel
theorem dX10_draw_12 : decode cX10_draw 12 = .ok (.iadd, 1) := by decide +kernel
theorem dX10_draw_13 : decode cX10_draw 13 = .ok (.putfield 463, 3) := by decide +kernel
theorem dX10_draw_16 : decode cX10_draw 16 = .ok (.aload_n 0, 1) := by decide +kernel
theorem dX10_draw_17 : decode cX10_draw 17 = .ok (.getfield 463, 3) := by decide +kernel
theorem dX10_draw_20 : decode cX10_draw 20 = .ok (.bipush 16, 2) := by decide +kernel
theorem dX10_draw_22 : decode cX10_draw 22 = .ok (.iushr, 1) := by decide +kernel
theorem dX10_draw_23 : decode cX10_draw 23 = .ok (.iload_n 1, 1) := by decide +kernel
theorem dX10_draw_24 : decode cX10_draw 24 = .ok (.irem, 1) := by decide +kernel
theorem dX10_draw_25 : decode cX10_draw 25 = .ok (.ireturn, 1) := by decide +kernel
theorem dX10_drawDeed_0 : decode cX10_drawDeed 0 = .ok (.aload_n 0, 1) := by decide +kernel
theorem dX10_drawDeed_1 : decode cX10_drawDeed 1 = .ok (.bipush 8, 2) := by decide +kernel
theorem dX10_drawDeed_3 : decode cX10_drawDeed 3 = .ok (.invokevirtual 467, 3) := by decide +kernel
theorem dX10_drawDeed_6 : decode cX10_drawDeed 6 = .ok (.istore_n 1, 1) := by decide +kernel
theorem dX10_drawDeed_7 : decode cX10_drawDeed 7 = .ok (.iload_n 1, 1) := by decide +kernel
theorem dX10_drawDeed_8 : decode cX10_drawDeed 8 = .ok (.iconst 4, 1) := by decide +kernel
theorem dX10_drawDeed_9 : decode cX10_drawDeed 9 = .ok (.bipush 6, 2) := by decide +kernel
theorem dX10_drawDeed_11 : decode cX10_drawDeed 11 = .ok (.invokestatic 96, 3) := by decide +kernel
theorem dX10_drawDeed_14 : decode cX10_drawDeed 14 = .ok (.ifCond .eq 11, 3) := by decide +kernel
theorem dX10_drawDeed_17 : decode cX10_drawDeed 17 = .ok (.aload_n 0, 1) := by decide +kernel
theorem dX10_drawDeed_18 : decode cX10_drawDeed 18 = .ok (.invokevirtual 335, 3) := by decide +kernel
theorem dX10_drawDeed_21 : decode cX10_drawDeed 21 = .ok (.pop, 1) := by decide +kernel
theorem dX10_drawDeed_22 : decode cX10_drawDeed 22 = .ok (.goto 118, 3) := by decide +kernel
theorem dX10_drawDeed_25 : decode cX10_drawDeed 25 = .ok (.aload_n 0, 1) := by decide +kernel
theorem dX10_drawDeed_26 : decode cX10_drawDeed 26 = .ok (.getfield 278, 3) := by decide +kernel
theorem dX10_drawDeed_29 : decode cX10_drawDeed 29 = .ok (.ifCond .le 111, 3) := by decide +kernel
theorem dX10_drawDeed_32 : decode cX10_drawDeed 32 = .ok (.aload_n 0, 1) := by decide +kernel
theorem dX10_drawDeed_33 : decode cX10_drawDeed 33 = .ok (.getfield 275, 3) := by decide +kernel
theorem dX10_drawDeed_36 : decode cX10_drawDeed 36 = .ok (.ifCond .le 104, 3) := by decide +kernel
theorem dX10_drawDeed_39 : decode cX10_drawDeed 39 = .ok (.iload_n 1, 1) := by decide +kernel
theorem dX10_drawDeed_40 : decode cX10_drawDeed 40 = .ok (.iconst 3, 1) := by decide +kernel
theorem dX10_drawDeed_41 : decode cX10_drawDeed 41 = .ok (.if_icmp .ge 14, 3) := by decide +kernel
theorem dX10_drawDeed_44 : decode cX10_drawDeed 44 = .ok (.aload_n 0, 1) := by decide +kernel
theorem dX10_drawDeed_45 : decode cX10_drawDeed 45 = .ok (.aload_n 0, 1) := by decide +kernel
theorem dX10_drawDeed_46 : decode cX10_drawDeed 46 = .ok (.getfield 278, 3) := by decide +kernel
theorem dX10_drawDeed_49 : decode cX10_drawDeed 49 = .ok (.invokevirtual 467, 3) := by decide +kernel
theorem dX10_drawDeed_52 : decode cX10_drawDeed 52 = .ok (.goto 4, 3) := by decide +kernel
theorem dX10_drawDeed_55 : decode cX10_drawDeed 55 = .ok (.iconst (-1), 1) := by decide +kernel
theorem dX10_drawDeed_56 : decode cX10_drawDeed 56 = .ok (.istore_n 2, 1) := by decide +kernel
theorem dX10_drawDeed_57 : decode cX10_drawDeed 57 = .ok (.aload_n 0, 1) := by decide +kernel
theorem dX10_drawDeed_58 : decode cX10_drawDeed 58 = .ok (.aload_n 0, 1) := by decide +kernel
theorem dX10_drawDeed_59 : decode cX10_drawDeed 59 = .ok (.getfield 275, 3) := by decide +kernel
theorem dX10_drawDeed_62 : decode cX10_drawDeed 62 = .ok (.invokevirtual 467, 3) := by decide +kernel
theorem dX10_drawDeed_65 : decode cX10_drawDeed 65 = .ok (.istore_n 3, 1) := by decide +kernel
theorem dX10_drawDeed_66 : decode cX10_drawDeed 66 = .ok (.iload_n 1, 1) := by decide +kernel
theorem dX10_drawDeed_67 : decode cX10_drawDeed 67 = .ok (.iconst 2, 1) := by decide +kernel
theorem dX10_drawDeed_68 : decode cX10_drawDeed 68 = .ok (.if_icmp .ge 13, 3) := by decide +kernel
theorem dX10_drawDeed_71 : decode cX10_drawDeed 71 = .ok (.aload_n 0, 1) := by decide +kernel
theorem dX10_drawDeed_72 : decode cX10_drawDeed 72 = .ok (.iload_n 2, 1) := by decide +kernel
theorem dX10_drawDeed_73 : decode cX10_drawDeed 73 = .ok (.iload_n 3, 1) := by decide +kernel
theorem dX10_drawDeed_74 : decode cX10_drawDeed 74 = .ok (.invokevirtual 326, 3) := by decide +kernel
theorem dX10_drawDeed_77 : decode cX10_drawDeed 77 = .ok (.pop, 1) := by decide +kernel
theorem dX10_drawDeed_78 : decode cX10_drawDeed 78 = .ok (.goto 62, 3) := by decide +kernel
theorem dX10_drawDeed_81 : decode cX10_drawDeed 81 = .ok (.iload_n 1, 1) := by decide +kernel
theorem dX10_drawDeed_82 : decode cX10_drawDeed 82 = .ok (.iconst 2, 1) := by decide +kernel
theorem dX10_drawDeed_83 : decode cX10_drawDeed 83 = .ok (.if_icmp .ne 21, 3) := by decide +kernel
theorem dX10_drawDeed_86 : decode cX10_drawDeed 86 = .ok (.aload_n 0, 1) := by decide +kernel
theorem dX10_drawDeed_87 : decode cX10_drawDeed 87 = .ok (.iload_n 2, 1) := by decide +kernel
theorem dX10_drawDeed_88 : decode cX10_drawDeed 88 = .ok (.iload_n 3, 1) := by decide +kernel
theorem dX10_drawDeed_89 : decode cX10_drawDeed 89 = .ok (.iload_n 3, 1) := by decide +kernel
theorem dX10_drawDeed_90 : decode cX10_drawDeed 90 = .ok (.iconst 1, 1) := by decide +kernel
theorem dX10_drawDeed_91 : decode cX10_drawDeed 91 = .ok (.iadd, 1) := by decide +kernel
theorem dX10_drawDeed_92 : decode cX10_drawDeed 92 = .ok (.aload_n 0, 1) := by decide +kernel
theorem dX10_drawDeed_93 : decode cX10_drawDeed 93 = .ok (.getfield 275, 3) := by decide +kernel
theorem dX10_drawDeed_96 : decode cX10_drawDeed 96 = .ok (.irem, 1) := by decide +kernel
theorem dX10_drawDeed_97 : decode cX10_drawDeed 97 = .ok (.invokevirtual 329, 3) := by decide +kernel
theorem dX10_drawDeed_100 : decode cX10_drawDeed 100 = .ok (.pop, 1) := by decide +kernel
theorem dX10_drawDeed_101 : decode cX10_drawDeed 101 = .ok (.goto 39, 3) := by decide +kernel
theorem dX10_drawDeed_104 : decode cX10_drawDeed 104 = .ok (.iload_n 1, 1) := by decide +kernel
theorem dX10_drawDeed_105 : decode cX10_drawDeed 105 = .ok (.iconst 3, 1) := by decide +kernel
theorem dX10_drawDeed_106 : decode cX10_drawDeed 106 = .ok (.if_icmp .ne 12, 3) := by decide +kernel
theorem dX10_drawDeed_109 : decode cX10_drawDeed 109 = .ok (.aload_n 0, 1) := by decide +kernel
theorem dX10_drawDeed_110 : decode cX10_drawDeed 110 = .ok (.iload_n 3, 1) := by decide +kernel
theorem dX10_drawDeed_111 : decode cX10_drawDeed 111 = .ok (.invokevirtual 332, 3) := by decide +kernel
theorem dX10_drawDeed_114 : decode cX10_drawDeed 114 = .ok (.pop, 1) := by decide +kernel
theorem dX10_drawDeed_115 : decode cX10_drawDeed 115 = .ok (.goto 25, 3) := by decide +kernel
theorem dX10_drawDeed_118 : decode cX10_drawDeed 118 = .ok (.aload_n 0, 1) := by decide +kernel
theorem dX10_drawDeed_119 : decode cX10_drawDeed 119 = .ok (.iload_n 3, 1) := by decide +kernel
theorem dX10_drawDeed_120 : decode cX10_drawDeed 120 = .ok (.aload_n 0, 1) := by decide +kernel
theorem dX10_drawDeed_121 : decode cX10_drawDeed 121 = .ok (.getfield 314, 3) := by decide +kernel
theorem dX10_drawDeed_124 : decode cX10_drawDeed 124 = .ok (.iload_n 3, 1) := by decide +kernel
theorem dX10_drawDeed_125 : decode cX10_drawDeed 125 = .ok (.invokestatic 88, 3) := by decide +kernel
theorem dX10_drawDeed_128 : decode cX10_drawDeed 128 = .ok (.ifCond .ne 7, 3) := by decide +kernel
theorem dX10_drawDeed_131 : decode cX10_drawDeed 131 = .ok (.iconst 1, 1) := by decide +kernel
theorem dX10_drawDeed_132 : decode cX10_drawDeed 132 = .ok (.goto 4, 3) := by decide +kernel
theorem dX10_drawDeed_135 : decode cX10_drawDeed 135 = .ok (.iconst 0, 1) := by decide +kernel
theorem dX10_drawDeed_136 : decode cX10_drawDeed 136 = .ok (.invokevirtual 338, 3) := by decide +kernel
theorem dX10_drawDeed_139 : decode cX10_drawDeed 139 = .ok (.pop, 1) := by decide +kernel
theorem dX10_drawDeed_140 : decode cX10_drawDeed 140 = .ok (.return_, 1) := by decide +kernel
theorem dX10_drawn_0 : decode cX10_drawn 0 = .ok (.aload_n 0, 1) := by decide +kernel
theorem dX10_drawn_1 : decode cX10_drawn 1 = .ok (.iconst 0, 1) := by decide +kernel
theorem dX10_drawn_2 : decode cX10_drawn 2 = .ok (.putfield 84, 3) := by decide +kernel
theorem dX10_drawn_5 : decode cX10_drawn 5 = .ok (.iload_n 3, 1) := by decide +kernel
theorem dX10_drawn_6 : decode cX10_drawn 6 = .ok (.iconst 0, 1) := by decide +kernel
theorem dX10_drawn_7 : decode cX10_drawn 7 = .ok (.bipush 60, 2) := by decide +kernel
theorem dX10_drawn_9 : decode cX10_drawn 9 = .ok (.invokestatic 96, 3) := by decide +kernel
theorem dX10_drawn_12 : decode cX10_drawn 12 = .ok (.ifCond .eq 11, 3) := by decide +kernel
theorem dX10_drawn_15 : decode cX10_drawn 15 = .ok (.aload_n 0, 1) := by decide +kernel
theorem dX10_drawn_16 : decode cX10_drawn 16 = .ok (.iload_n 1, 1) := by decide +kernel
theorem dX10_drawn_17 : decode cX10_drawn 17 = .ok (.invokevirtual 287, 3) := by decide +kernel
theorem dX10_drawn_20 : decode cX10_drawn 20 = .ok (.ifCond .ne 6, 3) := by decide +kernel
theorem dX10_drawn_23 : decode cX10_drawn 23 = .ok (.bipush (-2), 2) := by decide +kernel
theorem dX10_drawn_25 : decode cX10_drawn 25 = .ok (.ireturn, 1) := by decide +kernel
theorem dX10_drawn_26 : decode cX10_drawn 26 = .ok (.aload_n 0, 1) := by decide +kernel
theorem dX10_drawn_27 : decode cX10_drawn 27 = .ok (.iload_n 2, 1) := by decide +kernel
theorem dX10_drawn_28 : decode cX10_drawn 28 = .ok (.putfield 463, 3) := by decide +kernel
theorem dX10_drawn_31 : decode cX10_drawn 31 = .ok (.aload_n 0, 1) := by decide +kernel
theorem dX10_drawn_32 : decode cX10_drawn 32 = .ok (.invokevirtual 346, 3) := by decide +kernel
theorem dX10_drawn_35 : decode cX10_drawn 35 = .ok (.iconst 0, 1) := by decide +kernel
theorem dX10_drawn_36 : decode cX10_drawn 36 = .ok (.istore 5, 2) := by decide +kernel
theorem dX10_drawn_38 : decode cX10_drawn 38 = .ok (.iload 5, 2) := by decide +kernel
theorem dX10_drawn_40 : decode cX10_drawn 40 = .ok (.iload_n 3, 1) := by decide +kernel
theorem dX10_drawn_41 : decode cX10_drawn 41 = .ok (.if_icmp .ge 13, 3) := by decide +kernel
theorem dX10_drawn_44 : decode cX10_drawn 44 = .ok (.aload_n 0, 1) := by decide +kernel
theorem dX10_drawn_45 : decode cX10_drawn 45 = .ok (.invokevirtual 470, 3) := by decide +kernel
theorem dX10_drawn_48 : decode cX10_drawn 48 = .ok (.iinc 5 1, 3) := by decide +kernel
theorem dX10_drawn_51 : decode cX10_drawn 51 = .ok (.goto (-13), 3) := by decide +kernel
theorem dX10_drawn_54 : decode cX10_drawn 54 = .ok (.aload_n 0, 1) := by decide +kernel
theorem dX10_drawn_55 : decode cX10_drawn 55 = .ok (.iload 4, 2) := by decide +kernel
theorem dX10_drawn_57 : decode cX10_drawn 57 = .ok (.invokevirtual 364, 3) := by decide +kernel
theorem dX10_drawn_60 : decode cX10_drawn 60 = .ok (.ireturn, 1) := by decide +kernel
theorem dX10_lasting_0 : decode cX10_lasting 0 = .ok (.aload_n 0, 1) := by decide +kernel
theorem dX10_lasting_1 : decode cX10_lasting 1 = .ok (.iconst 0, 1) := by decide +kernel
theorem dX10_lasting_2 : decode cX10_lasting 2 = .ok (.putfield 84, 3) := by decide +kernel
theorem dX10_lasting_5 : decode cX10_lasting 5 = .ok (.iload_n 3, 1) := by decide +kernel
theorem dX10_lasting_6 : decode cX10_lasting 6 = .ok (.iconst 0, 1) := by decide +kernel
theorem dX10_lasting_7 : decode cX10_lasting 7 = .ok (.bipush 60, 2) := by decide +kernel
theorem dX10_lasting_9 : decode cX10_lasting 9 = .ok (.invokestatic 96, 3) := by decide +kernel
theorem dX10_lasting_12 : decode cX10_lasting 12 = .ok (.ifCond .eq 19, 3) := by decide +kernel
theorem dX10_lasting_15 : decode cX10_lasting 15 = .ok (.aload_n 0, 1) := by decide +kernel
theorem dX10_lasting_16 : decode cX10_lasting 16 = .ok (.iload_n 1, 1) := by decide +kernel
theorem dX10_lasting_17 : decode cX10_lasting 17 = .ok (.invokevirtual 287, 3) := by decide +kernel
theorem dX10_lasting_20 : decode cX10_lasting 20 = .ok (.ifCond .eq 11, 3) := by decide +kernel
theorem dX10_lasting_23 : decode cX10_lasting 23 = .ok (.aload_n 0, 1) := by decide +kernel
theorem dX10_lasting_24 : decode cX10_lasting 24 = .ok (.iload_n 2, 1) := by decide +kernel
theorem dX10_lasting_25 : decode cX10_lasting 25 = .ok (.invokevirtual 293, 3) := by decide +kernel
theorem dX10_lasting_28 : decode cX10_lasting 28 = .ok (.ifCond .ne 5, 3) := by decide +kernel
theorem dX10_lasting_31 : decode cX10_lasting 31 = .ok (.iconst (-1), 1) := by decide +kernel
theorem dX10_lasting_32 : decode cX10_lasting 32 = .ok (.ireturn, 1) := by decide +kernel
theorem dX10_lasting_33 : decode cX10_lasting 33 = .ok (.iconst (-1), 1) := by decide +kernel
theorem dX10_lasting_34 : decode cX10_lasting 34 = .ok (.istore 5, 2) := by decide +kernel
theorem dX10_lasting_36 : decode cX10_lasting 36 = .ok (.iconst (-1), 1) := by decide +kernel
theorem dX10_lasting_37 : decode cX10_lasting 37 = .ok (.istore 6, 2) := by decide +kernel
theorem dX10_lasting_39 : decode cX10_lasting 39 = .ok (.iconst 0, 1) := by decide +kernel
theorem dX10_lasting_40 : decode cX10_lasting 40 = .ok (.istore 7, 2) := by decide +kernel
theorem dX10_lasting_42 : decode cX10_lasting 42 = .ok (.iload 7, 2) := by decide +kernel
theorem dX10_lasting_44 : decode cX10_lasting 44 = .ok (.aload_n 0, 1) := by decide +kernel
theorem dX10_lasting_45 : decode cX10_lasting 45 = .ok (.getfield 278, 3) := by decide +kernel
theorem dX10_lasting_48 : decode cX10_lasting 48 = .ok (.if_icmp .ge 55, 3) := by decide +kernel
theorem dX10_lasting_51 : decode cX10_lasting 51 = .ok (.iconst 0, 1) := by decide +kernel
theorem dX10_lasting_52 : decode cX10_lasting 52 = .ok (.aload_n 0, 1) := by decide +kernel
theorem dX10_lasting_53 : decode cX10_lasting 53 = .ok (.iload 7, 2) := by decide +kernel
theorem dX10_lasting_55 : decode cX10_lasting 55 = .ok (.iload_n 2, 1) := by decide +kernel
theorem dX10_lasting_56 : decode cX10_lasting 56 = .ok (.invokevirtual 296, 3) := by decide +kernel
theorem dX10_lasting_59 : decode cX10_lasting 59 = .ok (.aload_n 0, 1) := by decide +kernel
theorem dX10_lasting_60 : decode cX10_lasting 60 = .ok (.iload_n 2, 1) := by decide +kernel
theorem dX10_lasting_61 : decode cX10_lasting 61 = .ok (.invokevirtual 323, 3) := by decide +kernel
theorem dX10_lasting_64 : decode cX10_lasting 64 = .ok (.iload_n 3, 1) := by decide +kernel
theorem dX10_lasting_65 : decode cX10_lasting 65 = .ok (.imul, 1) := by decide +kernel
theorem dX10_lasting_66 : decode cX10_lasting 66 = .ok (.isub, 1) := by decide +kernel
theorem dX10_lasting_67 : decode cX10_lasting 67 = .ok (.invokestatic 158, 3) := by decide +kernel
theorem dX10_lasting_70 : decode cX10_lasting 70 = .ok (.istore 8, 2) := by decide +kernel
theorem dX10_lasting_72 : decode cX10_lasting 72 = .ok (.iload 8, 2) := by decide +kernel
theorem dX10_lasting_74 : decode cX10_lasting 74 = .ok (.iload 6, 2) := by decide +kernel
theorem dX10_lasting_76 : decode cX10_lasting 76 = .ok (.if_icmp .le 8, 3) := by decide +kernel
theorem dX10_lasting_79 : decode cX10_lasting 79 = .ok (.iload 7, 2) := by decide +kernel
theorem dX10_lasting_81 : decode cX10_lasting 81 = .ok (.goto 5, 3) := by decide +kernel
theorem dX10_lasting_84 : decode cX10_lasting 84 = .ok (.iload 5, 2) := by decide +kernel
theorem dX10_lasting_86 : decode cX10_lasting 86 = .ok (.istore 5, 2) := by decide +kernel
theorem dX10_lasting_88 : decode cX10_lasting 88 = .ok (.iload 6, 2) := by decide +kernel
theorem dX10_lasting_90 : decode cX10_lasting 90 = .ok (.iload 8, 2) := by decide +kernel
theorem dX10_lasting_92 : decode cX10_lasting 92 = .ok (.invokestatic 158, 3) := by decide +kernel
theorem dX10_lasting_95 : decode cX10_lasting 95 = .ok (.istore 6, 2) := by decide +kernel
theorem dX10_lasting_97 : decode cX10_lasting 97 = .ok (.iinc 7 1, 3) := by decide +kernel
theorem dX10_lasting_100 : decode cX10_lasting 100 = .ok (.goto (-58), 3) := by decide +kernel
theorem dX10_lasting_103 : decode cX10_lasting 103 = .ok (.iload 4, 2) := by decide +kernel
theorem dX10_lasting_105 : decode cX10_lasting 105 = .ok (.ifCond .eq 8, 3) := by decide +kernel
theorem dX10_lasting_108 : decode cX10_lasting 108 = .ok (.iload 6, 2) := by decide +kernel
theorem dX10_lasting_110 : decode cX10_lasting 110 = .ok (.goto 5, 3) := by decide +kernel
theorem dX10_lasting_113 : decode cX10_lasting 113 = .ok (.iload 5, 2) := by decide +kernel
theorem dX10_lasting_115 : decode cX10_lasting 115 = .ok (.ireturn, 1) := by decide +kernel
theorem dX10_lit_0 : decode cX10_lit 0 = .ok (.aload_n 0, 1) := by decide +kernel
theorem dX10_lit_1 : decode cX10_lit 1 = .ok (.iconst 0, 1) := by decide +kernel
theorem dX10_lit_2 : decode cX10_lit 2 = .ok (.putfield 84, 3) := by decide +kernel
theorem dX10_lit_5 : decode cX10_lit 5 = .ok (.iload_n 2, 1) := by decide +kernel
theorem dX10_lit_6 : decode cX10_lit 6 = .ok (.iconst 1, 1) := by decide +kernel
theorem dX10_lit_7 : decode cX10_lit 7 = .ok (.bipush 60, 2) := by decide +kernel
theorem dX10_lit_9 : decode cX10_lit 9 = .ok (.invokestatic 96, 3) := by decide +kernel
theorem dX10_lit_12 : decode cX10_lit 12 = .ok (.ifCond .eq 11, 3) := by decide +kernel
theorem dX10_lit_15 : decode cX10_lit 15 = .ok (.aload_n 0, 1) := by decide +kernel
theorem dX10_lit_16 : decode cX10_lit 16 = .ok (.iload_n 1, 1) := by decide +kernel
theorem dX10_lit_17 : decode cX10_lit 17 = .ok (.invokevirtual 287, 3) := by decide +kernel
theorem dX10_lit_20 : decode cX10_lit 20 = .ok (.ifCond .ne 5, 3) := by decide +kernel
theorem dX10_lit_23 : decode cX10_lit 23 = .ok (.iconst (-1), 1) := by decide +kernel
theorem dX10_lit_24 : decode cX10_lit 24 = .ok (.ireturn, 1) := by decide +kernel
theorem dX10_lit_25 : decode cX10_lit 25 = .ok (.iconst 0, 1) := by decide +kernel
theorem dX10_lit_26 : decode cX10_lit 26 = .ok (.istore_n 3, 1) := by decide +kernel
theorem dX10_lit_27 : decode cX10_lit 27 = .ok (.iconst 0, 1) := by decide +kernel
theorem dX10_lit_28 : decode cX10_lit 28 = .ok (.istore 4, 2) := by decide +kernel
theorem dX10_lit_30 : decode cX10_lit 30 = .ok (.iload 4, 2) := by decide +kernel
theorem dX10_lit_32 : decode cX10_lit 32 = .ok (.aload_n 0, 1) := by decide +kernel
theorem dX10_lit_33 : decode cX10_lit 33 = .ok (.getfield 278, 3) := by decide +kernel
theorem dX10_lit_36 : decode cX10_lit 36 = .ok (.if_icmp .ge 97, 3) := by decide +kernel
theorem dX10_lit_39 : decode cX10_lit 39 = .ok (.iconst 0, 1) := by decide +kernel
theorem dX10_lit_40 : decode cX10_lit 40 = .ok (.istore 5, 2) := by decide +kernel
theorem dX10_lit_42 : decode cX10_lit 42 = .ok (.iconst 0, 1) := by decide +kernel
theorem dX10_lit_43 : decode cX10_lit 43 = .ok (.istore 6, 2) := by decide +kernel
theorem dX10_lit_45 : decode cX10_lit 45 = .ok (.iload 6, 2) := by decide +kernel
theorem dX10_lit_47 : decode cX10_lit 47 = .ok (.aload_n 0, 1) := by decide +kernel
theorem dX10_lit_48 : decode cX10_lit 48 = .ok (.getfield 275, 3) := by decide +kernel
theorem dX10_lit_51 : decode cX10_lit 51 = .ok (.if_icmp .ge 71, 3) := by decide +kernel
theorem dX10_lit_54 : decode cX10_lit 54 = .ok (.aload_n 0, 1) := by decide +kernel
theorem dX10_lit_55 : decode cX10_lit 55 = .ok (.iload 4, 2) := by decide +kernel
theorem dX10_lit_57 : decode cX10_lit 57 = .ok (.iload 6, 2) := by decide +kernel
theorem dX10_lit_59 : decode cX10_lit 59 = .ok (.invokevirtual 296, 3) := by decide +kernel
theorem dX10_lit_62 : decode cX10_lit 62 = .ok (.iload_n 2, 1) := by decide +kernel
theorem dX10_lit_63 : decode cX10_lit 63 = .ok (.isub, 1) := by decide +kernel
theorem dX10_lit_64 : decode cX10_lit 64 = .ok (.istore 7, 2) := by decide +kernel
theorem dX10_lit_66 : decode cX10_lit 66 = .ok (.iload 7, 2) := by decide +kernel
theorem dX10_lit_68 : decode cX10_lit 68 = .ok (.ifCond .ge 7, 3) := by decide +kernel
theorem dX10_lit_71 : decode cX10_lit 71 = .ok (.iconst 0, 1) := by decide +kernel
theorem dX10_lit_72 : decode cX10_lit 72 = .ok (.goto 33, 3) := by decide +kernel
theorem dX10_lit_75 : decode cX10_lit 75 = .ok (.aload_n 0, 1) := by decide +kernel
theorem dX10_lit_76 : decode cX10_lit 76 = .ok (.iload 6, 2) := by decide +kernel
theorem dX10_lit_78 : decode cX10_lit 78 = .ok (.invokevirtual 323, 3) := by decide +kernel
theorem dX10_lit_81 : decode cX10_lit 81 = .ok (.ifCond .ne 8, 3) := by decide +kernel
theorem dX10_lit_84 : decode cX10_lit 84 = .ok (.bipush 60, 2) := by decide +kernel
theorem dX10_lit_86 : decode cX10_lit 86 = .ok (.goto 19, 3) := by decide +kernel
theorem dX10_lit_89 : decode cX10_lit 89 = .ok (.bipush 60, 2) := by decide +kernel
theorem dX10_lit_91 : decode cX10_lit 91 = .ok (.iload 7, 2) := by decide +kernel
theorem dX10_lit_93 : decode cX10_lit 93 = .ok (.aload_n 0, 1) := by decide +kernel
theorem dX10_lit_94 : decode cX10_lit 94 = .ok (.iload 6, 2) := by decide +kernel
theorem dX10_lit_96 : decode cX10_lit 96 = .ok (.invokevirtual 323, 3) := by decide +kernel
theorem dX10_lit_99 : decode cX10_lit 99 = .ok (.idiv, 1) := by decide +kernel
theorem dX10_lit_100 : decode cX10_lit 100 = .ok (.iconst 1, 1) := by decide +kernel
theorem dX10_lit_101 : decode cX10_lit 101 = .ok (.iadd, 1) := by decide +kernel
theorem dX10_lit_102 : decode cX10_lit 102 = .ok (.invokestatic 284, 3) := by decide +kernel
theorem dX10_lit_105 : decode cX10_lit 105 = .ok (.istore 8, 2) := by decide +kernel
theorem dX10_lit_107 : decode cX10_lit 107 = .ok (.iload 5, 2) := by decide +kernel
theorem dX10_lit_109 : decode cX10_lit 109 = .ok (.iload 8, 2) := by decide +kernel
theorem dX10_lit_111 : decode cX10_lit 111 = .ok (.invokestatic 158, 3) := by decide +kernel
theorem dX10_lit_114 : decode cX10_lit 114 = .ok (.istore 5, 2) := by decide +kernel
theorem dX10_lit_116 : decode cX10_lit 116 = .ok (.iinc 6 1, 3) := by decide +kernel
theorem dX10_lit_119 : decode cX10_lit 119 = .ok (.goto (-74), 3) := by decide +kernel
theorem dX10_lit_122 : decode cX10_lit 122 = .ok (.iload_n 3, 1) := by decide +kernel
theorem dX10_lit_123 : decode cX10_lit 123 = .ok (.iload 5, 2) := by decide +kernel
theorem dX10_lit_125 : decode cX10_lit 125 = .ok (.iadd, 1) := by decide +kernel
theorem dX10_lit_126 : decode cX10_lit 126 = .ok (.istore_n 3, 1) := by decide +kernel
theorem dX10_lit_127 : decode cX10_lit 127 = .ok (.iinc 4 1, 3) := by decide +kernel
theorem dX10_lit_130 : decode cX10_lit 130 = .ok (.goto (-100), 3) := by decide +kernel
theorem dX10_lit_133 : decode cX10_lit 133 = .ok (.iload_n 3, 1) := by decide +kernel
theorem dX10_lit_134 : decode cX10_lit 134 = .ok (.ireturn, 1) := by decide +kernel
theorem dX10_dusky_0 : decode cX10_dusky 0 = .ok (.aload_n 0, 1) := by decide +kernel
theorem dX10_dusky_1 : decode cX10_dusky 1 = .ok (.iconst 0, 1) := by decide +kernel
theorem dX10_dusky_2 : decode cX10_dusky 2 = .ok (.putfield 84, 3) := by decide +kernel
theorem dX10_dusky_5 : decode cX10_dusky 5 = .ok (.aload_n 0, 1) := by decide +kernel
theorem dX10_dusky_6 : decode cX10_dusky 6 = .ok (.iload_n 1, 1) := by decide +kernel
theorem dX10_dusky_7 : decode cX10_dusky 7 = .ok (.invokevirtual 287, 3) := by decide +kernel
theorem dX10_dusky_10 : decode cX10_dusky 10 = .ok (.ifCond .eq 19, 3) := by decide +kernel
theorem dX10_dusky_13 : decode cX10_dusky 13 = .ok (.aload_n 0, 1) := by decide +kernel
theorem dX10_dusky_14 : decode cX10_dusky 14 = .ok (.iload_n 2, 1) := by decide +kernel
theorem dX10_dusky_15 : decode cX10_dusky 15 = .ok (.invokevirtual 290, 3) := by decide +kernel
theorem dX10_dusky_18 : decode cX10_dusky 18 = .ok (.ifCond .eq 11, 3) := by decide +kernel
theorem dX10_dusky_21 : decode cX10_dusky 21 = .ok (.aload_n 0, 1) := by decide +kernel
theorem dX10_dusky_22 : decode cX10_dusky 22 = .ok (.getfield 275, 3) := by decide +kernel
theorem dX10_dusky_25 : decode cX10_dusky 25 = .ok (.iconst 2, 1) := by decide +kernel
theorem dX10_dusky_26 : decode cX10_dusky 26 = .ok (.if_icmp .ge 5, 3) := by decide +kernel
theorem dX10_dusky_29 : decode cX10_dusky 29 = .ok (.iconst (-1), 1) := by decide +kernel
theorem dX10_dusky_30 : decode cX10_dusky 30 = .ok (.ireturn, 1) := by decide +kernel
theorem dX10_dusky_31 : decode cX10_dusky 31 = .ok (.iconst (-1), 1) := by decide +kernel
theorem dX10_dusky_32 : decode cX10_dusky 32 = .ok (.istore 4, 2) := by decide +kernel
theorem dX10_dusky_34 : decode cX10_dusky 34 = .ok (.iconst (-1), 1) := by decide +kernel
theorem dX10_dusky_35 : decode cX10_dusky 35 = .ok (.istore 5, 2) := by decide +kernel
theorem dX10_dusky_37 : decode cX10_dusky 37 = .ok (.iconst 0, 1) := by decide +kernel
theorem dX10_dusky_38 : decode cX10_dusky 38 = .ok (.istore 6, 2) := by decide +kernel
theorem dX10_dusky_40 : decode cX10_dusky 40 = .ok (.iload 6, 2) := by decide +kernel
theorem dX10_dusky_42 : decode cX10_dusky 42 = .ok (.aload_n 0, 1) := by decide +kernel
theorem dX10_dusky_43 : decode cX10_dusky 43 = .ok (.getfield 275, 3) := by decide +kernel
theorem dX10_dusky_46 : decode cX10_dusky 46 = .ok (.if_icmp .ge 104, 3) := by decide +kernel
theorem dX10_dusky_49 : decode cX10_dusky 49 = .ok (.iload 6, 2) := by decide +kernel
theorem dX10_dusky_51 : decode cX10_dusky 51 = .ok (.iconst 1, 1) := by decide +kernel
theorem dX10_dusky_52 : decode cX10_dusky 52 = .ok (.iadd, 1) := by decide +kernel
theorem dX10_dusky_53 : decode cX10_dusky 53 = .ok (.istore 7, 2) := by decide +kernel
theorem dX10_dusky_55 : decode cX10_dusky 55 = .ok (.iload 7, 2) := by decide +kernel
theorem dX10_dusky_57 : decode cX10_dusky 57 = .ok (.aload_n 0, 1) := by decide +kernel
theorem dX10_dusky_58 : decode cX10_dusky 58 = .ok (.getfield 275, 3) := by decide +kernel
theorem dX10_dusky_61 : decode cX10_dusky 61 = .ok (.if_icmp .ge 83, 3) := by decide +kernel
theorem dX10_dusky_64 : decode cX10_dusky 64 = .ok (.aload_n 0, 1) := by decide +kernel
theorem dX10_dusky_65 : decode cX10_dusky 65 = .ok (.aload_n 0, 1) := by decide +kernel
theorem dX10_dusky_66 : decode cX10_dusky 66 = .ok (.iload_n 2, 1) := by decide +kernel
theorem dX10_dusky_67 : decode cX10_dusky 67 = .ok (.iload 6, 2) := by decide +kernel
theorem dX10_dusky_69 : decode cX10_dusky 69 = .ok (.invokevirtual 296, 3) := by decide +kernel
theorem dX10_dusky_72 : decode cX10_dusky 72 = .ok (.iconst 2, 1) := by decide +kernel
theorem dX10_dusky_73 : decode cX10_dusky 73 = .ok (.idiv, 1) := by decide +kernel
theorem dX10_dusky_74 : decode cX10_dusky 74 = .ok (.aload_n 0, 1) := by decide +kernel
theorem dX10_dusky_75 : decode cX10_dusky 75 = .ok (.iload 6, 2) := by decide +kernel
theorem dX10_dusky_77 : decode cX10_dusky 77 = .ok (.invokevirtual 323, 3) := by decide +kernel
theorem dX10_dusky_80 : decode cX10_dusky 80 = .ok (.invokevirtual 441, 3) := by decide +kernel
theorem dX10_dusky_83 : decode cX10_dusky 83 = .ok (.aload_n 0, 1) := by decide +kernel
theorem dX10_dusky_84 : decode cX10_dusky 84 = .ok (.aload_n 0, 1) := by decide +kernel
theorem dX10_dusky_85 : decode cX10_dusky 85 = .ok (.iload_n 2, 1) := by decide +kernel
theorem dX10_dusky_86 : decode cX10_dusky 86 = .ok (.iload 7, 2) := by decide +kernel
theorem dX10_dusky_88 : decode cX10_dusky 88 = .ok (.invokevirtual 296, 3) := by decide +kernel
theorem dX10_dusky_91 : decode cX10_dusky 91 = .ok (.iconst 2, 1) := by decide +kernel
theorem dX10_dusky_92 : decode cX10_dusky 92 = .ok (.idiv, 1) := by decide +kernel
theorem dX10_dusky_93 : decode cX10_dusky 93 = .ok (.aload_n 0, 1) := by decide +kernel
theorem dX10_dusky_94 : decode cX10_dusky 94 = .ok (.iload 7, 2) := by decide +kernel
theorem dX10_dusky_96 : decode cX10_dusky 96 = .ok (.invokevirtual 323, 3) := by decide +kernel
theorem dX10_dusky_99 : decode cX10_dusky 99 = .ok (.invokevirtual 441, 3) := by decide +kernel
theorem dX10_dusky_102 : decode cX10_dusky 102 = .ok (.invokestatic 284, 3) := by decide +kernel
theorem dX10_dusky_105 : decode cX10_dusky 105 = .ok (.istore 8, 2) := by decide +kernel
theorem dX10_dusky_107 : decode cX10_dusky 107 = .ok (.iload 8, 2) := by decide +kernel
theorem dX10_dusky_109 : decode cX10_dusky 109 = .ok (.iload 5, 2) := by decide +kernel
theorem dX10_dusky_111 : decode cX10_dusky 111 = .ok (.if_icmp .le 14, 3) := by decide +kernel
theorem dX10_dusky_114 : decode cX10_dusky 114 = .ok (.bipush 10, 2) := by decide +kernel
theorem dX10_dusky_116 : decode cX10_dusky 116 = .ok (.iload 6, 2) := by decide +kernel
theorem dX10_dusky_118 : decode cX10_dusky 118 = .ok (.imul, 1) := by decide +kernel
theorem dX10_dusky_119 : decode cX10_dusky 119 = .ok (.iload 7, 2) := by decide +kernel
theorem dX10_dusky_121 : decode cX10_dusky 121 = .ok (.iadd, 1) := by decide +kernel
theorem dX10_dusky_122 : decode cX10_dusky 122 = .ok (.goto 5, 3) := by decide +kernel
theorem dX10_dusky_125 : decode cX10_dusky 125 = .ok (.iload 4, 2) := by decide +kernel
theorem dX10_dusky_127 : decode cX10_dusky 127 = .ok (.istore 4, 2) := by decide +kernel
theorem dX10_dusky_129 : decode cX10_dusky 129 = .ok (.iload 5, 2) := by decide +kernel
theorem dX10_dusky_131 : decode cX10_dusky 131 = .ok (.iload 8, 2) := by decide +kernel
theorem dX10_dusky_133 : decode cX10_dusky 133 = .ok (.invokestatic 158, 3) := by decide +kernel
theorem dX10_dusky_136 : decode cX10_dusky 136 = .ok (.istore 5, 2) := by decide +kernel
theorem dX10_dusky_138 : decode cX10_dusky 138 = .ok (.iinc 7 1, 3) := by decide +kernel
theorem dX10_dusky_141 : decode cX10_dusky 141 = .ok (.goto (-86), 3) := by decide +kernel
theorem dX10_dusky_144 : decode cX10_dusky 144 = .ok (.iinc 6 1, 3) := by decide +kernel
theorem dX10_dusky_147 : decode cX10_dusky 147 = .ok (.goto (-107), 3) := by decide +kernel
theorem dX10_dusky_150 : decode cX10_dusky 150 = .ok (.iload_n 3, 1) := by decide +kernel
theorem dX10_dusky_151 : decode cX10_dusky 151 = .ok (.ifCond .eq 8, 3) := by decide +kernel
theorem dX10_dusky_154 : decode cX10_dusky 154 = .ok (.iload 5, 2) := by decide +kernel
theorem dX10_dusky_156 : decode cX10_dusky 156 = .ok (.goto 5, 3) := by decide +kernel
theorem dX10_dusky_159 : decode cX10_dusky 159 = .ok (.iload 4, 2) := by decide +kernel
theorem dX10_dusky_161 : decode cX10_dusky 161 = .ok (.ireturn, 1) := by decide +kernel
theorem dX10_allWorth_0 : decode cX10_allWorth 0 = .ok (.iconst 0, 1) := by decide +kernel
theorem dX10_allWorth_1 : decode cX10_allWorth 1 = .ok (.istore_n 3, 1) := by decide +kernel
theorem dX10_allWorth_2 : decode cX10_allWorth 2 = .ok (.iconst 0, 1) := by decide +kernel
theorem dX10_allWorth_3 : decode cX10_allWorth 3 = .ok (.istore 4, 2) := by decide +kernel
theorem dX10_allWorth_5 : decode cX10_allWorth 5 = .ok (.iload 4, 2) := by decide +kernel
theorem dX10_allWorth_7 : decode cX10_allWorth 7 = .ok (.aload_n 0, 1) := by decide +kernel
theorem dX10_allWorth_8 : decode cX10_allWorth 8 = .ok (.getfield 278, 3) := by decide +kernel
theorem dX10_allWorth_11 : decode cX10_allWorth 11 = .ok (.if_icmp .ge 105, 3) := by decide +kernel
theorem dX10_allWorth_14 : decode cX10_allWorth 14 = .ok (.iconst 0, 1) := by decide +kernel
theorem dX10_allWorth_15 : decode cX10_allWorth 15 = .ok (.istore 5, 2) := by decide +kernel
theorem dX10_allWorth_17 : decode cX10_allWorth 17 = .ok (.iload 5, 2) := by decide +kernel
theorem dX10_allWorth_19 : decode cX10_allWorth 19 = .ok (.aload_n 0, 1) := by decide +kernel
theorem dX10_allWorth_20 : decode cX10_allWorth 20 = .ok (.getfield 275, 3) := by decide +kernel
theorem dX10_allWorth_23 : decode cX10_allWorth 23 = .ok (.if_icmp .ge 87, 3) := by decide +kernel
theorem dX10_allWorth_26 : decode cX10_allWorth 26 = .ok (.iload 5, 2) := by decide +kernel
theorem dX10_allWorth_28 : decode cX10_allWorth 28 = .ok (.iload_n 1, 1) := by decide +kernel
theorem dX10_allWorth_29 : decode cX10_allWorth 29 = .ok (.if_icmp .ne 7, 3) := by decide +kernel
theorem dX10_allWorth_32 : decode cX10_allWorth 32 = .ok (.iload_n 2, 1) := by decide +kernel
theorem dX10_allWorth_33 : decode cX10_allWorth 33 = .ok (.goto 11, 3) := by decide +kernel
theorem dX10_allWorth_36 : decode cX10_allWorth 36 = .ok (.aload_n 0, 1) := by decide +kernel
theorem dX10_allWorth_37 : decode cX10_allWorth 37 = .ok (.iconst 3, 1) := by decide +kernel
theorem dX10_allWorth_38 : decode cX10_allWorth 38 = .ok (.iload 5, 2) := by decide +kernel
theorem dX10_allWorth_40 : decode cX10_allWorth 40 = .ok (.iadd, 1) := by decide +kernel
theorem dX10_allWorth_41 : decode cX10_allWorth 41 = .ok (.invokevirtual 271, 3) := by decide +kernel
theorem dX10_allWorth_44 : decode cX10_allWorth 44 = .ok (.istore 6, 2) := by decide +kernel
theorem dX10_allWorth_46 : decode cX10_allWorth 46 = .ok (.aload_n 0, 1) := by decide +kernel
theorem dX10_allWorth_47 : decode cX10_allWorth 47 = .ok (.bipush 37, 2) := by decide +kernel
theorem dX10_allWorth_49 : decode cX10_allWorth 49 = .ok (.iload 4, 2) := by decide +kernel
theorem dX10_allWorth_51 : decode cX10_allWorth 51 = .ok (.iadd, 1) := by decide +kernel
theorem dX10_allWorth_52 : decode cX10_allWorth 52 = .ok (.invokevirtual 271, 3) := by decide +kernel
theorem dX10_allWorth_55 : decode cX10_allWorth 55 = .ok (.aload_n 0, 1) := by decide +kernel
theorem dX10_allWorth_56 : decode cX10_allWorth 56 = .ok (.bipush 27, 2) := by decide +kernel
theorem dX10_allWorth_58 : decode cX10_allWorth 58 = .ok (.iload 4, 2) := by decide +kernel
theorem dX10_allWorth_60 : decode cX10_allWorth 60 = .ok (.iadd, 1) := by decide +kernel
theorem dX10_allWorth_61 : decode cX10_allWorth 61 = .ok (.invokevirtual 271, 3) := by decide +kernel
theorem dX10_allWorth_64 : decode cX10_allWorth 64 = .ok (.iload 6, 2) := by decide +kernel
theorem dX10_allWorth_66 : decode cX10_allWorth 66 = .ok (.if_icmp .ne 7, 3) := by decide +kernel
theorem dX10_allWorth_69 : decode cX10_allWorth 69 = .ok (.iconst 2, 1) := by decide +kernel
theorem dX10_allWorth_70 : decode cX10_allWorth 70 = .ok (.goto 4, 3) := by decide +kernel
theorem dX10_allWorth_73 : decode cX10_allWorth 73 = .ok (.iconst 1, 1) := by decide +kernel
theorem dX10_allWorth_74 : decode cX10_allWorth 74 = .ok (.imul, 1) := by decide +kernel
theorem dX10_allWorth_75 : decode cX10_allWorth 75 = .ok (.istore 7, 2) := by decide +kernel
theorem dX10_allWorth_77 : decode cX10_allWorth 77 = .ok (.iload_n 3, 1) := by decide +kernel
theorem dX10_allWorth_78 : decode cX10_allWorth 78 = .ok (.aload_n 0, 1) := by decide +kernel
theorem dX10_allWorth_79 : decode cX10_allWorth 79 = .ok (.getfield 44, 3) := by decide +kernel
theorem dX10_allWorth_82 : decode cX10_allWorth 82 = .ok (.iload 5, 2) := by decide +kernel
theorem dX10_allWorth_84 : decode cX10_allWorth 84 = .ok (.iaload, 1) := by decide +kernel
theorem dX10_allWorth_85 : decode cX10_allWorth 85 = .ok (.iload 4, 2) := by decide +kernel
theorem dX10_allWorth_87 : decode cX10_allWorth 87 = .ok (.invokestatic 88, 3) := by decide +kernel
theorem dX10_allWorth_90 : decode cX10_allWorth 90 = .ok (.ifCond .eq 10, 3) := by decide +kernel
theorem dX10_allWorth_93 : decode cX10_allWorth 93 = .ok (.iload 7, 2) := by decide +kernel
theorem dX10_allWorth_95 : decode cX10_allWorth 95 = .ok (.iconst 2, 1) := by decide +kernel
theorem dX10_allWorth_96 : decode cX10_allWorth 96 = .ok (.idiv, 1) := by decide +kernel
theorem dX10_allWorth_97 : decode cX10_allWorth 97 = .ok (.goto 5, 3) := by decide +kernel
theorem dX10_allWorth_100 : decode cX10_allWorth 100 = .ok (.iload 7, 2) := by decide +kernel
theorem dX10_allWorth_102 : decode cX10_allWorth 102 = .ok (.iadd, 1) := by decide +kernel
theorem dX10_allWorth_103 : decode cX10_allWorth 103 = .ok (.istore_n 3, 1) := by decide +kernel
theorem dX10_allWorth_104 : decode cX10_allWorth 104 = .ok (.iinc 5 1, 3) := by decide +kernel
theorem dX10_allWorth_107 : decode cX10_allWorth 107 = .ok (.goto (-90), 3) := by decide +kernel
theorem dX10_allWorth_110 : decode cX10_allWorth 110 = .ok (.iinc 4 1, 3) := by decide +kernel
theorem dX10_allWorth_113 : decode cX10_allWorth 113 = .ok (.goto (-108), 3) := by decide +kernel
theorem dX10_allWorth_116 : decode cX10_allWorth 116 = .ok (.iload_n 3, 1) := by decide +kernel
theorem dX10_allWorth_117 : decode cX10_allWorth 117 = .ok (.ireturn, 1) := by decide +kernel
theorem dX10_fitter_0 : decode cX10_fitter 0 = .ok (.aload_n 0, 1) := by decide +kernel
theorem dX10_fitter_1 : decode cX10_fitter 1 = .ok (.iconst 0, 1) := by decide +kernel
theorem dX10_fitter_2 : decode cX10_fitter 2 = .ok (.putfield 84, 3) := by decide +kernel
theorem dX10_fitter_5 : decode cX10_fitter 5 = .ok (.aload_n 0, 1) := by decide +kernel
theorem dX10_fitter_6 : decode cX10_fitter 6 = .ok (.iload_n 1, 1) := by decide +kernel
theorem dX10_fitter_7 : decode cX10_fitter 7 = .ok (.invokevirtual 287, 3) := by decide +kernel
theorem dX10_fitter_10 : decode cX10_fitter 10 = .ok (.ifCond .ne 5, 3) := by decide +kernel
theorem dX10_fitter_13 : decode cX10_fitter 13 = .ok (.iconst (-1), 1) := by decide +kernel
theorem dX10_fitter_14 : decode cX10_fitter 14 = .ok (.ireturn, 1) := by decide +kernel
theorem dX10_fitter_15 : decode cX10_fitter 15 = .ok (.iconst (-1), 1) := by decide +kernel
theorem dX10_fitter_16 : decode cX10_fitter 16 = .ok (.istore_n 3, 1) := by decide +kernel
theorem dX10_fitter_17 : decode cX10_fitter 17 = .ok (.iconst (-1), 1) := by decide +kernel
theorem dX10_fitter_18 : decode cX10_fitter 18 = .ok (.istore 4, 2) := by decide +kernel
theorem dX10_fitter_20 : decode cX10_fitter 20 = .ok (.iconst 0, 1) := by decide +kernel
theorem dX10_fitter_21 : decode cX10_fitter 21 = .ok (.istore 5, 2) := by decide +kernel
theorem dX10_fitter_23 : decode cX10_fitter 23 = .ok (.iload 5, 2) := by decide +kernel
theorem dX10_fitter_25 : decode cX10_fitter 25 = .ok (.iconst 4, 1) := by decide +kernel
theorem dX10_fitter_26 : decode cX10_fitter 26 = .ok (.aload_n 0, 1) := by decide +kernel
theorem dX10_fitter_27 : decode cX10_fitter 27 = .ok (.getfield 275, 3) := by decide +kernel
theorem dX10_fitter_30 : decode cX10_fitter 30 = .ok (.imul, 1) := by decide +kernel
theorem dX10_fitter_31 : decode cX10_fitter 31 = .ok (.if_icmp .ge 56, 3) := by decide +kernel
theorem dX10_fitter_34 : decode cX10_fitter 34 = .ok (.aload_n 0, 1) := by decide +kernel
theorem dX10_fitter_35 : decode cX10_fitter 35 = .ok (.iload 5, 2) := by decide +kernel
theorem dX10_fitter_37 : decode cX10_fitter 37 = .ok (.iconst 4, 1) := by decide +kernel
theorem dX10_fitter_38 : decode cX10_fitter 38 = .ok (.idiv, 1) := by decide +kernel
theorem dX10_fitter_39 : decode cX10_fitter 39 = .ok (.iload 5, 2) := by decide +kernel
theorem dX10_fitter_41 : decode cX10_fitter 41 = .ok (.iconst 4, 1) := by decide +kernel
theorem dX10_fitter_42 : decode cX10_fitter 42 = .ok (.irem, 1) := by decide +kernel
theorem dX10_fitter_43 : decode cX10_fitter 43 = .ok (.invokevirtual 473, 3) := by decide +kernel
theorem dX10_fitter_46 : decode cX10_fitter 46 = .ok (.istore 6, 2) := by decide +kernel
theorem dX10_fitter_48 : decode cX10_fitter 48 = .ok (.iload 6, 2) := by decide +kernel
theorem dX10_fitter_50 : decode cX10_fitter 50 = .ok (.iload 4, 2) := by decide +kernel
theorem dX10_fitter_52 : decode cX10_fitter 52 = .ok (.if_icmp .le 18, 3) := by decide +kernel
theorem dX10_fitter_55 : decode cX10_fitter 55 = .ok (.bipush 10, 2) := by decide +kernel
theorem dX10_fitter_57 : decode cX10_fitter 57 = .ok (.iload 5, 2) := by decide +kernel
theorem dX10_fitter_59 : decode cX10_fitter 59 = .ok (.iconst 4, 1) := by decide +kernel
theorem dX10_fitter_60 : decode cX10_fitter 60 = .ok (.idiv, 1) := by decide +kernel
theorem dX10_fitter_61 : decode cX10_fitter 61 = .ok (.imul, 1) := by decide +kernel
theorem dX10_fitter_62 : decode cX10_fitter 62 = .ok (.iload 5, 2) := by decide +kernel
theorem dX10_fitter_64 : decode cX10_fitter 64 = .ok (.iconst 4, 1) := by decide +kernel
theorem dX10_fitter_65 : decode cX10_fitter 65 = .ok (.irem, 1) := by decide +kernel
theorem dX10_fitter_66 : decode cX10_fitter 66 = .ok (.iadd, 1) := by decide +kernel
theorem dX10_fitter_67 : decode cX10_fitter 67 = .ok (.goto 4, 3) := by decide +kernel
theorem dX10_fitter_70 : decode cX10_fitter 70 = .ok (.iload_n 3, 1) := by decide +kernel
theorem dX10_fitter_71 : decode cX10_fitter 71 = .ok (.istore_n 3, 1) := by decide +kernel
theorem dX10_fitter_72 : decode cX10_fitter 72 = .ok (.iload 4, 2) := by decide +kernel
theorem dX10_fitter_74 : decode cX10_fitter 74 = .ok (.iload 6, 2) := by decide +kernel
theorem dX10_fitter_76 : decode cX10_fitter 76 = .ok (.invokestatic 158, 3) := by decide +kernel
theorem dX10_fitter_79 : decode cX10_fitter 79 = .ok (.istore 4, 2) := by decide +kernel
theorem dX10_fitter_81 : decode cX10_fitter 81 = .ok (.iinc 5 1, 3) := by decide +kernel
theorem dX10_fitter_84 : decode cX10_fitter 84 = .ok (.goto (-61), 3) := by decide +kernel
theorem dX10_fitter_87 : decode cX10_fitter 87 = .ok (.iload_n 2, 1) := by decide +kernel
theorem dX10_fitter_88 : decode cX10_fitter 88 = .ok (.ifCond .eq 8, 3) := by decide +kernel
theorem dX10_fitter_91 : decode cX10_fitter 91 = .ok (.iload 4, 2) := by decide +kernel
theorem dX10_fitter_93 : decode cX10_fitter 93 = .ok (.goto 4, 3) := by decide +kernel
theorem dX10_fitter_96 : decode cX10_fitter 96 = .ok (.iload_n 3, 1) := by decide +kernel
theorem dX10_fitter_97 : decode cX10_fitter 97 = .ok (.ireturn, 1) := by decide +kernel
theorem dX10_unlike_0 : decode cX10_unlike 0 = .ok (.aload_n 0, 1) := by decide +kernel
theorem dX10_unlike_1 : decode cX10_unlike 1 = .ok (.iconst 0, 1) := by decide +kernel
theorem dX10_unlike_2 : decode cX10_unlike 2 = .ok (.putfield 84, 3) := by decide +kernel
theorem dX10_unlike_5 : decode cX10_unlike 5 = .ok (.aload_n 0, 1) := by decide +kernel
theorem dX10_unlike_6 : decode cX10_unlike 6 = .ok (.iconst 0, 1) := by decide +kernel
theorem dX10_unlike_7 : decode cX10_unlike 7 = .ok (.iload_n 2, 1) := by decide +kernel
theorem dX10_unlike_8 : decode cX10_unlike 8 = .ok (.invokevirtual 259, 3) := by decide +kernel
theorem dX10_unlike_11 : decode cX10_unlike 11 = .ok (.ifCond .eq 11, 3) := by decide +kernel
theorem dX10_unlike_14 : decode cX10_unlike 14 = .ok (.aload_n 0, 1) := by decide +kernel
theorem dX10_unlike_15 : decode cX10_unlike 15 = .ok (.iload_n 1, 1) := by decide +kernel
theorem dX10_unlike_16 : decode cX10_unlike 16 = .ok (.invokevirtual 287, 3) := by decide +kernel
theorem dX10_unlike_19 : decode cX10_unlike 19 = .ok (.ifCond .ne 5, 3) := by decide +kernel
theorem dX10_unlike_22 : decode cX10_unlike 22 = .ok (.iconst (-1), 1) := by decide +kernel
theorem dX10_unlike_23 : decode cX10_unlike 23 = .ok (.ireturn, 1) := by decide +kernel
theorem dX10_unlike_24 : decode cX10_unlike 24 = .ok (.iconst 0, 1) := by decide +kernel
theorem dX10_unlike_25 : decode cX10_unlike 25 = .ok (.istore_n 3, 1) := by decide +kernel
theorem dX10_unlike_26 : decode cX10_unlike 26 = .ok (.iload_n 3, 1) := by decide +kernel
theorem dX10_unlike_27 : decode cX10_unlike 27 = .ok (.bipush 80, 2) := by decide +kernel
theorem dX10_unlike_29 : decode cX10_unlike 29 = .ok (.if_icmp .ge 53, 3) := by decide +kernel
theorem dX10_unlike_32 : decode cX10_unlike 32 = .ok (.aload_n 0, 1) := by decide +kernel
theorem dX10_unlike_33 : decode cX10_unlike 33 = .ok (.getfield 74, 3) := by decide +kernel
theorem dX10_unlike_36 : decode cX10_unlike 36 = .ok (.iload_n 3, 1) := by decide +kernel
theorem dX10_unlike_37 : decode cX10_unlike 37 = .ok (.aload_n 0, 1) := by decide +kernel
theorem dX10_unlike_38 : decode cX10_unlike 38 = .ok (.iload_n 3, 1) := by decide +kernel
theorem dX10_unlike_39 : decode cX10_unlike 39 = .ok (.bipush 8, 2) := by decide +kernel
theorem dX10_unlike_41 : decode cX10_unlike 41 = .ok (.idiv, 1) := by decide +kernel
theorem dX10_unlike_42 : decode cX10_unlike 42 = .ok (.invokevirtual 290, 3) := by decide +kernel
theorem dX10_unlike_45 : decode cX10_unlike 45 = .ok (.ifCond .eq 29, 3) := by decide +kernel
theorem dX10_unlike_48 : decode cX10_unlike 48 = .ok (.aload_n 0, 1) := by decide +kernel
theorem dX10_unlike_49 : decode cX10_unlike 49 = .ok (.iload_n 3, 1) := by decide +kernel
theorem dX10_unlike_50 : decode cX10_unlike 50 = .ok (.bipush 8, 2) := by decide +kernel
theorem dX10_unlike_52 : decode cX10_unlike 52 = .ok (.irem, 1) := by decide +kernel
theorem dX10_unlike_53 : decode cX10_unlike 53 = .ok (.invokevirtual 293, 3) := by decide +kernel
theorem dX10_unlike_56 : decode cX10_unlike 56 = .ok (.ifCond .eq 18, 3) := by decide +kernel
theorem dX10_unlike_59 : decode cX10_unlike 59 = .ok (.aload_n 0, 1) := by decide +kernel
theorem dX10_unlike_60 : decode cX10_unlike 60 = .ok (.iload_n 3, 1) := by decide +kernel
theorem dX10_unlike_61 : decode cX10_unlike 61 = .ok (.bipush 8, 2) := by decide +kernel
theorem dX10_unlike_63 : decode cX10_unlike 63 = .ok (.idiv, 1) := by decide +kernel
theorem dX10_unlike_64 : decode cX10_unlike 64 = .ok (.iload_n 3, 1) := by decide +kernel
theorem dX10_unlike_65 : decode cX10_unlike 65 = .ok (.bipush 8, 2) := by decide +kernel
theorem dX10_unlike_67 : decode cX10_unlike 67 = .ok (.irem, 1) := by decide +kernel
theorem dX10_unlike_68 : decode cX10_unlike 68 = .ok (.invokevirtual 296, 3) := by decide +kernel
theorem dX10_unlike_71 : decode cX10_unlike 71 = .ok (.goto 4, 3) := by decide +kernel
theorem dX10_unlike_74 : decode cX10_unlike 74 = .ok (.iconst (-1), 1) := by decide +kernel
theorem dX10_unlike_75 : decode cX10_unlike 75 = .ok (.iastore, 1) := by decide +kernel
theorem dX10_unlike_76 : decode cX10_unlike 76 = .ok (.iinc 3 1, 3) := by decide +kernel
theorem dX10_unlike_79 : decode cX10_unlike 79 = .ok (.goto (-53), 3) := by decide +kernel
theorem dX10_unlike_82 : decode cX10_unlike 82 = .ok (.aload_n 0, 1) := by decide +kernel
theorem dX10_unlike_83 : decode cX10_unlike 83 = .ok (.iload_n 2, 1) := by decide +kernel
theorem dX10_unlike_84 : decode cX10_unlike 84 = .ok (.invokevirtual 287, 3) := by decide +kernel
theorem dX10_unlike_87 : decode cX10_unlike 87 = .ok (.pop, 1) := by decide +kernel
theorem dX10_unlike_88 : decode cX10_unlike 88 = .ok (.iconst 0, 1) := by decide +kernel
theorem dX10_unlike_89 : decode cX10_unlike 89 = .ok (.istore_n 3, 1) := by decide +kernel
theorem dX10_unlike_90 : decode cX10_unlike 90 = .ok (.iconst 0, 1) := by decide +kernel
theorem dX10_unlike_91 : decode cX10_unlike 91 = .ok (.istore 4, 2) := by decide +kernel
theorem dX10_unlike_93 : decode cX10_unlike 93 = .ok (.iload 4, 2) := by decide +kernel
theorem dX10_unlike_95 : decode cX10_unlike 95 = .ok (.bipush 80, 2) := by decide +kernel
theorem dX10_unlike_97 : decode cX10_unlike 97 = .ok (.if_icmp .ge 88, 3) := by decide +kernel
theorem dX10_unlike_100 : decode cX10_unlike 100 = .ok (.aload_n 0, 1) := by decide +kernel
theorem dX10_unlike_101 : decode cX10_unlike 101 = .ok (.getfield 74, 3) := by decide +kernel
theorem dX10_unlike_104 : decode cX10_unlike 104 = .ok (.iload 4, 2) := by decide +kernel
theorem dX10_unlike_106 : decode cX10_unlike 106 = .ok (.iaload, 1) := by decide +kernel
theorem dX10_unlike_107 : decode cX10_unlike 107 = .ok (.iconst (-1), 1) := by decide +kernel
theorem dX10_unlike_108 : decode cX10_unlike 108 = .ok (.if_icmp .eq 31, 3) := by decide +kernel
theorem dX10_unlike_111 : decode cX10_unlike 111 = .ok (.aload_n 0, 1) := by decide +kernel
theorem dX10_unlike_112 : decode cX10_unlike 112 = .ok (.iload 4, 2) := by decide +kernel
theorem dX10_unlike_114 : decode cX10_unlike 114 = .ok (.bipush 8, 2) := by decide +kernel
theorem dX10_unlike_116 : decode cX10_unlike 116 = .ok (.idiv, 1) := by decide +kernel
theorem dX10_unlike_117 : decode cX10_unlike 117 = .ok (.invokevirtual 290, 3) := by decide +kernel
theorem dX10_unlike_120 : decode cX10_unlike 120 = .ok (.ifCond .eq 19, 3) := by decide +kernel
theorem dX10_unlike_123 : decode cX10_unlike 123 = .ok (.aload_n 0, 1) := by decide +kernel
theorem dX10_unlike_124 : decode cX10_unlike 124 = .ok (.iload 4, 2) := by decide +kernel
theorem dX10_unlike_126 : decode cX10_unlike 126 = .ok (.bipush 8, 2) := by decide +kernel
theorem dX10_unlike_128 : decode cX10_unlike 128 = .ok (.irem, 1) := by decide +kernel
theorem dX10_unlike_129 : decode cX10_unlike 129 = .ok (.invokevirtual 293, 3) := by decide +kernel
theorem dX10_unlike_132 : decode cX10_unlike 132 = .ok (.ifCond .eq 7, 3) := by decide +kernel
theorem dX10_unlike_135 : decode cX10_unlike 135 = .ok (.iconst 1, 1) := by decide +kernel
theorem dX10_unlike_136 : decode cX10_unlike 136 = .ok (.goto 4, 3) := by decide +kernel
theorem dX10_unlike_139 : decode cX10_unlike 139 = .ok (.iconst 0, 1) := by decide +kernel
theorem dX10_unlike_140 : decode cX10_unlike 140 = .ok (.istore 5, 2) := by decide +kernel
theorem dX10_unlike_142 : decode cX10_unlike 142 = .ok (.iload_n 3, 1) := by decide +kernel
theorem dX10_unlike_143 : decode cX10_unlike 143 = .ok (.iload 5, 2) := by decide +kernel
theorem dX10_unlike_145 : decode cX10_unlike 145 = .ok (.ifCond .eq 31, 3) := by decide +kernel
theorem dX10_unlike_148 : decode cX10_unlike 148 = .ok (.aload_n 0, 1) := by decide +kernel
theorem dX10_unlike_149 : decode cX10_unlike 149 = .ok (.iload 4, 2) := by decide +kernel
theorem dX10_unlike_151 : decode cX10_unlike 151 = .ok (.bipush 8, 2) := by decide +kernel
theorem dX10_unlike_153 : decode cX10_unlike 153 = .ok (.idiv, 1) := by decide +kernel
theorem dX10_unlike_154 : decode cX10_unlike 154 = .ok (.iload 4, 2) := by decide +kernel
theorem dX10_unlike_156 : decode cX10_unlike 156 = .ok (.bipush 8, 2) := by decide +kernel
theorem dX10_unlike_158 : decode cX10_unlike 158 = .ok (.irem, 1) := by decide +kernel
theorem dX10_unlike_159 : decode cX10_unlike 159 = .ok (.invokevirtual 296, 3) := by decide +kernel
theorem dX10_unlike_162 : decode cX10_unlike 162 = .ok (.aload_n 0, 1) := by decide +kernel
theorem dX10_unlike_163 : decode cX10_unlike 163 = .ok (.getfield 74, 3) := by decide +kernel
theorem dX10_unlike_166 : decode cX10_unlike 166 = .ok (.iload 4, 2) := by decide +kernel
theorem dX10_unlike_168 : decode cX10_unlike 168 = .ok (.iaload, 1) := by decide +kernel
theorem dX10_unlike_169 : decode cX10_unlike 169 = .ok (.if_icmp .eq 7, 3) := by decide +kernel
theorem dX10_unlike_172 : decode cX10_unlike 172 = .ok (.iconst 1, 1) := by decide +kernel
theorem dX10_unlike_173 : decode cX10_unlike 173 = .ok (.goto 4, 3) := by decide +kernel
theorem dX10_unlike_176 : decode cX10_unlike 176 = .ok (.iconst 0, 1) := by decide +kernel
theorem dX10_unlike_177 : decode cX10_unlike 177 = .ok (.iadd, 1) := by decide +kernel
theorem dX10_unlike_178 : decode cX10_unlike 178 = .ok (.istore_n 3, 1) := by decide +kernel
theorem dX10_unlike_179 : decode cX10_unlike 179 = .ok (.iinc 4 1, 3) := by decide +kernel
theorem dX10_unlike_182 : decode cX10_unlike 182 = .ok (.goto (-89), 3) := by decide +kernel
theorem dX10_unlike_185 : decode cX10_unlike 185 = .ok (.iload_n 3, 1) := by decide +kernel
theorem dX10_unlike_186 : decode cX10_unlike 186 = .ok (.ireturn, 1) := by decide +kernel
theorem dX10_spread_0 : decode cX10_spread 0 = .ok (.aload_n 0, 1) := by decide +kernel
theorem dX10_spread_1 : decode cX10_spread 1 = .ok (.iconst 0, 1) := by decide +kernel
theorem dX10_spread_2 : decode cX10_spread 2 = .ok (.putfield 84, 3) := by decide +kernel
theorem dX10_spread_5 : decode cX10_spread 5 = .ok (.aload_n 0, 1) := by decide +kernel
theorem dX10_spread_6 : decode cX10_spread 6 = .ok (.iload_n 1, 1) := by decide +kernel
theorem dX10_spread_7 : decode cX10_spread 7 = .ok (.invokevirtual 287, 3) := by decide +kernel
theorem dX10_spread_10 : decode cX10_spread 10 = .ok (.ifCond .eq 12, 3) := by decide +kernel
theorem dX10_spread_13 : decode cX10_spread 13 = .ok (.iload_n 2, 1) := by decide +kernel
theorem dX10_spread_14 : decode cX10_spread 14 = .ok (.iconst 0, 1) := by decide +kernel
theorem dX10_spread_15 : decode cX10_spread 15 = .ok (.iconst 2, 1) := by decide +kernel
theorem dX10_spread_16 : decode cX10_spread 16 = .ok (.invokestatic 96, 3) := by decide +kernel
theorem dX10_spread_19 : decode cX10_spread 19 = .ok (.ifCond .ne 5, 3) := by decide +kernel
theorem dX10_spread_22 : decode cX10_spread 22 = .ok (.iconst (-1), 1) := by decide +kernel
theorem dX10_spread_23 : decode cX10_spread 23 = .ok (.ireturn, 1) := by decide +kernel
theorem dX10_spread_24 : decode cX10_spread 24 = .ok (.iconst 0, 1) := by decide +kernel
theorem dX10_spread_25 : decode cX10_spread 25 = .ok (.istore_n 3, 1) := by decide +kernel
theorem dX10_spread_26 : decode cX10_spread 26 = .ok (.iconst 0, 1) := by decide +kernel
theorem dX10_spread_27 : decode cX10_spread 27 = .ok (.istore 4, 2) := by decide +kernel
theorem dX10_spread_29 : decode cX10_spread 29 = .ok (.iload 4, 2) := by decide +kernel
theorem dX10_spread_31 : decode cX10_spread 31 = .ok (.aload_n 0, 1) := by decide +kernel
theorem dX10_spread_32 : decode cX10_spread 32 = .ok (.getfield 278, 3) := by decide +kernel
theorem dX10_spread_35 : decode cX10_spread 35 = .ok (.if_icmp .ge 85, 3) := by decide +kernel
theorem dX10_spread_38 : decode cX10_spread 38 = .ok (.iconst 0, 1) := by decide +kernel
theorem dX10_spread_39 : decode cX10_spread 39 = .ok (.istore 5, 2) := by decide +kernel
theorem dX10_spread_41 : decode cX10_spread 41 = .ok (.iconst 0, 1) := by decide +kernel
theorem dX10_spread_42 : decode cX10_spread 42 = .ok (.istore 6, 2) := by decide +kernel
theorem dX10_spread_44 : decode cX10_spread 44 = .ok (.iload 6, 2) := by decide +kernel
theorem dX10_spread_46 : decode cX10_spread 46 = .ok (.aload_n 0, 1) := by decide +kernel
theorem dX10_spread_47 : decode cX10_spread 47 = .ok (.getfield 275, 3) := by decide +kernel
theorem dX10_spread_50 : decode cX10_spread 50 = .ok (.if_icmp .ge 34, 3) := by decide +kernel
theorem dX10_spread_53 : decode cX10_spread 53 = .ok (.iload 5, 2) := by decide +kernel
theorem dX10_spread_55 : decode cX10_spread 55 = .ok (.aload_n 0, 1) := by decide +kernel
theorem dX10_spread_56 : decode cX10_spread 56 = .ok (.getfield 44, 3) := by decide +kernel
theorem dX10_spread_59 : decode cX10_spread 59 = .ok (.iload 6, 2) := by decide +kernel
theorem dX10_spread_61 : decode cX10_spread 61 = .ok (.iaload, 1) := by decide +kernel
theorem dX10_spread_62 : decode cX10_spread 62 = .ok (.iload 4, 2) := by decide +kernel
theorem dX10_spread_64 : decode cX10_spread 64 = .ok (.invokestatic 88, 3) := by decide +kernel
theorem dX10_spread_67 : decode cX10_spread 67 = .ok (.ifCond .eq 7, 3) := by decide +kernel
theorem dX10_spread_70 : decode cX10_spread 70 = .ok (.iconst 1, 1) := by decide +kernel
theorem dX10_spread_71 : decode cX10_spread 71 = .ok (.goto 4, 3) := by decide +kernel
theorem dX10_spread_74 : decode cX10_spread 74 = .ok (.iconst 0, 1) := by decide +kernel
theorem dX10_spread_75 : decode cX10_spread 75 = .ok (.iadd, 1) := by decide +kernel
theorem dX10_spread_76 : decode cX10_spread 76 = .ok (.istore 5, 2) := by decide +kernel
theorem dX10_spread_78 : decode cX10_spread 78 = .ok (.iinc 6 1, 3) := by decide +kernel
theorem dX10_spread_81 : decode cX10_spread 81 = .ok (.goto (-37), 3) := by decide +kernel
theorem dX10_spread_84 : decode cX10_spread 84 = .ok (.iload_n 3, 1) := by decide +kernel
theorem dX10_spread_85 : decode cX10_spread 85 = .ok (.iload 5, 2) := by decide +kernel
theorem dX10_spread_87 : decode cX10_spread 87 = .ok (.iload_n 2, 1) := by decide +kernel
theorem dX10_spread_88 : decode cX10_spread 88 = .ok (.ifCond .ne 10, 3) := by decide +kernel
theorem dX10_spread_91 : decode cX10_spread 91 = .ok (.aload_n 0, 1) := by decide +kernel
theorem dX10_spread_92 : decode cX10_spread 92 = .ok (.getfield 275, 3) := by decide +kernel
theorem dX10_spread_95 : decode cX10_spread 95 = .ok (.goto 6, 3) := by decide +kernel
theorem dX10_spread_98 : decode cX10_spread 98 = .ok (.iload_n 2, 1) := by decide +kernel
theorem dX10_spread_99 : decode cX10_spread 99 = .ok (.iconst 1, 1) := by decide +kernel
theorem dX10_spread_100 : decode cX10_spread 100 = .ok (.isub, 1) := by decide +kernel
theorem dX10_spread_101 : decode cX10_spread 101 = .ok (.if_icmp .ne 10, 3) := by decide +kernel
theorem dX10_spread_104 : decode cX10_spread 104 = .ok (.iconst 1, 1) := by decide +kernel
theorem dX10_spread_105 : decode cX10_spread 105 = .ok (.iload 4, 2) := by decide +kernel
theorem dX10_spread_107 : decode cX10_spread 107 = .ok (.ishl, 1) := by decide +kernel
theorem dX10_spread_108 : decode cX10_spread 108 = .ok (.goto 4, 3) := by decide +kernel
theorem dX10_spread_111 : decode cX10_spread 111 = .ok (.iconst 0, 1) := by decide +kernel
theorem dX10_spread_112 : decode cX10_spread 112 = .ok (.ior, 1) := by decide +kernel
theorem dX10_spread_113 : decode cX10_spread 113 = .ok (.istore_n 3, 1) := by decide +kernel
theorem dX10_spread_114 : decode cX10_spread 114 = .ok (.iinc 4 1, 3) := by decide +kernel
theorem dX10_spread_117 : decode cX10_spread 117 = .ok (.goto (-88), 3) := by decide +kernel
theorem dX10_spread_120 : decode cX10_spread 120 = .ok (.iload_n 3, 1) := by decide +kernel
theorem dX10_spread_121 : decode cX10_spread 121 = .ok (.ireturn, 1) := by decide +kernel
theorem dX10_depth_0 : decode cX10_depth 0 = .ok (.aload_n 0, 1) := by decide +kernel
theorem dX10_depth_1 : decode cX10_depth 1 = .ok (.iconst 0, 1) := by decide +kernel
theorem dX10_depth_2 : decode cX10_depth 2 = .ok (.putfield 84, 3) := by decide +kernel
theorem dX10_depth_5 : decode cX10_depth 5 = .ok (.aload_n 0, 1) := by decide +kernel
theorem dX10_depth_6 : decode cX10_depth 6 = .ok (.iload_n 1, 1) := by decide +kernel
theorem dX10_depth_7 : decode cX10_depth 7 = .ok (.invokevirtual 287, 3) := by decide +kernel
theorem dX10_depth_10 : decode cX10_depth 10 = .ok (.ifCond .eq 23, 3) := by decide +kernel
theorem dX10_depth_13 : decode cX10_depth 13 = .ok (.iload_n 2, 1) := by decide +kernel
theorem dX10_depth_14 : decode cX10_depth 14 = .ok (.iconst 0, 1) := by decide +kernel
theorem dX10_depth_15 : decode cX10_depth 15 = .ok (.aload_n 0, 1) := by decide +kernel
theorem dX10_depth_16 : decode cX10_depth 16 = .ok (.invokevirtual 398, 3) := by decide +kernel
theorem dX10_depth_19 : decode cX10_depth 19 = .ok (.invokestatic 96, 3) := by decide +kernel
theorem dX10_depth_22 : decode cX10_depth 22 = .ok (.ifCond .eq 11, 3) := by decide +kernel
theorem dX10_depth_25 : decode cX10_depth 25 = .ok (.aload_n 0, 1) := by decide +kernel
theorem dX10_depth_26 : decode cX10_depth 26 = .ok (.iload_n 3, 1) := by decide +kernel
theorem dX10_depth_27 : decode cX10_depth 27 = .ok (.invokevirtual 290, 3) := by decide +kernel
theorem dX10_depth_30 : decode cX10_depth 30 = .ok (.ifCond .ne 5, 3) := by decide +kernel
theorem dX10_depth_33 : decode cX10_depth 33 = .ok (.iconst (-1), 1) := by decide +kernel
theorem dX10_depth_34 : decode cX10_depth 34 = .ok (.ireturn, 1) := by decide +kernel
theorem dX10_depth_35 : decode cX10_depth 35 = .ok (.iload_n 2, 1) := by decide +kernel
theorem dX10_depth_36 : decode cX10_depth 36 = .ok (.istore 4, 2) := by decide +kernel
theorem dX10_depth_38 : decode cX10_depth 38 = .ok (.iconst 0, 1) := by decide +kernel
theorem dX10_depth_39 : decode cX10_depth 39 = .ok (.istore 5, 2) := by decide +kernel
theorem dX10_depth_41 : decode cX10_depth 41 = .ok (.iload 5, 2) := by decide +kernel
theorem dX10_depth_43 : decode cX10_depth 43 = .ok (.bipush 10, 2) := by decide +kernel
theorem dX10_depth_45 : decode cX10_depth 45 = .ok (.if_icmp .gt 30, 3) := by decide +kernel
theorem dX10_depth_48 : decode cX10_depth 48 = .ok (.iload 4, 2) := by decide +kernel
theorem dX10_depth_50 : decode cX10_depth 50 = .ok (.iload_n 3, 1) := by decide +kernel
theorem dX10_depth_51 : decode cX10_depth 51 = .ok (.invokestatic 88, 3) := by decide +kernel
theorem dX10_depth_54 : decode cX10_depth 54 = .ok (.ifCond .eq 6, 3) := by decide +kernel
theorem dX10_depth_57 : decode cX10_depth 57 = .ok (.iload 5, 2) := by decide +kernel
theorem dX10_depth_59 : decode cX10_depth 59 = .ok (.ireturn, 1) := by decide +kernel
theorem dX10_depth_60 : decode cX10_depth 60 = .ok (.aload_n 0, 1) := by decide +kernel
theorem dX10_depth_61 : decode cX10_depth 61 = .ok (.iload 4, 2) := by decide +kernel
theorem dX10_depth_63 : decode cX10_depth 63 = .ok (.iconst (-1), 1) := by decide +kernel
theorem dX10_depth_64 : decode cX10_depth 64 = .ok (.invokevirtual 395, 3) := by decide +kernel
theorem dX10_depth_67 : decode cX10_depth 67 = .ok (.istore 4, 2) := by decide +kernel
theorem dX10_depth_69 : decode cX10_depth 69 = .ok (.iinc 5 1, 3) := by decide +kernel
theorem dX10_depth_72 : decode cX10_depth 72 = .ok (.goto (-31), 3) := by decide +kernel
theorem dX10_depth_75 : decode cX10_depth 75 = .ok (.iconst (-1), 1) := by decide +kernel
theorem dX10_depth_76 : decode cX10_depth 76 = .ok (.ireturn, 1) := by decide +kernel
theorem dX10_spare_0 : decode cX10_spare 0 = .ok (.aload_n 0, 1) := by decide +kernel
theorem dX10_spare_1 : decode cX10_spare 1 = .ok (.iconst 0, 1) := by decide +kernel
theorem dX10_spare_2 : decode cX10_spare 2 = .ok (.putfield 84, 3) := by decide +kernel
theorem dX10_spare_5 : decode cX10_spare 5 = .ok (.aload_n 0, 1) := by decide +kernel
theorem dX10_spare_6 : decode cX10_spare 6 = .ok (.iload_n 1, 1) := by decide +kernel
theorem dX10_spare_7 : decode cX10_spare 7 = .ok (.invokevirtual 287, 3) := by decide +kernel
theorem dX10_spare_10 : decode cX10_spare 10 = .ok (.ifCond .ne 5, 3) := by decide +kernel
theorem dX10_spare_13 : decode cX10_spare 13 = .ok (.iconst (-1), 1) := by decide +kernel
theorem dX10_spare_14 : decode cX10_spare 14 = .ok (.ireturn, 1) := by decide +kernel
theorem dX10_spare_15 : decode cX10_spare 15 = .ok (.iconst 0, 1) := by decide +kernel
theorem dX10_spare_16 : decode cX10_spare 16 = .ok (.istore_n 2, 1) := by decide +kernel
theorem dX10_spare_17 : decode cX10_spare 17 = .ok (.iconst 0, 1) := by decide +kernel
theorem dX10_spare_18 : decode cX10_spare 18 = .ok (.istore_n 3, 1) := by decide +kernel
theorem dX10_spare_19 : decode cX10_spare 19 = .ok (.iload_n 3, 1) := by decide +kernel
theorem dX10_spare_20 : decode cX10_spare 20 = .ok (.aload_n 0, 1) := by decide +kernel
theorem dX10_spare_21 : decode cX10_spare 21 = .ok (.iconst 2, 1) := by decide +kernel
theorem dX10_spare_22 : decode cX10_spare 22 = .ok (.invokevirtual 271, 3) := by decide +kernel
theorem dX10_spare_25 : decode cX10_spare 25 = .ok (.if_icmp .ge 57, 3) := by decide +kernel
theorem dX10_spare_28 : decode cX10_spare 28 = .ok (.iconst 1, 1) := by decide +kernel
theorem dX10_spare_29 : decode cX10_spare 29 = .ok (.aload_n 0, 1) := by decide +kernel
theorem dX10_spare_30 : decode cX10_spare 30 = .ok (.iload_n 3, 1) := by decide +kernel
theorem dX10_spare_31 : decode cX10_spare 31 = .ok (.iconst 0, 1) := by decide +kernel
theorem dX10_spare_32 : decode cX10_spare 32 = .ok (.invokevirtual 389, 3) := by decide +kernel
theorem dX10_spare_35 : decode cX10_spare 35 = .ok (.ishl, 1) := by decide +kernel
theorem dX10_spare_36 : decode cX10_spare 36 = .ok (.iconst 1, 1) := by decide +kernel
theorem dX10_spare_37 : decode cX10_spare 37 = .ok (.aload_n 0, 1) := by decide +kernel
theorem dX10_spare_38 : decode cX10_spare 38 = .ok (.iload_n 3, 1) := by decide +kernel
theorem dX10_spare_39 : decode cX10_spare 39 = .ok (.iconst 1, 1) := by decide +kernel
theorem dX10_spare_40 : decode cX10_spare 40 = .ok (.invokevirtual 389, 3) := by decide +kernel
theorem dX10_spare_43 : decode cX10_spare 43 = .ok (.ishl, 1) := by decide +kernel
theorem dX10_spare_44 : decode cX10_spare 44 = .ok (.ior, 1) := by decide +kernel
theorem dX10_spare_45 : decode cX10_spare 45 = .ok (.istore 4, 2) := by decide +kernel
theorem dX10_spare_47 : decode cX10_spare 47 = .ok (.iload_n 2, 1) := by decide +kernel
theorem dX10_spare_48 : decode cX10_spare 48 = .ok (.aload_n 0, 1) := by decide +kernel
theorem dX10_spare_49 : decode cX10_spare 49 = .ok (.iload 4, 2) := by decide +kernel
theorem dX10_spare_51 : decode cX10_spare 51 = .ok (.iload_n 3, 1) := by decide +kernel
theorem dX10_spare_52 : decode cX10_spare 52 = .ok (.invokevirtual 401, 3) := by decide +kernel
theorem dX10_spare_55 : decode cX10_spare 55 = .ok (.aload_n 0, 1) := by decide +kernel
theorem dX10_spare_56 : decode cX10_spare 56 = .ok (.iload_n 3, 1) := by decide +kernel
theorem dX10_spare_57 : decode cX10_spare 57 = .ok (.iconst 2, 1) := by decide +kernel
theorem dX10_spare_58 : decode cX10_spare 58 = .ok (.invokevirtual 389, 3) := by decide +kernel
theorem dX10_spare_61 : decode cX10_spare 61 = .ok (.invokestatic 88, 3) := by decide +kernel
theorem dX10_spare_64 : decode cX10_spare 64 = .ok (.ifCond .eq 9, 3) := by decide +kernel
theorem dX10_spare_67 : decode cX10_spare 67 = .ok (.iconst 1, 1) := by decide +kernel
theorem dX10_spare_68 : decode cX10_spare 68 = .ok (.iload_n 3, 1) := by decide +kernel
theorem dX10_spare_69 : decode cX10_spare 69 = .ok (.ishl, 1) := by decide +kernel
theorem dX10_spare_70 : decode cX10_spare 70 = .ok (.goto 4, 3) := by decide +kernel
theorem dX10_spare_73 : decode cX10_spare 73 = .ok (.iconst 0, 1) := by decide +kernel
theorem dX10_spare_74 : decode cX10_spare 74 = .ok (.ior, 1) := by decide +kernel
theorem dX10_spare_75 : decode cX10_spare 75 = .ok (.istore_n 2, 1) := by decide +kernel
theorem dX10_spare_76 : decode cX10_spare 76 = .ok (.iinc 3 1, 3) := by decide +kernel
theorem dX10_spare_79 : decode cX10_spare 79 = .ok (.goto (-60), 3) := by decide +kernel
theorem dX10_spare_82 : decode cX10_spare 82 = .ok (.iload_n 2, 1) := by decide +kernel
theorem dX10_spare_83 : decode cX10_spare 83 = .ok (.ireturn, 1) := by decide +kernel
theorem dX10_guarded_0 : decode cX10_guarded 0 = .ok (.aload_n 0, 1) := by decide +kernel
theorem dX10_guarded_1 : decode cX10_guarded 1 = .ok (.iconst 0, 1) := by decide +kernel
theorem dX10_guarded_2 : decode cX10_guarded 2 = .ok (.putfield 84, 3) := by decide +kernel
theorem dX10_guarded_5 : decode cX10_guarded 5 = .ok (.iload_n 2, 1) := by decide +kernel
theorem dX10_guarded_6 : decode cX10_guarded 6 = .ok (.iconst 0, 1) := by decide +kernel
theorem dX10_guarded_7 : decode cX10_guarded 7 = .ok (.bipush 8, 2) := by decide +kernel
theorem dX10_guarded_9 : decode cX10_guarded 9 = .ok (.invokestatic 96, 3) := by decide +kernel
theorem dX10_guarded_12 : decode cX10_guarded 12 = .ok (.ifCond .eq 21, 3) := by decide +kernel
theorem dX10_guarded_15 : decode cX10_guarded 15 = .ok (.iload_n 3, 1) := by decide +kernel
theorem dX10_guarded_16 : decode cX10_guarded 16 = .ok (.iconst 0, 1) := by decide +kernel
theorem dX10_guarded_17 : decode cX10_guarded 17 = .ok (.bipush 8, 2) := by decide +kernel
theorem dX10_guarded_19 : decode cX10_guarded 19 = .ok (.invokestatic 96, 3) := by decide +kernel
theorem dX10_guarded_22 : decode cX10_guarded 22 = .ok (.ifCond .eq 11, 3) := by decide +kernel
theorem dX10_guarded_25 : decode cX10_guarded 25 = .ok (.aload_n 0, 1) := by decide +kernel
theorem dX10_guarded_26 : decode cX10_guarded 26 = .ok (.iload_n 1, 1) := by decide +kernel
theorem dX10_guarded_27 : decode cX10_guarded 27 = .ok (.invokevirtual 287, 3) := by decide +kernel
theorem dX10_guarded_30 : decode cX10_guarded 30 = .ok (.ifCond .ne 5, 3) := by decide +kernel
theorem dX10_guarded_33 : decode cX10_guarded 33 = .ok (.iconst (-1), 1) := by decide +kernel
theorem dX10_guarded_34 : decode cX10_guarded 34 = .ok (.ireturn, 1) := by decide +kernel
theorem dX10_guarded_35 : decode cX10_guarded 35 = .ok (.aload_n 0, 1) := by decide +kernel
theorem dX10_guarded_36 : decode cX10_guarded 36 = .ok (.invokevirtual 410, 3) := by decide +kernel
theorem dX10_guarded_39 : decode cX10_guarded 39 = .ok (.iconst (-1), 1) := by decide +kernel
theorem dX10_guarded_40 : decode cX10_guarded 40 = .ok (.istore 5, 2) := by decide +kernel
theorem dX10_guarded_42 : decode cX10_guarded 42 = .ok (.ldc_w 379, 3) := by decide +kernel
theorem dX10_guarded_45 : decode cX10_guarded 45 = .ok (.istore 6, 2) := by decide +kernel
theorem dX10_guarded_47 : decode cX10_guarded 47 = .ok (.iconst 1, 1) := by decide +kernel
theorem dX10_guarded_48 : decode cX10_guarded 48 = .ok (.aload_n 0, 1) := by decide +kernel
theorem dX10_guarded_49 : decode cX10_guarded 49 = .ok (.getfield 275, 3) := by decide +kernel
theorem dX10_guarded_52 : decode cX10_guarded 52 = .ok (.ishl, 1) := by decide +kernel
theorem dX10_guarded_53 : decode cX10_guarded 53 = .ok (.iconst 1, 1) := by decide +kernel
theorem dX10_guarded_54 : decode cX10_guarded 54 = .ok (.isub, 1) := by decide +kernel
theorem dX10_guarded_55 : decode cX10_guarded 55 = .ok (.istore 7, 2) := by decide +kernel
theorem dX10_guarded_57 : decode cX10_guarded 57 = .ok (.iconst 0, 1) := by decide +kernel
theorem dX10_guarded_58 : decode cX10_guarded 58 = .ok (.istore 8, 2) := by decide +kernel
theorem dX10_guarded_60 : decode cX10_guarded 60 = .ok (.iload 8, 2) := by decide +kernel
theorem dX10_guarded_62 : decode cX10_guarded 62 = .ok (.iload 7, 2) := by decide +kernel
theorem dX10_guarded_64 : decode cX10_guarded 64 = .ok (.if_icmp .gt 108, 3) := by decide +kernel
theorem dX10_guarded_67 : decode cX10_guarded 67 = .ok (.iload 8, 2) := by decide +kernel
theorem dX10_guarded_69 : decode cX10_guarded 69 = .ok (.invokestatic 404, 3) := by decide +kernel
theorem dX10_guarded_72 : decode cX10_guarded 72 = .ok (.iload_n 2, 1) := by decide +kernel
theorem dX10_guarded_73 : decode cX10_guarded 73 = .ok (.if_icmp .le 9, 3) := by decide +kernel
theorem dX10_guarded_76 : decode cX10_guarded 76 = .ok (.ldc_w 379, 3) := by decide +kernel
theorem dX10_guarded_79 : decode cX10_guarded 79 = .ok (.goto 20, 3) := by decide +kernel
theorem dX10_guarded_82 : decode cX10_guarded 82 = .ok (.aload_n 0, 1) := by decide +kernel
theorem dX10_guarded_83 : decode cX10_guarded 83 = .ok (.getfield 59, 3) := by decide +kernel
theorem dX10_guarded_86 : decode cX10_guarded 86 = .ok (.aload_n 0, 1) := by decide +kernel
theorem dX10_guarded_87 : decode cX10_guarded 87 = .ok (.iload 7, 2) := by decide +kernel
theorem dX10_guarded_89 : decode cX10_guarded 89 = .ok (.iload 8, 2) := by decide +kernel
theorem dX10_guarded_91 : decode cX10_guarded 91 = .ok (.iconst (-1), 1) := by decide +kernel
theorem dX10_guarded_92 : decode cX10_guarded 92 = .ok (.ixor, 1) := by decide +kernel
theorem dX10_guarded_93 : decode cX10_guarded 93 = .ok (.iand, 1) := by decide +kernel
theorem dX10_guarded_94 : decode cX10_guarded 94 = .ok (.iload_n 3, 1) := by decide +kernel
theorem dX10_guarded_95 : decode cX10_guarded 95 = .ok (.invokevirtual 413, 3) := by decide +kernel
theorem dX10_guarded_98 : decode cX10_guarded 98 = .ok (.iaload, 1) := by decide +kernel
theorem dX10_guarded_99 : decode cX10_guarded 99 = .ok (.istore 9, 2) := by decide +kernel
theorem dX10_guarded_101 : decode cX10_guarded 101 = .ok (.iload 9, 2) := by decide +kernel
theorem dX10_guarded_103 : decode cX10_guarded 103 = .ok (.iload 6, 2) := by decide +kernel
theorem dX10_guarded_105 : decode cX10_guarded 105 = .ok (.if_icmp .lt 31, 3) := by decide +kernel
theorem dX10_guarded_108 : decode cX10_guarded 108 = .ok (.iload 9, 2) := by decide +kernel
theorem dX10_guarded_110 : decode cX10_guarded 110 = .ok (.iload 6, 2) := by decide +kernel
theorem dX10_guarded_112 : decode cX10_guarded 112 = .ok (.if_icmp .ne 28, 3) := by decide +kernel
theorem dX10_guarded_115 : decode cX10_guarded 115 = .ok (.iload 9, 2) := by decide +kernel
theorem dX10_guarded_117 : decode cX10_guarded 117 = .ok (.ldc_w 379, 3) := by decide +kernel
theorem dX10_guarded_120 : decode cX10_guarded 120 = .ok (.if_icmp .ge 20, 3) := by decide +kernel
theorem dX10_guarded_123 : decode cX10_guarded 123 = .ok (.iload 8, 2) := by decide +kernel
theorem dX10_guarded_125 : decode cX10_guarded 125 = .ok (.invokestatic 404, 3) := by decide +kernel
theorem dX10_guarded_128 : decode cX10_guarded 128 = .ok (.iload 5, 2) := by decide +kernel
theorem dX10_guarded_130 : decode cX10_guarded 130 = .ok (.invokestatic 404, 3) := by decide +kernel
theorem dX10_guarded_133 : decode cX10_guarded 133 = .ok (.if_icmp .ge 7, 3) := by decide +kernel
theorem dX10_guarded_136 : decode cX10_guarded 136 = .ok (.iconst 1, 1) := by decide +kernel
theorem dX10_guarded_137 : decode cX10_guarded 137 = .ok (.goto 4, 3) := by decide +kernel
theorem dX10_guarded_140 : decode cX10_guarded 140 = .ok (.iconst 0, 1) := by decide +kernel
theorem dX10_guarded_141 : decode cX10_guarded 141 = .ok (.istore 10, 2) := by decide +kernel
theorem dX10_guarded_143 : decode cX10_guarded 143 = .ok (.iload 10, 2) := by decide +kernel
theorem dX10_guarded_145 : decode cX10_guarded 145 = .ok (.ifCond .eq 8, 3) := by decide +kernel
theorem dX10_guarded_148 : decode cX10_guarded 148 = .ok (.iload 8, 2) := by decide +kernel
theorem dX10_guarded_150 : decode cX10_guarded 150 = .ok (.goto 5, 3) := by decide +kernel
theorem dX10_guarded_153 : decode cX10_guarded 153 = .ok (.iload 5, 2) := by decide +kernel
theorem dX10_guarded_155 : decode cX10_guarded 155 = .ok (.istore 5, 2) := by decide +kernel
theorem dX10_guarded_157 : decode cX10_guarded 157 = .ok (.iload 6, 2) := by decide +kernel
theorem dX10_guarded_159 : decode cX10_guarded 159 = .ok (.iload 9, 2) := by decide +kernel
theorem dX10_guarded_161 : decode cX10_guarded 161 = .ok (.invokestatic 284, 3) := by decide +kernel
theorem dX10_guarded_164 : decode cX10_guarded 164 = .ok (.istore 6, 2) := by decide +kernel
theorem dX10_guarded_166 : decode cX10_guarded 166 = .ok (.iinc 8 1, 3) := by decide +kernel
theorem dX10_guarded_169 : decode cX10_guarded 169 = .ok (.goto (-109), 3) := by decide +kernel
theorem dX10_guarded_172 : decode cX10_guarded 172 = .ok (.iload 4, 2) := by decide +kernel
theorem dX10_guarded_174 : decode cX10_guarded 174 = .ok (.ifCond .eq 8, 3) := by decide +kernel
theorem dX10_guarded_177 : decode cX10_guarded 177 = .ok (.iload 5, 2) := by decide +kernel
theorem dX10_guarded_179 : decode cX10_guarded 179 = .ok (.goto 5, 3) := by decide +kernel
theorem dX10_guarded_182 : decode cX10_guarded 182 = .ok (.iload 6, 2) := by decide +kernel
theorem dX10_guarded_184 : decode cX10_guarded 184 = .ok (.ireturn, 1) := by decide +kernel
theorem dX10_evening_0 : decode cX10_evening 0 = .ok (.aload_n 0, 1) := by decide +kernel
theorem dX10_evening_1 : decode cX10_evening 1 = .ok (.iconst 0, 1) := by decide +kernel
theorem dX10_evening_2 : decode cX10_evening 2 = .ok (.putfield 84, 3) := by decide +kernel
theorem dX10_evening_5 : decode cX10_evening 5 = .ok (.iload_n 2, 1) := by decide +kernel
theorem dX10_evening_6 : decode cX10_evening 6 = .ok (.iconst 1, 1) := by decide +kernel
theorem dX10_evening_7 : decode cX10_evening 7 = .ok (.bipush 99, 2) := by decide +kernel
theorem dX10_evening_9 : decode cX10_evening 9 = .ok (.invokestatic 96, 3) := by decide +kernel
theorem dX10_evening_12 : decode cX10_evening 12 = .ok (.ifCond .eq 19, 3) := by decide +kernel
theorem dX10_evening_15 : decode cX10_evening 15 = .ok (.aload_n 0, 1) := by decide +kernel
theorem dX10_evening_16 : decode cX10_evening 16 = .ok (.iload_n 1, 1) := by decide +kernel
theorem dX10_evening_17 : decode cX10_evening 17 = .ok (.invokevirtual 287, 3) := by decide +kernel
theorem dX10_evening_20 : decode cX10_evening 20 = .ok (.ifCond .eq 11, 3) := by decide +kernel
theorem dX10_evening_23 : decode cX10_evening 23 = .ok (.aload_n 0, 1) := by decide +kernel
theorem dX10_evening_24 : decode cX10_evening 24 = .ok (.iload_n 3, 1) := by decide +kernel
theorem dX10_evening_25 : decode cX10_evening 25 = .ok (.invokevirtual 290, 3) := by decide +kernel
theorem dX10_evening_28 : decode cX10_evening 28 = .ok (.ifCond .ne 5, 3) := by decide +kernel
theorem dX10_evening_31 : decode cX10_evening 31 = .ok (.iconst (-1), 1) := by decide +kernel
theorem dX10_evening_32 : decode cX10_evening 32 = .ok (.ireturn, 1) := by decide +kernel
theorem dX10_evening_33 : decode cX10_evening 33 = .ok (.aload_n 0, 1) := by decide +kernel
theorem dX10_evening_34 : decode cX10_evening 34 = .ok (.iload_n 2, 1) := by decide +kernel
theorem dX10_evening_35 : decode cX10_evening 35 = .ok (.invokevirtual 419, 3) := by decide +kernel
theorem dX10_evening_38 : decode cX10_evening 38 = .ok (.istore 4, 2) := by decide +kernel
theorem dX10_evening_40 : decode cX10_evening 40 = .ok (.iconst (-1), 1) := by decide +kernel
theorem dX10_evening_41 : decode cX10_evening 41 = .ok (.istore 5, 2) := by decide +kernel
theorem dX10_evening_43 : decode cX10_evening 43 = .ok (.iconst 0, 1) := by decide +kernel
theorem dX10_evening_44 : decode cX10_evening 44 = .ok (.istore 6, 2) := by decide +kernel
theorem dX10_evening_46 : decode cX10_evening 46 = .ok (.iload 6, 2) := by decide +kernel
theorem dX10_evening_48 : decode cX10_evening 48 = .ok (.iload_n 3, 1) := by decide +kernel
theorem dX10_evening_49 : decode cX10_evening 49 = .ok (.if_icmp .gt 150, 3) := by decide +kernel
theorem dX10_evening_52 : decode cX10_evening 52 = .ok (.iload 4, 2) := by decide +kernel
theorem dX10_evening_54 : decode cX10_evening 54 = .ok (.iconst (-1), 1) := by decide +kernel
theorem dX10_evening_55 : decode cX10_evening 55 = .ok (.if_icmp .eq 144, 3) := by decide +kernel
theorem dX10_evening_58 : decode cX10_evening 58 = .ok (.iconst (-1), 1) := by decide +kernel
theorem dX10_evening_59 : decode cX10_evening 59 = .ok (.istore 5, 2) := by decide +kernel
theorem dX10_evening_61 : decode cX10_evening 61 = .ok (.aload_n 0, 1) := by decide +kernel
theorem dX10_evening_62 : decode cX10_evening 62 = .ok (.invokevirtual 398, 3) := by decide +kernel
theorem dX10_evening_65 : decode cX10_evening 65 = .ok (.iconst 1, 1) := by decide +kernel
theorem dX10_evening_66 : decode cX10_evening 66 = .ok (.iload 6, 2) := by decide +kernel
theorem dX10_evening_68 : decode cX10_evening 68 = .ok (.iconst 1, 1) := by decide +kernel
theorem dX10_evening_69 : decode cX10_evening 69 = .ok (.iadd, 1) := by decide +kernel
theorem dX10_evening_70 : decode cX10_evening 70 = .ok (.ishl, 1) := by decide +kernel
theorem dX10_evening_71 : decode cX10_evening 71 = .ok (.iconst 1, 1) := by decide +kernel
theorem dX10_evening_72 : decode cX10_evening 72 = .ok (.isub, 1) := by decide +kernel
theorem dX10_evening_73 : decode cX10_evening 73 = .ok (.iconst (-1), 1) := by decide +kernel
theorem dX10_evening_74 : decode cX10_evening 74 = .ok (.ixor, 1) := by decide +kernel
theorem dX10_evening_75 : decode cX10_evening 75 = .ok (.iand, 1) := by decide +kernel
theorem dX10_evening_76 : decode cX10_evening 76 = .ok (.istore 7, 2) := by decide +kernel
theorem dX10_evening_78 : decode cX10_evening 78 = .ok (.iconst 0, 1) := by decide +kernel
theorem dX10_evening_79 : decode cX10_evening 79 = .ok (.istore 8, 2) := by decide +kernel
theorem dX10_evening_81 : decode cX10_evening 81 = .ok (.iload 8, 2) := by decide +kernel
theorem dX10_evening_83 : decode cX10_evening 83 = .ok (.iload 4, 2) := by decide +kernel
theorem dX10_evening_85 : decode cX10_evening 85 = .ok (.if_icmp .ge 108, 3) := by decide +kernel
theorem dX10_evening_88 : decode cX10_evening 88 = .ok (.iload 5, 2) := by decide +kernel
theorem dX10_evening_90 : decode cX10_evening 90 = .ok (.iconst (-1), 1) := by decide +kernel
theorem dX10_evening_91 : decode cX10_evening 91 = .ok (.if_icmp .ne 102, 3) := by decide +kernel
theorem dX10_evening_94 : decode cX10_evening 94 = .ok (.aload_n 0, 1) := by decide +kernel
theorem dX10_evening_95 : decode cX10_evening 95 = .ok (.getfield 65, 3) := by decide +kernel
theorem dX10_evening_98 : decode cX10_evening 98 = .ok (.iload 8, 2) := by decide +kernel
theorem dX10_evening_100 : decode cX10_evening 100 = .ok (.iaload, 1) := by decide +kernel
theorem dX10_evening_101 : decode cX10_evening 101 = .ok (.aload_n 0, 1) := by decide +kernel
theorem dX10_evening_102 : decode cX10_evening 102 = .ok (.bipush 37, 2) := by decide +kernel
theorem dX10_evening_104 : decode cX10_evening 104 = .ok (.iload 6, 2) := by decide +kernel
theorem dX10_evening_106 : decode cX10_evening 106 = .ok (.iadd, 1) := by decide +kernel
theorem dX10_evening_107 : decode cX10_evening 107 = .ok (.invokevirtual 271, 3) := by decide +kernel
theorem dX10_evening_110 : decode cX10_evening 110 = .ok (.iadd, 1) := by decide +kernel
theorem dX10_evening_111 : decode cX10_evening 111 = .ok (.iload_n 2, 1) := by decide +kernel
theorem dX10_evening_112 : decode cX10_evening 112 = .ok (.if_icmp .gt 75, 3) := by decide +kernel
theorem dX10_evening_115 : decode cX10_evening 115 = .ok (.aload_n 0, 1) := by decide +kernel
theorem dX10_evening_116 : decode cX10_evening 116 = .ok (.getfield 65, 3) := by decide +kernel
theorem dX10_evening_119 : decode cX10_evening 119 = .ok (.iload 8, 2) := by decide +kernel
theorem dX10_evening_121 : decode cX10_evening 121 = .ok (.dup2, 1) := by decide +kernel
theorem dX10_evening_122 : decode cX10_evening 122 = .ok (.iaload, 1) := by decide +kernel
theorem dX10_evening_123 : decode cX10_evening 123 = .ok (.aload_n 0, 1) := by decide +kernel
theorem dX10_evening_124 : decode cX10_evening 124 = .ok (.bipush 37, 2) := by decide +kernel
theorem dX10_evening_126 : decode cX10_evening 126 = .ok (.iload 6, 2) := by decide +kernel
theorem dX10_evening_128 : decode cX10_evening 128 = .ok (.iadd, 1) := by decide +kernel
theorem dX10_evening_129 : decode cX10_evening 129 = .ok (.invokevirtual 271, 3) := by decide +kernel
theorem dX10_evening_132 : decode cX10_evening 132 = .ok (.iadd, 1) := by decide +kernel
theorem dX10_evening_133 : decode cX10_evening 133 = .ok (.iastore, 1) := by decide +kernel
theorem dX10_evening_134 : decode cX10_evening 134 = .ok (.aload_n 0, 1) := by decide +kernel
theorem dX10_evening_135 : decode cX10_evening 135 = .ok (.iload 7, 2) := by decide +kernel
theorem dX10_evening_137 : decode cX10_evening 137 = .ok (.iload_n 2, 1) := by decide +kernel
theorem dX10_evening_138 : decode cX10_evening 138 = .ok (.invokevirtual 416, 3) := by decide +kernel
theorem dX10_evening_141 : decode cX10_evening 141 = .ok (.bipush 100, 2) := by decide +kernel
theorem dX10_evening_143 : decode cX10_evening 143 = .ok (.idiv, 1) := by decide +kernel
theorem dX10_evening_144 : decode cX10_evening 144 = .ok (.iload 4, 2) := by decide +kernel
theorem dX10_evening_146 : decode cX10_evening 146 = .ok (.if_icmp .ge 8, 3) := by decide +kernel
theorem dX10_evening_149 : decode cX10_evening 149 = .ok (.iload 8, 2) := by decide +kernel
theorem dX10_evening_151 : decode cX10_evening 151 = .ok (.goto 5, 3) := by decide +kernel
theorem dX10_evening_154 : decode cX10_evening 154 = .ok (.iload 5, 2) := by decide +kernel
theorem dX10_evening_156 : decode cX10_evening 156 = .ok (.istore 5, 2) := by decide +kernel
theorem dX10_evening_158 : decode cX10_evening 158 = .ok (.aload_n 0, 1) := by decide +kernel
theorem dX10_evening_159 : decode cX10_evening 159 = .ok (.getfield 65, 3) := by decide +kernel
theorem dX10_evening_162 : decode cX10_evening 162 = .ok (.iload 8, 2) := by decide +kernel
theorem dX10_evening_164 : decode cX10_evening 164 = .ok (.dup2, 1) := by decide +kernel
theorem dX10_evening_165 : decode cX10_evening 165 = .ok (.iaload, 1) := by decide +kernel
theorem dX10_evening_166 : decode cX10_evening 166 = .ok (.iload 5, 2) := by decide +kernel
theorem dX10_evening_168 : decode cX10_evening 168 = .ok (.iconst (-1), 1) := by decide +kernel
theorem dX10_evening_169 : decode cX10_evening 169 = .ok (.if_icmp .ne 15, 3) := by decide +kernel
theorem dX10_evening_172 : decode cX10_evening 172 = .ok (.aload_n 0, 1) := by decide +kernel
theorem dX10_evening_173 : decode cX10_evening 173 = .ok (.bipush 37, 2) := by decide +kernel
theorem dX10_evening_175 : decode cX10_evening 175 = .ok (.iload 6, 2) := by decide +kernel
theorem dX10_evening_177 : decode cX10_evening 177 = .ok (.iadd, 1) := by decide +kernel
theorem dX10_evening_178 : decode cX10_evening 178 = .ok (.invokevirtual 271, 3) := by decide +kernel
theorem dX10_evening_181 : decode cX10_evening 181 = .ok (.goto 4, 3) := by decide +kernel
theorem dX10_evening_184 : decode cX10_evening 184 = .ok (.iconst 0, 1) := by decide +kernel
theorem dX10_evening_185 : decode cX10_evening 185 = .ok (.isub, 1) := by decide +kernel
theorem dX10_evening_186 : decode cX10_evening 186 = .ok (.iastore, 1) := by decide +kernel
theorem dX10_evening_187 : decode cX10_evening 187 = .ok (.iinc 8 1, 3) := by decide +kernel
theorem dX10_evening_190 : decode cX10_evening 190 = .ok (.goto (-109), 3) := by decide +kernel
theorem dX10_evening_193 : decode cX10_evening 193 = .ok (.iinc 6 1, 3) := by decide +kernel
theorem dX10_evening_196 : decode cX10_evening 196 = .ok (.goto (-150), 3) := by decide +kernel
theorem dX10_evening_199 : decode cX10_evening 199 = .ok (.iload 5, 2) := by decide +kernel
theorem dX10_evening_201 : decode cX10_evening 201 = .ok (.ireturn, 1) := by decide +kernel
theorem dX10_leaks_0 : decode cX10_leaks 0 = .ok (.aload_n 0, 1) := by decide +kernel
theorem dX10_leaks_1 : decode cX10_leaks 1 = .ok (.iconst 0, 1) := by decide +kernel
theorem dX10_leaks_2 : decode cX10_leaks 2 = .ok (.putfield 84, 3) := by decide +kernel
theorem dX10_leaks_5 : decode cX10_leaks 5 = .ok (.aload_n 0, 1) := by decide +kernel
theorem dX10_leaks_6 : decode cX10_leaks 6 = .ok (.iload_n 1, 1) := by decide +kernel
theorem dX10_leaks_7 : decode cX10_leaks 7 = .ok (.invokevirtual 287, 3) := by decide +kernel
theorem dX10_leaks_10 : decode cX10_leaks 10 = .ok (.ifCond .eq 15, 3) := by decide +kernel
theorem dX10_leaks_13 : decode cX10_leaks 13 = .ok (.iload_n 2, 1) := by decide +kernel
theorem dX10_leaks_14 : decode cX10_leaks 14 = .ok (.iconst 0, 1) := by decide +kernel
theorem dX10_leaks_15 : decode cX10_leaks 15 = .ok (.aload_n 0, 1) := by decide +kernel
theorem dX10_leaks_16 : decode cX10_leaks 16 = .ok (.getfield 278, 3) := by decide +kernel
theorem dX10_leaks_19 : decode cX10_leaks 19 = .ok (.invokestatic 96, 3) := by decide +kernel
theorem dX10_leaks_22 : decode cX10_leaks 22 = .ok (.ifCond .ne 7, 3) := by decide +kernel
theorem dX10_leaks_25 : decode cX10_leaks 25 = .ok (.ldc2_w 426, 3) := by decide +kernel
theorem dX10_leaks_28 : decode cX10_leaks 28 = .ok (.lreturn, 1) := by decide +kernel
theorem dX10_leaks_29 : decode cX10_leaks 29 = .ok (.lconst 0, 1) := by decide +kernel
theorem dX10_leaks_30 : decode cX10_leaks 30 = .ok (.lstore 4, 2) := by decide +kernel
theorem dX10_leaks_32 : decode cX10_leaks 32 = .ok (.lconst 0, 1) := by decide +kernel
theorem dX10_leaks_33 : decode cX10_leaks 33 = .ok (.lstore 6, 2) := by decide +kernel
theorem dX10_leaks_35 : decode cX10_leaks 35 = .ok (.iconst 0, 1) := by decide +kernel
theorem dX10_leaks_36 : decode cX10_leaks 36 = .ok (.istore 8, 2) := by decide +kernel
theorem dX10_leaks_38 : decode cX10_leaks 38 = .ok (.iload 8, 2) := by decide +kernel
theorem dX10_leaks_40 : decode cX10_leaks 40 = .ok (.aload_n 0, 1) := by decide +kernel
theorem dX10_leaks_41 : decode cX10_leaks 41 = .ok (.invokevirtual 398, 3) := by decide +kernel
theorem dX10_leaks_44 : decode cX10_leaks 44 = .ok (.if_icmp .gt 41, 3) := by decide +kernel
theorem dX10_leaks_47 : decode cX10_leaks 47 = .ok (.iload 8, 2) := by decide +kernel
theorem dX10_leaks_49 : decode cX10_leaks 49 = .ok (.invokestatic 404, 3) := by decide +kernel
theorem dX10_leaks_52 : decode cX10_leaks 52 = .ok (.iload_n 2, 1) := by decide +kernel
theorem dX10_leaks_53 : decode cX10_leaks 53 = .ok (.if_icmp .ne 26, 3) := by decide +kernel
theorem dX10_leaks_56 : decode cX10_leaks 56 = .ok (.lload 6, 2) := by decide +kernel
theorem dX10_leaks_58 : decode cX10_leaks 58 = .ok (.lconst 1, 1) := by decide +kernel
theorem dX10_leaks_59 : decode cX10_leaks 59 = .ok (.ladd, 1) := by decide +kernel
theorem dX10_leaks_60 : decode cX10_leaks 60 = .ok (.lstore 6, 2) := by decide +kernel
theorem dX10_leaks_62 : decode cX10_leaks 62 = .ok (.lload 4, 2) := by decide +kernel
theorem dX10_leaks_64 : decode cX10_leaks 64 = .ok (.aload_n 0, 1) := by decide +kernel
theorem dX10_leaks_65 : decode cX10_leaks 65 = .ok (.aload_n 0, 1) := by decide +kernel
theorem dX10_leaks_66 : decode cX10_leaks 66 = .ok (.iload 8, 2) := by decide +kernel
theorem dX10_leaks_68 : decode cX10_leaks 68 = .ok (.iconst (-1), 1) := by decide +kernel
theorem dX10_leaks_69 : decode cX10_leaks 69 = .ok (.invokevirtual 401, 3) := by decide +kernel
theorem dX10_leaks_72 : decode cX10_leaks 72 = .ok (.invokevirtual 407, 3) := by decide +kernel
theorem dX10_leaks_75 : decode cX10_leaks 75 = .ok (.i2l, 1) := by decide +kernel
theorem dX10_leaks_76 : decode cX10_leaks 76 = .ok (.ladd, 1) := by decide +kernel
theorem dX10_leaks_77 : decode cX10_leaks 77 = .ok (.lstore 4, 2) := by decide +kernel
theorem dX10_leaks_79 : decode cX10_leaks 79 = .ok (.iinc 8 1, 3) := by decide +kernel
theorem dX10_leaks_82 : decode cX10_leaks 82 = .ok (.goto (-44), 3) := by decide +kernel
theorem dX10_leaks_85 : decode cX10_leaks 85 = .ok (.lload 4, 2) := by decide +kernel
theorem dX10_leaks_87 : decode cX10_leaks 87 = .ok (.lload 6, 2) := by decide +kernel
theorem dX10_leaks_89 : decode cX10_leaks 89 = .ok (.iload_n 3, 1) := by decide +kernel
theorem dX10_leaks_90 : decode cX10_leaks 90 = .ok (.invokestatic 428, 3) := by decide +kernel
theorem dX10_leaks_93 : decode cX10_leaks 93 = .ok (.lreturn, 1) := by decide +kernel
theorem dX10_cut_0 : decode cX10_cut 0 = .ok (.aload_n 0, 1) := by decide +kernel
theorem dX10_cut_1 : decode cX10_cut 1 = .ok (.iconst 0, 1) := by decide +kernel
theorem dX10_cut_2 : decode cX10_cut 2 = .ok (.putfield 84, 3) := by decide +kernel
theorem dX10_cut_5 : decode cX10_cut 5 = .ok (.iload_n 2, 1) := by decide +kernel
theorem dX10_cut_6 : decode cX10_cut 6 = .ok (.iconst 0, 1) := by decide +kernel
theorem dX10_cut_7 : decode cX10_cut 7 = .ok (.iconst 3, 1) := by decide +kernel
theorem dX10_cut_8 : decode cX10_cut 8 = .ok (.invokestatic 96, 3) := by decide +kernel
theorem dX10_cut_11 : decode cX10_cut 11 = .ok (.ifCond .eq 11, 3) := by decide +kernel
theorem dX10_cut_14 : decode cX10_cut 14 = .ok (.aload_n 0, 1) := by decide +kernel
theorem dX10_cut_15 : decode cX10_cut 15 = .ok (.iload_n 1, 1) := by decide +kernel
theorem dX10_cut_16 : decode cX10_cut 16 = .ok (.invokevirtual 287, 3) := by decide +kernel
theorem dX10_cut_19 : decode cX10_cut 19 = .ok (.ifCond .ne 5, 3) := by decide +kernel
theorem dX10_cut_22 : decode cX10_cut 22 = .ok (.iconst (-1), 1) := by decide +kernel
theorem dX10_cut_23 : decode cX10_cut 23 = .ok (.ireturn, 1) := by decide +kernel
theorem dX10_cut_24 : decode cX10_cut 24 = .ok (.iconst 0, 1) := by decide +kernel
theorem dX10_cut_25 : decode cX10_cut 25 = .ok (.istore 4, 2) := by decide +kernel
theorem dX10_cut_27 : decode cX10_cut 27 = .ok (.iconst 0, 1) := by decide +kernel
theorem dX10_cut_28 : decode cX10_cut 28 = .ok (.istore 5, 2) := by decide +kernel
theorem dX10_cut_30 : decode cX10_cut 30 = .ok (.iconst 0, 1) := by decide +kernel
theorem dX10_cut_31 : decode cX10_cut 31 = .ok (.istore 6, 2) := by decide +kernel
theorem dX10_cut_33 : decode cX10_cut 33 = .ok (.iload 6, 2) := by decide +kernel
theorem dX10_cut_35 : decode cX10_cut 35 = .ok (.aload_n 0, 1) := by decide +kernel
theorem dX10_cut_36 : decode cX10_cut 36 = .ok (.invokevirtual 398, 3) := by decide +kernel
theorem dX10_cut_39 : decode cX10_cut 39 = .ok (.if_icmp .gt 94, 3) := by decide +kernel
theorem dX10_cut_42 : decode cX10_cut 42 = .ok (.iload 6, 2) := by decide +kernel
theorem dX10_cut_44 : decode cX10_cut 44 = .ok (.invokestatic 404, 3) := by decide +kernel
theorem dX10_cut_47 : decode cX10_cut 47 = .ok (.iload_n 2, 1) := by decide +kernel
theorem dX10_cut_48 : decode cX10_cut 48 = .ok (.if_icmp .le 7, 3) := by decide +kernel
theorem dX10_cut_51 : decode cX10_cut 51 = .ok (.iconst (-1), 1) := by decide +kernel
theorem dX10_cut_52 : decode cX10_cut 52 = .ok (.goto 28, 3) := by decide +kernel
theorem dX10_cut_55 : decode cX10_cut 55 = .ok (.aload_n 0, 1) := by decide +kernel
theorem dX10_cut_56 : decode cX10_cut 56 = .ok (.aload_n 0, 1) := by decide +kernel
theorem dX10_cut_57 : decode cX10_cut 57 = .ok (.invokevirtual 398, 3) := by decide +kernel
theorem dX10_cut_60 : decode cX10_cut 60 = .ok (.aload_n 0, 1) := by decide +kernel
theorem dX10_cut_61 : decode cX10_cut 61 = .ok (.aload_n 0, 1) := by decide +kernel
theorem dX10_cut_62 : decode cX10_cut 62 = .ok (.invokevirtual 398, 3) := by decide +kernel
theorem dX10_cut_65 : decode cX10_cut 65 = .ok (.iload 6, 2) := by decide +kernel
theorem dX10_cut_67 : decode cX10_cut 67 = .ok (.iconst (-1), 1) := by decide +kernel
theorem dX10_cut_68 : decode cX10_cut 68 = .ok (.ixor, 1) := by decide +kernel
theorem dX10_cut_69 : decode cX10_cut 69 = .ok (.iand, 1) := by decide +kernel
theorem dX10_cut_70 : decode cX10_cut 70 = .ok (.iconst (-1), 1) := by decide +kernel
theorem dX10_cut_71 : decode cX10_cut 71 = .ok (.invokevirtual 401, 3) := by decide +kernel
theorem dX10_cut_74 : decode cX10_cut 74 = .ok (.iconst (-1), 1) := by decide +kernel
theorem dX10_cut_75 : decode cX10_cut 75 = .ok (.ixor, 1) := by decide +kernel
theorem dX10_cut_76 : decode cX10_cut 76 = .ok (.iand, 1) := by decide +kernel
theorem dX10_cut_77 : decode cX10_cut 77 = .ok (.invokevirtual 407, 3) := by decide +kernel
theorem dX10_cut_80 : decode cX10_cut 80 = .ok (.istore 7, 2) := by decide +kernel
theorem dX10_cut_82 : decode cX10_cut 82 = .ok (.iload 7, 2) := by decide +kernel
theorem dX10_cut_84 : decode cX10_cut 84 = .ok (.iload 5, 2) := by decide +kernel
theorem dX10_cut_86 : decode cX10_cut 86 = .ok (.if_icmp .gt 23, 3) := by decide +kernel
theorem dX10_cut_89 : decode cX10_cut 89 = .ok (.iload 7, 2) := by decide +kernel
theorem dX10_cut_91 : decode cX10_cut 91 = .ok (.iload 5, 2) := by decide +kernel
theorem dX10_cut_93 : decode cX10_cut 93 = .ok (.if_icmp .ne 21, 3) := by decide +kernel
theorem dX10_cut_96 : decode cX10_cut 96 = .ok (.iload 6, 2) := by decide +kernel
theorem dX10_cut_98 : decode cX10_cut 98 = .ok (.invokestatic 404, 3) := by decide +kernel
theorem dX10_cut_101 : decode cX10_cut 101 = .ok (.iload 4, 2) := by decide +kernel
theorem dX10_cut_103 : decode cX10_cut 103 = .ok (.invokestatic 404, 3) := by decide +kernel
theorem dX10_cut_106 : decode cX10_cut 106 = .ok (.if_icmp .ge 8, 3) := by decide +kernel
theorem dX10_cut_109 : decode cX10_cut 109 = .ok (.iload 6, 2) := by decide +kernel
theorem dX10_cut_111 : decode cX10_cut 111 = .ok (.goto 5, 3) := by decide +kernel
theorem dX10_cut_114 : decode cX10_cut 114 = .ok (.iload 4, 2) := by decide +kernel
theorem dX10_cut_116 : decode cX10_cut 116 = .ok (.istore 4, 2) := by decide +kernel
theorem dX10_cut_118 : decode cX10_cut 118 = .ok (.iload 5, 2) := by decide +kernel
theorem dX10_cut_120 : decode cX10_cut 120 = .ok (.iload 7, 2) := by decide +kernel
theorem dX10_cut_122 : decode cX10_cut 122 = .ok (.invokestatic 158, 3) := by decide +kernel
theorem dX10_cut_125 : decode cX10_cut 125 = .ok (.istore 5, 2) := by decide +kernel
theorem dX10_cut_127 : decode cX10_cut 127 = .ok (.iinc 6 1, 3) := by decide +kernel
theorem dX10_cut_130 : decode cX10_cut 130 = .ok (.goto (-97), 3) := by decide +kernel
theorem dX10_cut_133 : decode cX10_cut 133 = .ok (.iload_n 3, 1) := by decide +kernel
theorem dX10_cut_134 : decode cX10_cut 134 = .ok (.ifCond .eq 8, 3) := by decide +kernel
theorem dX10_cut_137 : decode cX10_cut 137 = .ok (.iload 4, 2) := by decide +kernel
theorem dX10_cut_139 : decode cX10_cut 139 = .ok (.goto 5, 3) := by decide +kernel
theorem dX10_cut_142 : decode cX10_cut 142 = .ok (.iload 5, 2) := by decide +kernel
theorem dX10_cut_144 : decode cX10_cut 144 = .ok (.ireturn, 1) := by decide +kernel
theorem dX10_after_0 : decode cX10_after 0 = .ok (.aload_n 0, 1) := by decide +kernel
theorem dX10_after_1 : decode cX10_after 1 = .ok (.iconst 0, 1) := by decide +kernel
theorem dX10_after_2 : decode cX10_after 2 = .ok (.putfield 84, 3) := by decide +kernel
theorem dX10_after_5 : decode cX10_after 5 = .ok (.aload_n 0, 1) := by decide +kernel
theorem dX10_after_6 : decode cX10_after 6 = .ok (.iload_n 1, 1) := by decide +kernel
theorem dX10_after_7 : decode cX10_after 7 = .ok (.iload_n 2, 1) := by decide +kernel
theorem dX10_after_8 : decode cX10_after 8 = .ok (.invokevirtual 352, 3) := by decide +kernel
theorem dX10_after_11 : decode cX10_after 11 = .ok (.ifCond .eq 12, 3) := by decide +kernel
theorem dX10_after_14 : decode cX10_after 14 = .ok (.iload_n 3, 1) := by decide +kernel
theorem dX10_after_15 : decode cX10_after 15 = .ok (.iconst 0, 1) := by decide +kernel
theorem dX10_after_16 : decode cX10_after 16 = .ok (.iconst 3, 1) := by decide +kernel
theorem dX10_after_17 : decode cX10_after 17 = .ok (.invokestatic 96, 3) := by decide +kernel
theorem dX10_after_20 : decode cX10_after 20 = .ok (.ifCond .ne 6, 3) := by decide +kernel
theorem dX10_after_23 : decode cX10_after 23 = .ok (.bipush (-2), 2) := by decide +kernel
theorem dX10_after_25 : decode cX10_after 25 = .ok (.ireturn, 1) := by decide +kernel
theorem dX10_after_26 : decode cX10_after 26 = .ok (.aload_n 0, 1) := by decide +kernel
theorem dX10_after_27 : decode cX10_after 27 = .ok (.invokevirtual 346, 3) := by decide +kernel
theorem dX10_after_30 : decode cX10_after 30 = .ok (.iconst 0, 1) := by decide +kernel
theorem dX10_after_31 : decode cX10_after 31 = .ok (.istore 4, 2) := by decide +kernel
theorem dX10_after_33 : decode cX10_after 33 = .ok (.iconst (-1), 1) := by decide +kernel
theorem dX10_after_34 : decode cX10_after 34 = .ok (.istore 5, 2) := by decide +kernel
theorem dX10_after_36 : decode cX10_after 36 = .ok (.iconst 0, 1) := by decide +kernel
theorem dX10_after_37 : decode cX10_after 37 = .ok (.istore 6, 2) := by decide +kernel
theorem dX10_after_39 : decode cX10_after 39 = .ok (.iconst 0, 1) := by decide +kernel
theorem dX10_after_40 : decode cX10_after 40 = .ok (.istore 7, 2) := by decide +kernel
theorem dX10_after_42 : decode cX10_after 42 = .ok (.iload 7, 2) := by decide +kernel
theorem dX10_after_44 : decode cX10_after 44 = .ok (.bipush 8, 2) := by decide +kernel
theorem dX10_after_46 : decode cX10_after 46 = .ok (.if_icmp .ge 17, 3) := by decide +kernel
theorem dX10_after_49 : decode cX10_after 49 = .ok (.aload_n 0, 1) := by decide +kernel
theorem dX10_after_50 : decode cX10_after 50 = .ok (.getfield 77, 3) := by decide +kernel
theorem dX10_after_53 : decode cX10_after 53 = .ok (.iload 7, 2) := by decide +kernel
theorem dX10_after_55 : decode cX10_after 55 = .ok (.iconst 0, 1) := by decide +kernel
theorem dX10_after_56 : decode cX10_after 56 = .ok (.iastore, 1) := by decide +kernel
theorem dX10_after_57 : decode cX10_after 57 = .ok (.iinc 7 1, 3) := by decide +kernel
theorem dX10_after_60 : decode cX10_after 60 = .ok (.goto (-18), 3) := by decide +kernel
theorem dX10_after_63 : decode cX10_after 63 = .ok (.iconst 1, 1) := by decide +kernel
theorem dX10_after_64 : decode cX10_after 64 = .ok (.istore 7, 2) := by decide +kernel
theorem dX10_after_66 : decode cX10_after 66 = .ok (.iconst 0, 1) := by decide +kernel
theorem dX10_after_67 : decode cX10_after 67 = .ok (.istore 8, 2) := by decide +kernel
theorem dX10_after_69 : decode cX10_after 69 = .ok (.iload 7, 2) := by decide +kernel
theorem dX10_after_71 : decode cX10_after 71 = .ok (.ifCond .eq 141, 3) := by decide +kernel
theorem dX10_after_74 : decode cX10_after 74 = .ok (.aload_n 0, 1) := by decide +kernel
theorem dX10_after_75 : decode cX10_after 75 = .ok (.invokevirtual 358, 3) := by decide +kernel
theorem dX10_after_78 : decode cX10_after 78 = .ok (.istore 9, 2) := by decide +kernel
theorem dX10_after_80 : decode cX10_after 80 = .ok (.iload 4, 2) := by decide +kernel
theorem dX10_after_82 : decode cX10_after 82 = .ok (.iload 9, 2) := by decide +kernel
theorem dX10_after_84 : decode cX10_after 84 = .ok (.iconst (-1), 1) := by decide +kernel
theorem dX10_after_85 : decode cX10_after 85 = .ok (.if_icmp .ne 7, 3) := by decide +kernel
theorem dX10_after_88 : decode cX10_after 88 = .ok (.iconst 1, 1) := by decide +kernel
theorem dX10_after_89 : decode cX10_after 89 = .ok (.goto 4, 3) := by decide +kernel
theorem dX10_after_92 : decode cX10_after 92 = .ok (.iconst 0, 1) := by decide +kernel
theorem dX10_after_93 : decode cX10_after 93 = .ok (.iadd, 1) := by decide +kernel
theorem dX10_after_94 : decode cX10_after 94 = .ok (.istore 4, 2) := by decide +kernel
theorem dX10_after_96 : decode cX10_after 96 = .ok (.aload_n 0, 1) := by decide +kernel
theorem dX10_after_97 : decode cX10_after 97 = .ok (.getfield 77, 3) := by decide +kernel
theorem dX10_after_100 : decode cX10_after 100 = .ok (.iload 9, 2) := by decide +kernel
theorem dX10_after_102 : decode cX10_after 102 = .ok (.iconst (-1), 1) := by decide +kernel
theorem dX10_after_103 : decode cX10_after 103 = .ok (.if_icmp .ne 7, 3) := by decide +kernel
theorem dX10_after_106 : decode cX10_after 106 = .ok (.iconst 0, 1) := by decide +kernel
theorem dX10_after_107 : decode cX10_after 107 = .ok (.goto 5, 3) := by decide +kernel
theorem dX10_after_110 : decode cX10_after 110 = .ok (.iload 9, 2) := by decide +kernel
theorem dX10_after_112 : decode cX10_after 112 = .ok (.dup2, 1) := by decide +kernel
theorem dX10_after_113 : decode cX10_after 113 = .ok (.iaload, 1) := by decide +kernel
theorem dX10_after_114 : decode cX10_after 114 = .ok (.iload 9, 2) := by decide +kernel
theorem dX10_after_116 : decode cX10_after 116 = .ok (.iconst (-1), 1) := by decide +kernel
theorem dX10_after_117 : decode cX10_after 117 = .ok (.if_icmp .ne 7, 3) := by decide +kernel
theorem dX10_after_120 : decode cX10_after 120 = .ok (.iconst 0, 1) := by decide +kernel
theorem dX10_after_121 : decode cX10_after 121 = .ok (.goto 4, 3) := by decide +kernel
theorem dX10_after_124 : decode cX10_after 124 = .ok (.iconst 1, 1) := by decide +kernel
theorem dX10_after_125 : decode cX10_after 125 = .ok (.iadd, 1) := by decide +kernel
theorem dX10_after_126 : decode cX10_after 126 = .ok (.iastore, 1) := by decide +kernel
theorem dX10_after_127 : decode cX10_after 127 = .ok (.iload 5, 2) := by decide +kernel
theorem dX10_after_129 : decode cX10_after 129 = .ok (.iconst (-1), 1) := by decide +kernel
theorem dX10_after_130 : decode cX10_after 130 = .ok (.if_icmp .ne 15, 3) := by decide +kernel
theorem dX10_after_133 : decode cX10_after 133 = .ok (.aload_n 0, 1) := by decide +kernel
theorem dX10_after_134 : decode cX10_after 134 = .ok (.invokevirtual 361, 3) := by decide +kernel
theorem dX10_after_137 : decode cX10_after 137 = .ok (.ifCond .eq 8, 3) := by decide +kernel
theorem dX10_after_140 : decode cX10_after 140 = .ok (.iload 8, 2) := by decide +kernel
theorem dX10_after_142 : decode cX10_after 142 = .ok (.goto 5, 3) := by decide +kernel
theorem dX10_after_145 : decode cX10_after 145 = .ok (.iload 5, 2) := by decide +kernel
theorem dX10_after_147 : decode cX10_after 147 = .ok (.istore 5, 2) := by decide +kernel
theorem dX10_after_149 : decode cX10_after 149 = .ok (.iconst 0, 1) := by decide +kernel
theorem dX10_after_150 : decode cX10_after 150 = .ok (.istore 10, 2) := by decide +kernel
theorem dX10_after_152 : decode cX10_after 152 = .ok (.iload 10, 2) := by decide +kernel
theorem dX10_after_154 : decode cX10_after 154 = .ok (.aload_n 0, 1) := by decide +kernel
theorem dX10_after_155 : decode cX10_after 155 = .ok (.getfield 275, 3) := by decide +kernel
theorem dX10_after_158 : decode cX10_after 158 = .ok (.if_icmp .ge 23, 3) := by decide +kernel
theorem dX10_after_161 : decode cX10_after 161 = .ok (.iload 6, 2) := by decide +kernel
theorem dX10_after_163 : decode cX10_after 163 = .ok (.aload_n 0, 1) := by decide +kernel
theorem dX10_after_164 : decode cX10_after 164 = .ok (.getfield 47, 3) := by decide +kernel
theorem dX10_after_167 : decode cX10_after 167 = .ok (.iload 10, 2) := by decide +kernel
theorem dX10_after_169 : decode cX10_after 169 = .ok (.iaload, 1) := by decide +kernel
theorem dX10_after_170 : decode cX10_after 170 = .ok (.invokestatic 158, 3) := by decide +kernel
theorem dX10_after_173 : decode cX10_after 173 = .ok (.istore 6, 2) := by decide +kernel
theorem dX10_after_175 : decode cX10_after 175 = .ok (.iinc 10 1, 3) := by decide +kernel
theorem dX10_after_178 : decode cX10_after 178 = .ok (.goto (-26), 3) := by decide +kernel
theorem dX10_after_181 : decode cX10_after 181 = .ok (.iload 8, 2) := by decide +kernel
theorem dX10_after_183 : decode cX10_after 183 = .ok (.aload_n 0, 1) := by decide +kernel
theorem dX10_after_184 : decode cX10_after 184 = .ok (.invokevirtual 305, 3) := by decide +kernel
theorem dX10_after_187 : decode cX10_after 187 = .ok (.if_icmp .ge 16, 3) := by decide +kernel
theorem dX10_after_190 : decode cX10_after 190 = .ok (.aload_n 0, 1) := by decide +kernel
theorem dX10_after_191 : decode cX10_after 191 = .ok (.iload 8, 2) := by decide +kernel
theorem dX10_after_193 : decode cX10_after 193 = .ok (.invokevirtual 349, 3) := by decide +kernel
theorem dX10_after_196 : decode cX10_after 196 = .ok (.ifCond .eq 7, 3) := by decide +kernel
theorem dX10_after_199 : decode cX10_after 199 = .ok (.iconst 1, 1) := by decide +kernel
theorem dX10_after_200 : decode cX10_after 200 = .ok (.goto 4, 3) := by decide +kernel
theorem dX10_after_203 : decode cX10_after 203 = .ok (.iconst 0, 1) := by decide +kernel
theorem dX10_after_204 : decode cX10_after 204 = .ok (.istore 7, 2) := by decide +kernel
theorem dX10_after_206 : decode cX10_after 206 = .ok (.iinc 8 1, 3) := by decide +kernel
theorem dX10_after_209 : decode cX10_after 209 = .ok (.goto (-140), 3) := by decide +kernel
theorem dX10_after_212 : decode cX10_after 212 = .ok (.iconst (-1), 1) := by decide +kernel
theorem dX10_after_213 : decode cX10_after 213 = .ok (.istore 8, 2) := by decide +kernel
theorem dX10_after_215 : decode cX10_after 215 = .ok (.iconst 0, 1) := by decide +kernel
theorem dX10_after_216 : decode cX10_after 216 = .ok (.istore 9, 2) := by decide +kernel
theorem dX10_after_218 : decode cX10_after 218 = .ok (.iload 9, 2) := by decide +kernel
theorem dX10_after_220 : decode cX10_after 220 = .ok (.aload_n 0, 1) := by decide +kernel
theorem dX10_after_221 : decode cX10_after 221 = .ok (.getfield 275, 3) := by decide +kernel
theorem dX10_after_224 : decode cX10_after 224 = .ok (.if_icmp .ge 45, 3) := by decide +kernel
theorem dX10_after_227 : decode cX10_after 227 = .ok (.aload_n 0, 1) := by decide +kernel
theorem dX10_after_228 : decode cX10_after 228 = .ok (.getfield 77, 3) := by decide +kernel
theorem dX10_after_231 : decode cX10_after 231 = .ok (.iload 9, 2) := by decide +kernel
theorem dX10_after_233 : decode cX10_after 233 = .ok (.iaload, 1) := by decide +kernel
theorem dX10_after_234 : decode cX10_after 234 = .ok (.iload 8, 2) := by decide +kernel
theorem dX10_after_236 : decode cX10_after 236 = .ok (.iconst (-1), 1) := by decide +kernel
theorem dX10_after_237 : decode cX10_after 237 = .ok (.if_icmp .ne 7, 3) := by decide +kernel
theorem dX10_after_240 : decode cX10_after 240 = .ok (.iconst 0, 1) := by decide +kernel
theorem dX10_after_241 : decode cX10_after 241 = .ok (.goto 10, 3) := by decide +kernel
theorem dX10_after_244 : decode cX10_after 244 = .ok (.aload_n 0, 1) := by decide +kernel
theorem dX10_after_245 : decode cX10_after 245 = .ok (.getfield 77, 3) := by decide +kernel
theorem dX10_after_248 : decode cX10_after 248 = .ok (.iload 8, 2) := by decide +kernel
theorem dX10_after_250 : decode cX10_after 250 = .ok (.iaload, 1) := by decide +kernel
theorem dX10_after_251 : decode cX10_after 251 = .ok (.if_icmp .le 8, 3) := by decide +kernel
theorem dX10_after_254 : decode cX10_after 254 = .ok (.iload 9, 2) := by decide +kernel
theorem dX10_after_256 : decode cX10_after 256 = .ok (.goto 5, 3) := by decide +kernel
theorem dX10_after_259 : decode cX10_after 259 = .ok (.iload 8, 2) := by decide +kernel
theorem dX10_after_261 : decode cX10_after 261 = .ok (.istore 8, 2) := by decide +kernel
theorem dX10_after_263 : decode cX10_after 263 = .ok (.iinc 9 1, 3) := by decide +kernel
theorem dX10_after_266 : decode cX10_after 266 = .ok (.goto (-48), 3) := by decide +kernel
theorem dX10_after_269 : decode cX10_after 269 = .ok (.iload_n 3, 1) := by decide +kernel
theorem dX10_after_270 : decode cX10_after 270 = .ok (.ifCond .ne 8, 3) := by decide +kernel
theorem dX10_after_273 : decode cX10_after 273 = .ok (.iload 8, 2) := by decide +kernel
theorem dX10_after_275 : decode cX10_after 275 = .ok (.goto 25, 3) := by decide +kernel
theorem dX10_after_278 : decode cX10_after 278 = .ok (.iload_n 3, 1) := by decide +kernel
theorem dX10_after_279 : decode cX10_after 279 = .ok (.iconst 1, 1) := by decide +kernel
theorem dX10_after_280 : decode cX10_after 280 = .ok (.if_icmp .ne 8, 3) := by decide +kernel
theorem dX10_after_283 : decode cX10_after 283 = .ok (.iload 4, 2) := by decide +kernel
theorem dX10_after_285 : decode cX10_after 285 = .ok (.goto 15, 3) := by decide +kernel
theorem dX10_after_288 : decode cX10_after 288 = .ok (.iload_n 3, 1) := by decide +kernel
theorem dX10_after_289 : decode cX10_after 289 = .ok (.iconst 2, 1) := by decide +kernel
theorem dX10_after_290 : decode cX10_after 290 = .ok (.if_icmp .ne 8, 3) := by decide +kernel
theorem dX10_after_293 : decode cX10_after 293 = .ok (.iload 5, 2) := by decide +kernel
theorem dX10_after_295 : decode cX10_after 295 = .ok (.goto 5, 3) := by decide +kernel
theorem dX10_after_298 : decode cX10_after 298 = .ok (.iload 6, 2) := by decide +kernel
theorem dX10_after_300 : decode cX10_after 300 = .ok (.ireturn, 1) := by decide +kernel
theorem dX10_would_0 : decode cX10_would 0 = .ok (.aload_n 0, 1) := by decide +kernel
theorem dX10_would_1 : decode cX10_would 1 = .ok (.iconst 0, 1) := by decide +kernel
theorem dX10_would_2 : decode cX10_would 2 = .ok (.putfield 84, 3) := by decide +kernel
theorem dX10_would_5 : decode cX10_would 5 = .ok (.aload_n 0, 1) := by decide +kernel
theorem dX10_would_6 : decode cX10_would 6 = .ok (.iload_n 1, 1) := by decide +kernel
theorem dX10_would_7 : decode cX10_would 7 = .ok (.iload_n 2, 1) := by decide +kernel
theorem dX10_would_8 : decode cX10_would 8 = .ok (.invokevirtual 450, 3) := by decide +kernel
theorem dX10_would_11 : decode cX10_would 11 = .ok (.ifCond .eq 41, 3) := by decide +kernel
theorem dX10_would_14 : decode cX10_would 14 = .ok (.aload_n 0, 1) := by decide +kernel
theorem dX10_would_15 : decode cX10_would 15 = .ok (.iload 4, 2) := by decide +kernel
theorem dX10_would_17 : decode cX10_would 17 = .ok (.invokevirtual 293, 3) := by decide +kernel
theorem dX10_would_20 : decode cX10_would 20 = .ok (.ifCond .eq 32, 3) := by decide +kernel
theorem dX10_would_23 : decode cX10_would 23 = .ok (.iload_n 3, 1) := by decide +kernel
theorem dX10_would_24 : decode cX10_would 24 = .ok (.iconst 0, 1) := by decide +kernel
theorem dX10_would_25 : decode cX10_would 25 = .ok (.aload_n 0, 1) := by decide +kernel
theorem dX10_would_26 : decode cX10_would 26 = .ok (.getfield 444, 3) := by decide +kernel
theorem dX10_would_29 : decode cX10_would 29 = .ok (.iconst 1, 1) := by decide +kernel
theorem dX10_would_30 : decode cX10_would 30 = .ok (.isub, 1) := by decide +kernel
theorem dX10_would_31 : decode cX10_would 31 = .ok (.invokestatic 96, 3) := by decide +kernel
theorem dX10_would_34 : decode cX10_would 34 = .ok (.ifCond .eq 18, 3) := by decide +kernel
theorem dX10_would_37 : decode cX10_would 37 = .ok (.aload_n 0, 1) := by decide +kernel
theorem dX10_would_38 : decode cX10_would 38 = .ok (.aload_n 0, 1) := by decide +kernel
theorem dX10_would_39 : decode cX10_would 39 = .ok (.getfield 68, 3) := by decide +kernel
theorem dX10_would_42 : decode cX10_would 42 = .ok (.iload_n 3, 1) := by decide +kernel
theorem dX10_would_43 : decode cX10_would 43 = .ok (.iaload, 1) := by decide +kernel
theorem dX10_would_44 : decode cX10_would 44 = .ok (.iload 4, 2) := by decide +kernel
theorem dX10_would_46 : decode cX10_would 46 = .ok (.invokevirtual 447, 3) := by decide +kernel
theorem dX10_would_49 : decode cX10_would 49 = .ok (.goto 4, 3) := by decide +kernel
theorem dX10_would_52 : decode cX10_would 52 = .ok (.iconst (-1), 1) := by decide +kernel
theorem dX10_would_53 : decode cX10_would 53 = .ok (.ireturn, 1) := by decide +kernel
theorem dX10_count_0 : decode cX10_count 0 = .ok (.aload_n 0, 1) := by decide +kernel
theorem dX10_count_1 : decode cX10_count 1 = .ok (.iconst 0, 1) := by decide +kernel
theorem dX10_count_2 : decode cX10_count 2 = .ok (.putfield 84, 3) := by decide +kernel
theorem dX10_count_5 : decode cX10_count 5 = .ok (.iload_n 1, 1) := by decide +kernel
theorem dX10_count_6 : decode cX10_count 6 = .ok (.iconst 0, 1) := by decide +kernel
theorem dX10_count_7 : decode cX10_count 7 = .ok (.iconst 3, 1) := by decide +kernel
theorem dX10_count_8 : decode cX10_count 8 = .ok (.invokestatic 96, 3) := by decide +kernel
theorem dX10_count_11 : decode cX10_count 11 = .ok (.ifCond .eq 12, 3) := by decide +kernel
theorem dX10_count_14 : decode cX10_count 14 = .ok (.aload_n 0, 1) := by decide +kernel
theorem dX10_count_15 : decode cX10_count 15 = .ok (.getfield 23, 3) := by decide +kernel
theorem dX10_count_18 : decode cX10_count 18 = .ok (.iload_n 1, 1) := by decide +kernel
theorem dX10_count_19 : decode cX10_count 19 = .ok (.iaload, 1) := by decide +kernel
theorem dX10_count_20 : decode cX10_count 20 = .ok (.goto 5, 3) := by decide +kernel
theorem dX10_count_23 : decode cX10_count 23 = .ok (.bipush (-2), 2) := by decide +kernel
theorem dX10_count_25 : decode cX10_count 25 = .ok (.ireturn, 1) := by decide +kernel
theorem dX10_image_0 : decode cX10_image 0 = .ok (.aload_n 0, 1) := by decide +kernel
theorem dX10_image_1 : decode cX10_image 1 = .ok (.iconst 0, 1) := by decide +kernel
theorem dX10_image_2 : decode cX10_image 2 = .ok (.putfield 84, 3) := by decide +kernel
theorem dX10_image_5 : decode cX10_image 5 = .ok (.iload_n 1, 1) := by decide +kernel
theorem dX10_image_6 : decode cX10_image 6 = .ok (.iconst 0, 1) := by decide +kernel
theorem dX10_image_7 : decode cX10_image 7 = .ok (.iconst 2, 1) := by decide +kernel
theorem dX10_image_8 : decode cX10_image 8 = .ok (.invokestatic 96, 3) := by decide +kernel
theorem dX10_image_11 : decode cX10_image 11 = .ok (.ifCond .ne 5, 3) := by decide +kernel
theorem dX10_image_14 : decode cX10_image 14 = .ok (.iconst 0, 1) := by decide +kernel
theorem dX10_image_15 : decode cX10_image 15 = .ok (.ireturn, 1) := by decide +kernel
theorem dX10_image_16 : decode cX10_image 16 = .ok (.aload_n 0, 1) := by decide +kernel
theorem dX10_image_17 : decode cX10_image 17 = .ok (.iconst 0, 1) := by decide +kernel
theorem dX10_image_18 : decode cX10_image 18 = .ok (.iload_n 1, 1) := by decide +kernel
theorem dX10_image_19 : decode cX10_image 19 = .ok (.iconst 1, 1) := by decide +kernel
theorem dX10_image_20 : decode cX10_image 20 = .ok (.iadd, 1) := by decide +kernel
theorem dX10_image_21 : decode cX10_image 21 = .ok (.invokevirtual 476, 3) := by decide +kernel
theorem dX10_image_24 : decode cX10_image 24 = .ok (.aload_n 0, 1) := by decide +kernel
theorem dX10_image_25 : decode cX10_image 25 = .ok (.getfield 80, 3) := by decide +kernel
theorem dX10_image_28 : decode cX10_image 28 = .ok (.iload_n 1, 1) := by decide +kernel
theorem dX10_image_29 : decode cX10_image 29 = .ok (.iconst 1, 1) := by decide +kernel
theorem dX10_image_30 : decode cX10_image 30 = .ok (.bastore, 1) := by decide +kernel
theorem dX10_image_31 : decode cX10_image 31 = .ok (.iconst 1, 1) := by decide +kernel
theorem dX10_image_32 : decode cX10_image 32 = .ok (.ireturn, 1) := by decide +kernel
theorem dX10_again_0 : decode cX10_again 0 = .ok (.aload_n 0, 1) := by decide +kernel
theorem dX10_again_1 : decode cX10_again 1 = .ok (.iconst 0, 1) := by decide +kernel
theorem dX10_again_2 : decode cX10_again 2 = .ok (.putfield 84, 3) := by decide +kernel
theorem dX10_again_5 : decode cX10_again 5 = .ok (.iload_n 1, 1) := by decide +kernel
theorem dX10_again_6 : decode cX10_again 6 = .ok (.iconst 0, 1) := by decide +kernel
theorem dX10_again_7 : decode cX10_again 7 = .ok (.iconst 2, 1) := by decide +kernel
theorem dX10_again_8 : decode cX10_again 8 = .ok (.invokestatic 96, 3) := by decide +kernel
theorem dX10_again_11 : decode cX10_again 11 = .ok (.ifCond .eq 12, 3) := by decide +kernel
theorem dX10_again_14 : decode cX10_again 14 = .ok (.aload_n 0, 1) := by decide +kernel
theorem dX10_again_15 : decode cX10_again 15 = .ok (.getfield 80, 3) := by decide +kernel
theorem dX10_again_18 : decode cX10_again 18 = .ok (.iload_n 1, 1) := by decide +kernel
theorem dX10_again_19 : decode cX10_again 19 = .ok (.baload, 1) := by decide +kernel
theorem dX10_again_20 : decode cX10_again 20 = .ok (.ifCond .ne 5, 3) := by decide +kernel
theorem dX10_again_23 : decode cX10_again 23 = .ok (.iconst 0, 1) := by decide +kernel
theorem dX10_again_24 : decode cX10_again 24 = .ok (.ireturn, 1) := by decide +kernel
theorem dX10_again_25 : decode cX10_again 25 = .ok (.aload_n 0, 1) := by decide +kernel
theorem dX10_again_26 : decode cX10_again 26 = .ok (.iload_n 1, 1) := by decide +kernel
theorem dX10_again_27 : decode cX10_again 27 = .ok (.iconst 1, 1) := by decide +kernel
theorem dX10_again_28 : decode cX10_again 28 = .ok (.iadd, 1) := by decide +kernel
theorem dX10_again_29 : decode cX10_again 29 = .ok (.iconst 0, 1) := by decide +kernel
theorem dX10_again_30 : decode cX10_again 30 = .ok (.invokevirtual 476, 3) := by decide +kernel
theorem dX10_again_33 : decode cX10_again 33 = .ok (.iconst 1, 1) := by decide +kernel
theorem dX10_again_34 : decode cX10_again 34 = .ok (.ireturn, 1) := by decide +kernel
theorem dJ6_bitCount_0f7a4_0 : decode cJ6_bitCount_0f7a4 0 = .ok (.iload_n 0, 1) := by decide +kernel
theorem dJ6_bitCount_0f7a4_1 : decode cJ6_bitCount_0f7a4 1 = .ok (.iload_n 0, 1) := by decide +kernel
theorem dJ6_bitCount_0f7a4_2 : decode cJ6_bitCount_0f7a4 2 = .ok (.iconst 1, 1) := by decide +kernel
theorem dJ6_bitCount_0f7a4_3 : decode cJ6_bitCount_0f7a4 3 = .ok (.iushr, 1) := by decide +kernel
theorem dJ6_bitCount_0f7a4_4 : decode cJ6_bitCount_0f7a4 4 = .ok (.ldc_w 265, 3) := by decide +kernel
theorem dJ6_bitCount_0f7a4_7 : decode cJ6_bitCount_0f7a4 7 = .ok (.iand, 1) := by decide +kernel
theorem dJ6_bitCount_0f7a4_8 : decode cJ6_bitCount_0f7a4 8 = .ok (.isub, 1) := by decide +kernel
theorem dJ6_bitCount_0f7a4_9 : decode cJ6_bitCount_0f7a4 9 = .ok (.istore_n 0, 1) := by decide +kernel
theorem dJ6_bitCount_0f7a4_10 : decode cJ6_bitCount_0f7a4 10 = .ok (.iload_n 0, 1) := by decide +kernel
theorem dJ6_bitCount_0f7a4_11 : decode cJ6_bitCount_0f7a4 11 = .ok (.ldc_w 266, 3) := by decide +kernel
theorem dJ6_bitCount_0f7a4_14 : decode cJ6_bitCount_0f7a4 14 = .ok (.iand, 1) := by decide +kernel
theorem dJ6_bitCount_0f7a4_15 : decode cJ6_bitCount_0f7a4 15 = .ok (.iload_n 0, 1) := by decide +kernel
theorem dJ6_bitCount_0f7a4_16 : decode cJ6_bitCount_0f7a4 16 = .ok (.iconst 2, 1) := by decide +kernel
theorem dJ6_bitCount_0f7a4_17 : decode cJ6_bitCount_0f7a4 17 = .ok (.iushr, 1) := by decide +kernel
theorem dJ6_bitCount_0f7a4_18 : decode cJ6_bitCount_0f7a4 18 = .ok (.ldc_w 266, 3) := by decide +kernel
theorem dJ6_bitCount_0f7a4_21 : decode cJ6_bitCount_0f7a4 21 = .ok (.iand, 1) := by decide +kernel
theorem dJ6_bitCount_0f7a4_22 : decode cJ6_bitCount_0f7a4 22 = .ok (.iadd, 1) := by decide +kernel
theorem dJ6_bitCount_0f7a4_23 : decode cJ6_bitCount_0f7a4 23 = .ok (.istore_n 0, 1) := by decide +kernel
theorem dJ6_bitCount_0f7a4_24 : decode cJ6_bitCount_0f7a4 24 = .ok (.iload_n 0, 1) := by decide +kernel
theorem dJ6_bitCount_0f7a4_25 : decode cJ6_bitCount_0f7a4 25 = .ok (.iload_n 0, 1) := by decide +kernel
theorem dJ6_bitCount_0f7a4_26 : decode cJ6_bitCount_0f7a4 26 = .ok (.iconst 4, 1) := by decide +kernel
theorem dJ6_bitCount_0f7a4_27 : decode cJ6_bitCount_0f7a4 27 = .ok (.iushr, 1) := by decide +kernel
theorem dJ6_bitCount_0f7a4_28 : decode cJ6_bitCount_0f7a4 28 = .ok (.iadd, 1) := by decide +kernel
theorem dJ6_bitCount_0f7a4_29 : decode cJ6_bitCount_0f7a4 29 = .ok (.ldc_w 267, 3) := by decide +kernel
theorem dJ6_bitCount_0f7a4_32 : decode cJ6_bitCount_0f7a4 32 = .ok (.iand, 1) := by decide +kernel
theorem dJ6_bitCount_0f7a4_33 : decode cJ6_bitCount_0f7a4 33 = .ok (.istore_n 0, 1) := by decide +kernel
theorem dJ6_bitCount_0f7a4_34 : decode cJ6_bitCount_0f7a4 34 = .ok (.iload_n 0, 1) := by decide +kernel
theorem dJ6_bitCount_0f7a4_35 : decode cJ6_bitCount_0f7a4 35 = .ok (.iload_n 0, 1) := by decide +kernel
theorem dJ6_bitCount_0f7a4_36 : decode cJ6_bitCount_0f7a4 36 = .ok (.bipush 8, 2) := by decide +kernel
theorem dJ6_bitCount_0f7a4_38 : decode cJ6_bitCount_0f7a4 38 = .ok (.iushr, 1) := by decide +kernel
theorem dJ6_bitCount_0f7a4_39 : decode cJ6_bitCount_0f7a4 39 = .ok (.iadd, 1) := by decide +kernel
theorem dJ6_bitCount_0f7a4_40 : decode cJ6_bitCount_0f7a4 40 = .ok (.istore_n 0, 1) := by decide +kernel
theorem dJ6_bitCount_0f7a4_41 : decode cJ6_bitCount_0f7a4 41 = .ok (.iload_n 0, 1) := by decide +kernel
theorem dJ6_bitCount_0f7a4_42 : decode cJ6_bitCount_0f7a4 42 = .ok (.iload_n 0, 1) := by decide +kernel
theorem dJ6_bitCount_0f7a4_43 : decode cJ6_bitCount_0f7a4 43 = .ok (.bipush 16, 2) := by decide +kernel
theorem dJ6_bitCount_0f7a4_45 : decode cJ6_bitCount_0f7a4 45 = .ok (.iushr, 1) := by decide +kernel
theorem dJ6_bitCount_0f7a4_46 : decode cJ6_bitCount_0f7a4 46 = .ok (.iadd, 1) := by decide +kernel
theorem dJ6_bitCount_0f7a4_47 : decode cJ6_bitCount_0f7a4 47 = .ok (.istore_n 0, 1) := by decide +kernel
theorem dJ6_bitCount_0f7a4_48 : decode cJ6_bitCount_0f7a4 48 = .ok (.iload_n 0, 1) := by decide +kernel
theorem dJ6_bitCount_0f7a4_49 : decode cJ6_bitCount_0f7a4 49 = .ok (.bipush 63, 2) := by decide +kernel
theorem dJ6_bitCount_0f7a4_51 : decode cJ6_bitCount_0f7a4 51 = .ok (.iand, 1) := by decide +kernel
theorem dJ6_bitCount_0f7a4_52 : decode cJ6_bitCount_0f7a4 52 = .ok (.ireturn, 1) := by decide +kernel
