theorem dX0_init_0 : decode cX0_init 0 = .ok (.aload_n 0, 1) := by decide +kernel
theorem dX0_init_1 : decode cX0_init 1 = .ok (.invokespecial 3, 3) := by decide +kernel
theorem dX0_init_4 : decode cX0_init 4 = .ok (.aload_n 0, 1) := by decide +kernel
theorem dX0_init_5 : decode cX0_init 5 = .ok (.new 9, 3) := by decide +kernel
theorem dX0_init_8 : decode cX0_init 8 = .ok (.dup, 1) := by decide +kernel
theorem dX0_init_9 : decode cX0_init 9 = .ok (.invokespecial 11, 3) := by decide +kernel
theorem dX0_init_12 : decode cX0_init 12 = .ok (.putfield 12, 3) := by decide +kernel
theorem dX0_init_15 : decode cX0_init 15 = .ok (.aload_n 0, 1) := by decide +kernel
theorem dX0_init_16 : decode cX0_init 16 = .ok (.bipush 8, 2) := by decide +kernel
theorem dX0_init_18 : decode cX0_init 18 = .ok (.newarray .int, 2) := by decide +kernel
theorem dX0_init_20 : decode cX0_init 20 = .ok (.putfield 18, 3) := by decide +kernel
theorem dX0_init_23 : decode cX0_init 23 = .ok (.aload_n 0, 1) := by decide +kernel
theorem dX0_init_24 : decode cX0_init 24 = .ok (.bipush 8, 2) := by decide +kernel
theorem dX0_init_26 : decode cX0_init 26 = .ok (.newarray .int, 2) := by decide +kernel
theorem dX0_init_28 : decode cX0_init 28 = .ok (.putfield 22, 3) := by decide +kernel
theorem dX0_init_31 : decode cX0_init 31 = .ok (.aload_n 0, 1) := by decide +kernel
theorem dX0_init_32 : decode cX0_init 32 = .ok (.bipush 8, 2) := by decide +kernel
theorem dX0_init_34 : decode cX0_init 34 = .ok (.newarray .int, 2) := by decide +kernel
theorem dX0_init_36 : decode cX0_init 36 = .ok (.putfield 25, 3) := by decide +kernel
theorem dX0_init_39 : decode cX0_init 39 = .ok (.aload_n 0, 1) := by decide +kernel
theorem dX0_init_40 : decode cX0_init 40 = .ok (.bipush 8, 2) := by decide +kernel
theorem dX0_init_42 : decode cX0_init 42 = .ok (.newarray .int, 2) := by decide +kernel
theorem dX0_init_44 : decode cX0_init 44 = .ok (.putfield 28, 3) := by decide +kernel
theorem dX0_init_47 : decode cX0_init 47 = .ok (.aload_n 0, 1) := by decide +kernel
theorem dX0_init_48 : decode cX0_init 48 = .ok (.iconst 0, 1) := by decide +kernel
theorem dX0_init_49 : decode cX0_init 49 = .ok (.putfield 31, 3) := by decide +kernel
theorem dX0_init_52 : decode cX0_init 52 = .ok (.aload_n 0, 1) := by decide +kernel
theorem dX0_init_53 : decode cX0_init 53 = .ok (.iconst 0, 1) := by decide +kernel
theorem dX0_init_54 : decode cX0_init 54 = .ok (.putfield 35, 3) := by decide +kernel
theorem dX0_init_57 : decode cX0_init 57 = .ok (.aload_n 0, 1) := by decide +kernel
theorem dX0_init_58 : decode cX0_init 58 = .ok (.iconst 0, 1) := by decide +kernel
theorem dX0_init_59 : decode cX0_init 59 = .ok (.putfield 38, 3) := by decide +kernel
theorem dX0_init_62 : decode cX0_init 62 = .ok (.aload_n 0, 1) := by decide +kernel
theorem dX0_init_63 : decode cX0_init 63 = .ok (.iconst 0, 1) := by decide +kernel
theorem dX0_init_64 : decode cX0_init 64 = .ok (.putfield 41, 3) := by decide +kernel
theorem dX0_init_67 : decode cX0_init 67 = .ok (.aload_n 0, 1) := by decide +kernel
theorem dX0_init_68 : decode cX0_init 68 = .ok (.iconst 0, 1) := by decide +kernel
theorem dX0_init_69 : decode cX0_init 69 = .ok (.putfield 44, 3) := by decide +kernel
theorem dX0_init_72 : decode cX0_init 72 = .ok (.aload_n 0, 1) := by decide +kernel
theorem dX0_init_73 : decode cX0_init 73 = .ok (.iconst (-1), 1) := by decide +kernel
theorem dX0_init_74 : decode cX0_init 74 = .ok (.putfield 47, 3) := by decide +kernel
theorem dX0_init_77 : decode cX0_init 77 = .ok (.aload_n 0, 1) := by decide +kernel
theorem dX0_init_78 : decode cX0_init 78 = .ok (.iconst 0, 1) := by decide +kernel
theorem dX0_init_79 : decode cX0_init 79 = .ok (.putfield 50, 3) := by decide +kernel
theorem dX0_init_82 : decode cX0_init 82 = .ok (.return_, 1) := by decide +kernel
theorem dX0_begin_0 : decode cX0_begin 0 = .ok (.aload_n 0, 1) := by decide +kernel
theorem dX0_begin_1 : decode cX0_begin 1 = .ok (.aload_n 1, 1) := by decide +kernel
theorem dX0_begin_2 : decode cX0_begin 2 = .ok (.putfield 12, 3) := by decide +kernel
theorem dX0_begin_5 : decode cX0_begin 5 = .ok (.aload_n 0, 1) := by decide +kernel
theorem dX0_begin_6 : decode cX0_begin 6 = .ok (.getfield 18, 3) := by decide +kernel
theorem dX0_begin_9 : decode cX0_begin 9 = .ok (.iconst 0, 1) := by decide +kernel
theorem dX0_begin_10 : decode cX0_begin 10 = .ok (.invokestatic 53, 3) := by decide +kernel
theorem dX0_begin_13 : decode cX0_begin 13 = .ok (.aload_n 0, 1) := by decide +kernel
theorem dX0_begin_14 : decode cX0_begin 14 = .ok (.getfield 22, 3) := by decide +kernel
theorem dX0_begin_17 : decode cX0_begin 17 = .ok (.iconst 0, 1) := by decide +kernel
theorem dX0_begin_18 : decode cX0_begin 18 = .ok (.invokestatic 53, 3) := by decide +kernel
theorem dX0_begin_21 : decode cX0_begin 21 = .ok (.aload_n 1, 1) := by decide +kernel
theorem dX0_begin_22 : decode cX0_begin 22 = .ok (.getfield 59, 3) := by decide +kernel
theorem dX0_begin_25 : decode cX0_begin 25 = .ok (.iconst 0, 1) := by decide +kernel
theorem dX0_begin_26 : decode cX0_begin 26 = .ok (.aload_n 0, 1) := by decide +kernel
theorem dX0_begin_27 : decode cX0_begin 27 = .ok (.getfield 25, 3) := by decide +kernel
theorem dX0_begin_30 : decode cX0_begin 30 = .ok (.iconst 0, 1) := by decide +kernel
theorem dX0_begin_31 : decode cX0_begin 31 = .ok (.bipush 8, 2) := by decide +kernel
theorem dX0_begin_33 : decode cX0_begin 33 = .ok (.invokestatic 60, 3) := by decide +kernel
theorem dX0_begin_36 : decode cX0_begin 36 = .ok (.aload_n 0, 1) := by decide +kernel
theorem dX0_begin_37 : decode cX0_begin 37 = .ok (.getfield 28, 3) := by decide +kernel
theorem dX0_begin_40 : decode cX0_begin 40 = .ok (.iconst 0, 1) := by decide +kernel
theorem dX0_begin_41 : decode cX0_begin 41 = .ok (.invokestatic 53, 3) := by decide +kernel
theorem dX0_begin_44 : decode cX0_begin 44 = .ok (.aload_n 0, 1) := by decide +kernel
theorem dX0_begin_45 : decode cX0_begin 45 = .ok (.iconst 0, 1) := by decide +kernel
theorem dX0_begin_46 : decode cX0_begin 46 = .ok (.putfield 31, 3) := by decide +kernel
theorem dX0_begin_49 : decode cX0_begin 49 = .ok (.aload_n 0, 1) := by decide +kernel
theorem dX0_begin_50 : decode cX0_begin 50 = .ok (.iconst 0, 1) := by decide +kernel
theorem dX0_begin_51 : decode cX0_begin 51 = .ok (.putfield 35, 3) := by decide +kernel
theorem dX0_begin_54 : decode cX0_begin 54 = .ok (.aload_n 0, 1) := by decide +kernel
theorem dX0_begin_55 : decode cX0_begin 55 = .ok (.iconst 0, 1) := by decide +kernel
theorem dX0_begin_56 : decode cX0_begin 56 = .ok (.putfield 38, 3) := by decide +kernel
theorem dX0_begin_59 : decode cX0_begin 59 = .ok (.aload_n 0, 1) := by decide +kernel
theorem dX0_begin_60 : decode cX0_begin 60 = .ok (.iconst 0, 1) := by decide +kernel
theorem dX0_begin_61 : decode cX0_begin 61 = .ok (.putfield 44, 3) := by decide +kernel
theorem dX0_begin_64 : decode cX0_begin 64 = .ok (.aload_n 0, 1) := by decide +kernel
theorem dX0_begin_65 : decode cX0_begin 65 = .ok (.iconst (-1), 1) := by decide +kernel
theorem dX0_begin_66 : decode cX0_begin 66 = .ok (.putfield 47, 3) := by decide +kernel
theorem dX0_begin_69 : decode cX0_begin 69 = .ok (.aload_n 0, 1) := by decide +kernel
theorem dX0_begin_70 : decode cX0_begin 70 = .ok (.iconst 0, 1) := by decide +kernel
theorem dX0_begin_71 : decode cX0_begin 71 = .ok (.putfield 50, 3) := by decide +kernel
theorem dX0_begin_74 : decode cX0_begin 74 = .ok (.return_, 1) := by decide +kernel
theorem dX0_follow_0 : decode cX0_follow 0 = .ok (.aload_n 0, 1) := by decide +kernel
theorem dX0_follow_1 : decode cX0_follow 1 = .ok (.aload_n 1, 1) := by decide +kernel
theorem dX0_follow_2 : decode cX0_follow 2 = .ok (.invokevirtual 66, 3) := by decide +kernel
theorem dX0_follow_5 : decode cX0_follow 5 = .ok (.aload_n 0, 1) := by decide +kernel
theorem dX0_follow_6 : decode cX0_follow 6 = .ok (.iconst 0, 1) := by decide +kernel
theorem dX0_follow_7 : decode cX0_follow 7 = .ok (.invokevirtual 70, 3) := by decide +kernel
theorem dX0_follow_10 : decode cX0_follow 10 = .ok (.iconst 0, 1) := by decide +kernel
theorem dX0_follow_11 : decode cX0_follow 11 = .ok (.istore 4, 2) := by decide +kernel
theorem dX0_follow_13 : decode cX0_follow 13 = .ok (.iload 4, 2) := by decide +kernel
theorem dX0_follow_15 : decode cX0_follow 15 = .ok (.iload_n 3, 1) := by decide +kernel
theorem dX0_follow_16 : decode cX0_follow 16 = .ok (.if_icmp .ge 64, 3) := by decide +kernel
theorem dX0_follow_19 : decode cX0_follow 19 = .ok (.iload 4, 2) := by decide +kernel
theorem dX0_follow_21 : decode cX0_follow 21 = .ok (.aload_n 2, 1) := by decide +kernel
theorem dX0_follow_22 : decode cX0_follow 22 = .ok (.getfield 74, 3) := by decide +kernel
theorem dX0_follow_25 : decode cX0_follow 25 = .ok (.if_icmp .ge 55, 3) := by decide +kernel
theorem dX0_follow_28 : decode cX0_follow 28 = .ok (.aload_n 0, 1) := by decide +kernel
theorem dX0_follow_29 : decode cX0_follow 29 = .ok (.aload_n 2, 1) := by decide +kernel
theorem dX0_follow_30 : decode cX0_follow 30 = .ok (.iload 4, 2) := by decide +kernel
theorem dX0_follow_32 : decode cX0_follow 32 = .ok (.iconst 0, 1) := by decide +kernel
theorem dX0_follow_33 : decode cX0_follow 33 = .ok (.invokevirtual 79, 3) := by decide +kernel
theorem dX0_follow_36 : decode cX0_follow 36 = .ok (.aload_n 2, 1) := by decide +kernel
theorem dX0_follow_37 : decode cX0_follow 37 = .ok (.iload 4, 2) := by decide +kernel
theorem dX0_follow_39 : decode cX0_follow 39 = .ok (.iconst 1, 1) := by decide +kernel
theorem dX0_follow_40 : decode cX0_follow 40 = .ok (.invokevirtual 79, 3) := by decide +kernel
theorem dX0_follow_43 : decode cX0_follow 43 = .ok (.aload_n 2, 1) := by decide +kernel
theorem dX0_follow_44 : decode cX0_follow 44 = .ok (.iload 4, 2) := by decide +kernel
theorem dX0_follow_46 : decode cX0_follow 46 = .ok (.iconst 2, 1) := by decide +kernel
theorem dX0_follow_47 : decode cX0_follow 47 = .ok (.invokevirtual 79, 3) := by decide +kernel
theorem dX0_follow_50 : decode cX0_follow 50 = .ok (.aload_n 2, 1) := by decide +kernel
theorem dX0_follow_51 : decode cX0_follow 51 = .ok (.iload 4, 2) := by decide +kernel
theorem dX0_follow_53 : decode cX0_follow 53 = .ok (.iconst 3, 1) := by decide +kernel
theorem dX0_follow_54 : decode cX0_follow 54 = .ok (.invokevirtual 79, 3) := by decide +kernel
theorem dX0_follow_57 : decode cX0_follow 57 = .ok (.invokevirtual 83, 3) := by decide +kernel
theorem dX0_follow_60 : decode cX0_follow 60 = .ok (.ifCond .ne 6, 3) := by decide +kernel
theorem dX0_follow_63 : decode cX0_follow 63 = .ok (.iload 4, 2) := by decide +kernel
theorem dX0_follow_65 : decode cX0_follow 65 = .ok (.ireturn, 1) := by decide +kernel
theorem dX0_follow_66 : decode cX0_follow 66 = .ok (.aload_n 0, 1) := by decide +kernel
theorem dX0_follow_67 : decode cX0_follow 67 = .ok (.iload 4, 2) := by decide +kernel
theorem dX0_follow_69 : decode cX0_follow 69 = .ok (.iconst 1, 1) := by decide +kernel
theorem dX0_follow_70 : decode cX0_follow 70 = .ok (.iadd, 1) := by decide +kernel
theorem dX0_follow_71 : decode cX0_follow 71 = .ok (.invokevirtual 70, 3) := by decide +kernel
theorem dX0_follow_74 : decode cX0_follow 74 = .ok (.iinc 4 1, 3) := by decide +kernel
theorem dX0_follow_77 : decode cX0_follow 77 = .ok (.goto (-64), 3) := by decide +kernel
theorem dX0_follow_80 : decode cX0_follow 80 = .ok (.iload_n 3, 1) := by decide +kernel
theorem dX0_follow_81 : decode cX0_follow 81 = .ok (.aload_n 2, 1) := by decide +kernel
theorem dX0_follow_82 : decode cX0_follow 82 = .ok (.getfield 74, 3) := by decide +kernel
theorem dX0_follow_85 : decode cX0_follow 85 = .ok (.invokestatic 87, 3) := by decide +kernel
theorem dX0_follow_88 : decode cX0_follow 88 = .ok (.ireturn, 1) := by decide +kernel
theorem dX0_remember_0 : decode cX0_remember 0 = .ok (.aload_n 0, 1) := by decide +kernel
theorem dX0_remember_1 : decode cX0_remember 1 = .ok (.invokevirtual 92, 3) := by decide +kernel
theorem dX0_remember_4 : decode cX0_remember 4 = .ok (.istore_n 2, 1) := by decide +kernel
theorem dX0_remember_5 : decode cX0_remember 5 = .ok (.iload_n 2, 1) := by decide +kernel
theorem dX0_remember_6 : decode cX0_remember 6 = .ok (.iconst (-1), 1) := by decide +kernel
theorem dX0_remember_7 : decode cX0_remember 7 = .ok (.if_icmp .ne 16, 3) := by decide +kernel
theorem dX0_remember_10 : decode cX0_remember 10 = .ok (.aload_n 0, 1) := by decide +kernel
theorem dX0_remember_11 : decode cX0_remember 11 = .ok (.dup, 1) := by decide +kernel
theorem dX0_remember_12 : decode cX0_remember 12 = .ok (.getfield 44, 3) := by decide +kernel
theorem dX0_remember_15 : decode cX0_remember 15 = .ok (.iconst 1, 1) := by decide +kernel
theorem dX0_remember_16 : decode cX0_remember 16 = .ok (.iadd, 1) := by decide +kernel
theorem dX0_remember_17 : decode cX0_remember 17 = .ok (.putfield 44, 3) := by decide +kernel
theorem dX0_remember_20 : decode cX0_remember 20 = .ok (.goto 13, 3) := by decide +kernel
theorem dX0_remember_23 : decode cX0_remember 23 = .ok (.aload_n 0, 1) := by decide +kernel
theorem dX0_remember_24 : decode cX0_remember 24 = .ok (.getfield 28, 3) := by decide +kernel
theorem dX0_remember_27 : decode cX0_remember 27 = .ok (.iload_n 2, 1) := by decide +kernel
theorem dX0_remember_28 : decode cX0_remember 28 = .ok (.dup2, 1) := by decide +kernel
theorem dX0_remember_29 : decode cX0_remember 29 = .ok (.iaload, 1) := by decide +kernel
theorem dX0_remember_30 : decode cX0_remember 30 = .ok (.iconst 1, 1) := by decide +kernel
theorem dX0_remember_31 : decode cX0_remember 31 = .ok (.iadd, 1) := by decide +kernel
theorem dX0_remember_32 : decode cX0_remember 32 = .ok (.iastore, 1) := by decide +kernel
theorem dX0_remember_33 : decode cX0_remember 33 = .ok (.aload_n 0, 1) := by decide +kernel
theorem dX0_remember_34 : decode cX0_remember 34 = .ok (.getfield 47, 3) := by decide +kernel
theorem dX0_remember_37 : decode cX0_remember 37 = .ok (.iconst (-1), 1) := by decide +kernel
theorem dX0_remember_38 : decode cX0_remember 38 = .ok (.if_icmp .ne 15, 3) := by decide +kernel
theorem dX0_remember_41 : decode cX0_remember 41 = .ok (.aload_n 0, 1) := by decide +kernel
theorem dX0_remember_42 : decode cX0_remember 42 = .ok (.invokevirtual 96, 3) := by decide +kernel
theorem dX0_remember_45 : decode cX0_remember 45 = .ok (.ifCond .eq 8, 3) := by decide +kernel
theorem dX0_remember_48 : decode cX0_remember 48 = .ok (.aload_n 0, 1) := by decide +kernel
theorem dX0_remember_49 : decode cX0_remember 49 = .ok (.iload_n 1, 1) := by decide +kernel
theorem dX0_remember_50 : decode cX0_remember 50 = .ok (.putfield 47, 3) := by decide +kernel
theorem dX0_remember_53 : decode cX0_remember 53 = .ok (.iconst 0, 1) := by decide +kernel
theorem dX0_remember_54 : decode cX0_remember 54 = .ok (.istore_n 3, 1) := by decide +kernel
theorem dX0_remember_55 : decode cX0_remember 55 = .ok (.iload_n 3, 1) := by decide +kernel
theorem dX0_remember_56 : decode cX0_remember 56 = .ok (.aload_n 0, 1) := by decide +kernel
theorem dX0_remember_57 : decode cX0_remember 57 = .ok (.getfield 12, 3) := by decide +kernel
theorem dX0_remember_60 : decode cX0_remember 60 = .ok (.getfield 100, 3) := by decide +kernel
theorem dX0_remember_63 : decode cX0_remember 63 = .ok (.if_icmp .ge 26, 3) := by decide +kernel
theorem dX0_remember_66 : decode cX0_remember 66 = .ok (.aload_n 0, 1) := by decide +kernel
theorem dX0_remember_67 : decode cX0_remember 67 = .ok (.aload_n 0, 1) := by decide +kernel
theorem dX0_remember_68 : decode cX0_remember 68 = .ok (.getfield 50, 3) := by decide +kernel
theorem dX0_remember_71 : decode cX0_remember 71 = .ok (.aload_n 0, 1) := by decide +kernel
theorem dX0_remember_72 : decode cX0_remember 72 = .ok (.getfield 18, 3) := by decide +kernel
theorem dX0_remember_75 : decode cX0_remember 75 = .ok (.iload_n 3, 1) := by decide +kernel
theorem dX0_remember_76 : decode cX0_remember 76 = .ok (.iaload, 1) := by decide +kernel
theorem dX0_remember_77 : decode cX0_remember 77 = .ok (.invokestatic 103, 3) := by decide +kernel
theorem dX0_remember_80 : decode cX0_remember 80 = .ok (.putfield 50, 3) := by decide +kernel
theorem dX0_remember_83 : decode cX0_remember 83 = .ok (.iinc 3 1, 3) := by decide +kernel
theorem dX0_remember_86 : decode cX0_remember 86 = .ok (.goto (-31), 3) := by decide +kernel
theorem dX0_remember_89 : decode cX0_remember 89 = .ok (.return_, 1) := by decide +kernel
theorem dX0_star_0 : decode cX0_star 0 = .ok (.iconst (-1), 1) := by decide +kernel
theorem dX0_star_1 : decode cX0_star 1 = .ok (.istore_n 1, 1) := by decide +kernel
theorem dX0_star_2 : decode cX0_star 2 = .ok (.iconst 0, 1) := by decide +kernel
theorem dX0_star_3 : decode cX0_star 3 = .ok (.istore_n 2, 1) := by decide +kernel
theorem dX0_star_4 : decode cX0_star 4 = .ok (.iconst 0, 1) := by decide +kernel
theorem dX0_star_5 : decode cX0_star 5 = .ok (.istore_n 3, 1) := by decide +kernel
theorem dX0_star_6 : decode cX0_star 6 = .ok (.iload_n 3, 1) := by decide +kernel
theorem dX0_star_7 : decode cX0_star 7 = .ok (.aload_n 0, 1) := by decide +kernel
theorem dX0_star_8 : decode cX0_star 8 = .ok (.getfield 12, 3) := by decide +kernel
theorem dX0_star_11 : decode cX0_star 11 = .ok (.getfield 100, 3) := by decide +kernel
theorem dX0_star_14 : decode cX0_star 14 = .ok (.if_icmp .ge 28, 3) := by decide +kernel
theorem dX0_star_17 : decode cX0_star 17 = .ok (.aload_n 0, 1) := by decide +kernel
theorem dX0_star_18 : decode cX0_star 18 = .ok (.getfield 28, 3) := by decide +kernel
theorem dX0_star_21 : decode cX0_star 21 = .ok (.iload_n 3, 1) := by decide +kernel
theorem dX0_star_22 : decode cX0_star 22 = .ok (.iaload, 1) := by decide +kernel
theorem dX0_star_23 : decode cX0_star 23 = .ok (.iload_n 2, 1) := by decide +kernel
theorem dX0_star_24 : decode cX0_star 24 = .ok (.if_icmp .le 12, 3) := by decide +kernel
theorem dX0_star_27 : decode cX0_star 27 = .ok (.aload_n 0, 1) := by decide +kernel
theorem dX0_star_28 : decode cX0_star 28 = .ok (.getfield 28, 3) := by decide +kernel
theorem dX0_star_31 : decode cX0_star 31 = .ok (.iload_n 3, 1) := by decide +kernel
theorem dX0_star_32 : decode cX0_star 32 = .ok (.iaload, 1) := by decide +kernel
theorem dX0_star_33 : decode cX0_star 33 = .ok (.istore_n 2, 1) := by decide +kernel
theorem dX0_star_34 : decode cX0_star 34 = .ok (.iload_n 3, 1) := by decide +kernel
theorem dX0_star_35 : decode cX0_star 35 = .ok (.istore_n 1, 1) := by decide +kernel
theorem dX0_star_36 : decode cX0_star 36 = .ok (.iinc 3 1, 3) := by decide +kernel
theorem dX0_star_39 : decode cX0_star 39 = .ok (.goto (-33), 3) := by decide +kernel
theorem dX0_star_42 : decode cX0_star 42 = .ok (.iload_n 1, 1) := by decide +kernel
theorem dX0_star_43 : decode cX0_star 43 = .ok (.ireturn, 1) := by decide +kernel
theorem dX0_perform_0 : decode cX0_perform 0 = .ok (.iload_n 1, 1) := by decide +kernel
theorem dX0_perform_1 : decode cX0_perform 1 = .ok (.tableswitch 78 4 9 #[39, 46, 55, 61, 67, 73], 39) := by decide +kernel
theorem dX0_perform_40 : decode cX0_perform 40 = .ok (.aload_n 0, 1) := by decide +kernel
theorem dX0_perform_41 : decode cX0_perform 41 = .ok (.iload_n 2, 1) := by decide +kernel
theorem dX0_perform_42 : decode cX0_perform 42 = .ok (.iload_n 3, 1) := by decide +kernel
theorem dX0_perform_43 : decode cX0_perform 43 = .ok (.invokevirtual 106, 3) := by decide +kernel
theorem dX0_perform_46 : decode cX0_perform 46 = .ok (.ireturn, 1) := by decide +kernel
theorem dX0_perform_47 : decode cX0_perform 47 = .ok (.aload_n 0, 1) := by decide +kernel
theorem dX0_perform_48 : decode cX0_perform 48 = .ok (.iload_n 2, 1) := by decide +kernel
theorem dX0_perform_49 : decode cX0_perform 49 = .ok (.iload_n 3, 1) := by decide +kernel
theorem dX0_perform_50 : decode cX0_perform 50 = .ok (.iload 4, 2) := by decide +kernel
theorem dX0_perform_52 : decode cX0_perform 52 = .ok (.invokevirtual 110, 3) := by decide +kernel
theorem dX0_perform_55 : decode cX0_perform 55 = .ok (.ireturn, 1) := by decide +kernel
theorem dX0_perform_56 : decode cX0_perform 56 = .ok (.aload_n 0, 1) := by decide +kernel
theorem dX0_perform_57 : decode cX0_perform 57 = .ok (.iload_n 2, 1) := by decide +kernel
theorem dX0_perform_58 : decode cX0_perform 58 = .ok (.invokevirtual 114, 3) := by decide +kernel
theorem dX0_perform_61 : decode cX0_perform 61 = .ok (.ireturn, 1) := by decide +kernel
theorem dX0_perform_62 : decode cX0_perform 62 = .ok (.aload_n 0, 1) := by decide +kernel
theorem dX0_perform_63 : decode cX0_perform 63 = .ok (.iload_n 2, 1) := by decide +kernel
theorem dX0_perform_64 : decode cX0_perform 64 = .ok (.invokevirtual 118, 3) := by decide +kernel
theorem dX0_perform_67 : decode cX0_perform 67 = .ok (.ireturn, 1) := by decide +kernel
theorem dX0_perform_68 : decode cX0_perform 68 = .ok (.aload_n 0, 1) := by decide +kernel
theorem dX0_perform_69 : decode cX0_perform 69 = .ok (.iload_n 2, 1) := by decide +kernel
theorem dX0_perform_70 : decode cX0_perform 70 = .ok (.invokevirtual 121, 3) := by decide +kernel
theorem dX0_perform_73 : decode cX0_perform 73 = .ok (.ireturn, 1) := by decide +kernel
theorem dX0_perform_74 : decode cX0_perform 74 = .ok (.aload_n 0, 1) := by decide +kernel
theorem dX0_perform_75 : decode cX0_perform 75 = .ok (.invokevirtual 124, 3) := by decide +kernel
theorem dX0_perform_78 : decode cX0_perform 78 = .ok (.ireturn, 1) := by decide +kernel
theorem dX0_perform_79 : decode cX0_perform 79 = .ok (.iconst 0, 1) := by decide +kernel
theorem dX0_perform_80 : decode cX0_perform 80 = .ok (.ireturn, 1) := by decide +kernel
theorem dX0_isThere_0 : decode cX0_isThere 0 = .ok (.aload_n 0, 1) := by decide +kernel
theorem dX0_isThere_1 : decode cX0_isThere 1 = .ok (.getfield 12, 3) := by decide +kernel
theorem dX0_isThere_4 : decode cX0_isThere 4 = .ok (.iload_n 1, 1) := by decide +kernel
theorem dX0_isThere_5 : decode cX0_isThere 5 = .ok (.invokevirtual 127, 3) := by decide +kernel
theorem dX0_isThere_8 : decode cX0_isThere 8 = .ok (.ifCond .eq 18, 3) := by decide +kernel
theorem dX0_isThere_11 : decode cX0_isThere 11 = .ok (.aload_n 0, 1) := by decide +kernel
theorem dX0_isThere_12 : decode cX0_isThere 12 = .ok (.getfield 31, 3) := by decide +kernel
theorem dX0_isThere_15 : decode cX0_isThere 15 = .ok (.iload_n 1, 1) := by decide +kernel
theorem dX0_isThere_16 : decode cX0_isThere 16 = .ok (.invokestatic 130, 3) := by decide +kernel
theorem dX0_isThere_19 : decode cX0_isThere 19 = .ok (.ifCond .ne 7, 3) := by decide +kernel
theorem dX0_isThere_22 : decode cX0_isThere 22 = .ok (.iconst 1, 1) := by decide +kernel
theorem dX0_isThere_23 : decode cX0_isThere 23 = .ok (.goto 4, 3) := by decide +kernel
theorem dX0_isThere_26 : decode cX0_isThere 26 = .ok (.iconst 0, 1) := by decide +kernel
theorem dX0_isThere_27 : decode cX0_isThere 27 = .ok (.ireturn, 1) := by decide +kernel
theorem dX0_worthNow_0 : decode cX0_worthNow 0 = .ok (.aload_n 0, 1) := by decide +kernel
theorem dX0_worthNow_1 : decode cX0_worthNow 1 = .ok (.getfield 12, 3) := by decide +kernel
theorem dX0_worthNow_4 : decode cX0_worthNow 4 = .ok (.getfield 133, 3) := by decide +kernel
theorem dX0_worthNow_7 : decode cX0_worthNow 7 = .ok (.iload_n 1, 1) := by decide +kernel
theorem dX0_worthNow_8 : decode cX0_worthNow 8 = .ok (.iaload, 1) := by decide +kernel
theorem dX0_worthNow_9 : decode cX0_worthNow 9 = .ok (.aload_n 0, 1) := by decide +kernel
theorem dX0_worthNow_10 : decode cX0_worthNow 10 = .ok (.getfield 12, 3) := by decide +kernel
theorem dX0_worthNow_13 : decode cX0_worthNow 13 = .ok (.getfield 136, 3) := by decide +kernel
theorem dX0_worthNow_16 : decode cX0_worthNow 16 = .ok (.iload_n 1, 1) := by decide +kernel
theorem dX0_worthNow_17 : decode cX0_worthNow 17 = .ok (.iaload, 1) := by decide +kernel
theorem dX0_worthNow_18 : decode cX0_worthNow 18 = .ok (.aload_n 0, 1) := by decide +kernel
theorem dX0_worthNow_19 : decode cX0_worthNow 19 = .ok (.getfield 12, 3) := by decide +kernel
theorem dX0_worthNow_22 : decode cX0_worthNow 22 = .ok (.getfield 139, 3) := by decide +kernel
theorem dX0_worthNow_25 : decode cX0_worthNow 25 = .ok (.iload_n 2, 1) := by decide +kernel
theorem dX0_worthNow_26 : decode cX0_worthNow 26 = .ok (.iaload, 1) := by decide +kernel
theorem dX0_worthNow_27 : decode cX0_worthNow 27 = .ok (.if_icmp .ne 7, 3) := by decide +kernel
theorem dX0_worthNow_30 : decode cX0_worthNow 30 = .ok (.iconst 1, 1) := by decide +kernel
theorem dX0_worthNow_31 : decode cX0_worthNow 31 = .ok (.goto 4, 3) := by decide +kernel
theorem dX0_worthNow_34 : decode cX0_worthNow 34 = .ok (.iconst 0, 1) := by decide +kernel
theorem dX0_worthNow_35 : decode cX0_worthNow 35 = .ok (.aload_n 0, 1) := by decide +kernel
theorem dX0_worthNow_36 : decode cX0_worthNow 36 = .ok (.getfield 25, 3) := by decide +kernel
theorem dX0_worthNow_39 : decode cX0_worthNow 39 = .ok (.iload_n 2, 1) := by decide +kernel
theorem dX0_worthNow_40 : decode cX0_worthNow 40 = .ok (.iaload, 1) := by decide +kernel
theorem dX0_worthNow_41 : decode cX0_worthNow 41 = .ok (.iload_n 1, 1) := by decide +kernel
theorem dX0_worthNow_42 : decode cX0_worthNow 42 = .ok (.invokestatic 130, 3) := by decide +kernel
theorem dX0_worthNow_45 : decode cX0_worthNow 45 = .ok (.invokestatic 142, 3) := by decide +kernel
theorem dX0_worthNow_48 : decode cX0_worthNow 48 = .ok (.ireturn, 1) := by decide +kernel
theorem dX0_give_0 : decode cX0_give 0 = .ok (.aload_n 0, 1) := by decide +kernel
theorem dX0_give_1 : decode cX0_give 1 = .ok (.getfield 18, 3) := by decide +kernel
theorem dX0_give_4 : decode cX0_give 4 = .ok (.iload_n 2, 1) := by decide +kernel
theorem dX0_give_5 : decode cX0_give 5 = .ok (.iload_n 3, 1) := by decide +kernel
theorem dX0_give_6 : decode cX0_give 6 = .ok (.iastore, 1) := by decide +kernel
theorem dX0_give_7 : decode cX0_give 7 = .ok (.aload_n 0, 1) := by decide +kernel
theorem dX0_give_8 : decode cX0_give 8 = .ok (.dup, 1) := by decide +kernel
theorem dX0_give_9 : decode cX0_give 9 = .ok (.getfield 38, 3) := by decide +kernel
theorem dX0_give_12 : decode cX0_give 12 = .ok (.iload_n 3, 1) := by decide +kernel
theorem dX0_give_13 : decode cX0_give 13 = .ok (.iadd, 1) := by decide +kernel
theorem dX0_give_14 : decode cX0_give 14 = .ok (.putfield 38, 3) := by decide +kernel
theorem dX0_give_17 : decode cX0_give 17 = .ok (.aload_n 0, 1) := by decide +kernel
theorem dX0_give_18 : decode cX0_give 18 = .ok (.getfield 25, 3) := by decide +kernel
theorem dX0_give_21 : decode cX0_give 21 = .ok (.iload_n 2, 1) := by decide +kernel
theorem dX0_give_22 : decode cX0_give 22 = .ok (.dup2, 1) := by decide +kernel
theorem dX0_give_23 : decode cX0_give 23 = .ok (.iaload, 1) := by decide +kernel
theorem dX0_give_24 : decode cX0_give 24 = .ok (.iconst 1, 1) := by decide +kernel
theorem dX0_give_25 : decode cX0_give 25 = .ok (.iload_n 1, 1) := by decide +kernel
theorem dX0_give_26 : decode cX0_give 26 = .ok (.ishl, 1) := by decide +kernel
theorem dX0_give_27 : decode cX0_give 27 = .ok (.ior, 1) := by decide +kernel
theorem dX0_give_28 : decode cX0_give 28 = .ok (.iastore, 1) := by decide +kernel
theorem dX0_give_29 : decode cX0_give 29 = .ok (.return_, 1) := by decide +kernel
theorem dX0_tellOne_0 : decode cX0_tellOne 0 = .ok (.aload_n 0, 1) := by decide +kernel
theorem dX0_tellOne_1 : decode cX0_tellOne 1 = .ok (.getfield 12, 3) := by decide +kernel
theorem dX0_tellOne_4 : decode cX0_tellOne 4 = .ok (.iload_n 1, 1) := by decide +kernel
theorem dX0_tellOne_5 : decode cX0_tellOne 5 = .ok (.invokevirtual 146, 3) := by decide +kernel
theorem dX0_tellOne_8 : decode cX0_tellOne 8 = .ok (.ifCond .eq 11, 3) := by decide +kernel
theorem dX0_tellOne_11 : decode cX0_tellOne 11 = .ok (.aload_n 0, 1) := by decide +kernel
theorem dX0_tellOne_12 : decode cX0_tellOne 12 = .ok (.iload_n 2, 1) := by decide +kernel
theorem dX0_tellOne_13 : decode cX0_tellOne 13 = .ok (.invokevirtual 149, 3) := by decide +kernel
theorem dX0_tellOne_16 : decode cX0_tellOne 16 = .ok (.ifCond .ne 5, 3) := by decide +kernel
theorem dX0_tellOne_19 : decode cX0_tellOne 19 = .ok (.iconst 0, 1) := by decide +kernel
theorem dX0_tellOne_20 : decode cX0_tellOne 20 = .ok (.ireturn, 1) := by decide +kernel
theorem dX0_tellOne_21 : decode cX0_tellOne 21 = .ok (.aload_n 0, 1) := by decide +kernel
theorem dX0_tellOne_22 : decode cX0_tellOne 22 = .ok (.getfield 18, 3) := by decide +kernel
theorem dX0_tellOne_25 : decode cX0_tellOne 25 = .ok (.iconst 0, 1) := by decide +kernel
theorem dX0_tellOne_26 : decode cX0_tellOne 26 = .ok (.invokestatic 53, 3) := by decide +kernel
theorem dX0_tellOne_29 : decode cX0_tellOne 29 = .ok (.aload_n 0, 1) := by decide +kernel
theorem dX0_tellOne_30 : decode cX0_tellOne 30 = .ok (.iload_n 1, 1) := by decide +kernel
theorem dX0_tellOne_31 : decode cX0_tellOne 31 = .ok (.iload_n 2, 1) := by decide +kernel
theorem dX0_tellOne_32 : decode cX0_tellOne 32 = .ok (.aload_n 0, 1) := by decide +kernel
theorem dX0_tellOne_33 : decode cX0_tellOne 33 = .ok (.iload_n 1, 1) := by decide +kernel
theorem dX0_tellOne_34 : decode cX0_tellOne 34 = .ok (.iload_n 2, 1) := by decide +kernel
theorem dX0_tellOne_35 : decode cX0_tellOne 35 = .ok (.invokevirtual 152, 3) := by decide +kernel
theorem dX0_tellOne_38 : decode cX0_tellOne 38 = .ok (.invokevirtual 155, 3) := by decide +kernel
theorem dX0_tellOne_41 : decode cX0_tellOne 41 = .ok (.iconst 1, 1) := by decide +kernel
theorem dX0_tellOne_42 : decode cX0_tellOne 42 = .ok (.ireturn, 1) := by decide +kernel
theorem dX0_tellTwo_0 : decode cX0_tellTwo 0 = .ok (.aload_n 0, 1) := by decide +kernel
theorem dX0_tellTwo_1 : decode cX0_tellTwo 1 = .ok (.getfield 12, 3) := by decide +kernel
theorem dX0_tellTwo_4 : decode cX0_tellTwo 4 = .ok (.iload_n 1, 1) := by decide +kernel
theorem dX0_tellTwo_5 : decode cX0_tellTwo 5 = .ok (.invokevirtual 146, 3) := by decide +kernel
theorem dX0_tellTwo_8 : decode cX0_tellTwo 8 = .ok (.ifCond .eq 24, 3) := by decide +kernel
theorem dX0_tellTwo_11 : decode cX0_tellTwo 11 = .ok (.aload_n 0, 1) := by decide +kernel
theorem dX0_tellTwo_12 : decode cX0_tellTwo 12 = .ok (.iload_n 2, 1) := by decide +kernel
theorem dX0_tellTwo_13 : decode cX0_tellTwo 13 = .ok (.invokevirtual 149, 3) := by decide +kernel
theorem dX0_tellTwo_16 : decode cX0_tellTwo 16 = .ok (.ifCond .eq 16, 3) := by decide +kernel
theorem dX0_tellTwo_19 : decode cX0_tellTwo 19 = .ok (.aload_n 0, 1) := by decide +kernel
theorem dX0_tellTwo_20 : decode cX0_tellTwo 20 = .ok (.iload_n 3, 1) := by decide +kernel
theorem dX0_tellTwo_21 : decode cX0_tellTwo 21 = .ok (.invokevirtual 149, 3) := by decide +kernel
theorem dX0_tellTwo_24 : decode cX0_tellTwo 24 = .ok (.ifCond .eq 8, 3) := by decide +kernel
theorem dX0_tellTwo_27 : decode cX0_tellTwo 27 = .ok (.iload_n 2, 1) := by decide +kernel
theorem dX0_tellTwo_28 : decode cX0_tellTwo 28 = .ok (.iload_n 3, 1) := by decide +kernel
theorem dX0_tellTwo_29 : decode cX0_tellTwo 29 = .ok (.if_icmp .ne 5, 3) := by decide +kernel
theorem dX0_tellTwo_32 : decode cX0_tellTwo 32 = .ok (.iconst 0, 1) := by decide +kernel
theorem dX0_tellTwo_33 : decode cX0_tellTwo 33 = .ok (.ireturn, 1) := by decide +kernel
theorem dX0_tellTwo_34 : decode cX0_tellTwo 34 = .ok (.aload_n 0, 1) := by decide +kernel
theorem dX0_tellTwo_35 : decode cX0_tellTwo 35 = .ok (.getfield 18, 3) := by decide +kernel
theorem dX0_tellTwo_38 : decode cX0_tellTwo 38 = .ok (.iconst 0, 1) := by decide +kernel
theorem dX0_tellTwo_39 : decode cX0_tellTwo 39 = .ok (.invokestatic 53, 3) := by decide +kernel
theorem dX0_tellTwo_42 : decode cX0_tellTwo 42 = .ok (.aload_n 0, 1) := by decide +kernel
theorem dX0_tellTwo_43 : decode cX0_tellTwo 43 = .ok (.iload_n 1, 1) := by decide +kernel
theorem dX0_tellTwo_44 : decode cX0_tellTwo 44 = .ok (.iload_n 2, 1) := by decide +kernel
theorem dX0_tellTwo_45 : decode cX0_tellTwo 45 = .ok (.aload_n 0, 1) := by decide +kernel
theorem dX0_tellTwo_46 : decode cX0_tellTwo 46 = .ok (.iload_n 1, 1) := by decide +kernel
theorem dX0_tellTwo_47 : decode cX0_tellTwo 47 = .ok (.iload_n 2, 1) := by decide +kernel
theorem dX0_tellTwo_48 : decode cX0_tellTwo 48 = .ok (.invokevirtual 152, 3) := by decide +kernel
theorem dX0_tellTwo_51 : decode cX0_tellTwo 51 = .ok (.iconst 2, 1) := by decide +kernel
theorem dX0_tellTwo_52 : decode cX0_tellTwo 52 = .ok (.idiv, 1) := by decide +kernel
theorem dX0_tellTwo_53 : decode cX0_tellTwo 53 = .ok (.invokevirtual 155, 3) := by decide +kernel
theorem dX0_tellTwo_56 : decode cX0_tellTwo 56 = .ok (.aload_n 0, 1) := by decide +kernel
theorem dX0_tellTwo_57 : decode cX0_tellTwo 57 = .ok (.iload_n 1, 1) := by decide +kernel
theorem dX0_tellTwo_58 : decode cX0_tellTwo 58 = .ok (.iload_n 3, 1) := by decide +kernel
theorem dX0_tellTwo_59 : decode cX0_tellTwo 59 = .ok (.aload_n 0, 1) := by decide +kernel
theorem dX0_tellTwo_60 : decode cX0_tellTwo 60 = .ok (.iload_n 1, 1) := by decide +kernel
theorem dX0_tellTwo_61 : decode cX0_tellTwo 61 = .ok (.iload_n 3, 1) := by decide +kernel
theorem dX0_tellTwo_62 : decode cX0_tellTwo 62 = .ok (.invokevirtual 152, 3) := by decide +kernel
theorem dX0_tellTwo_65 : decode cX0_tellTwo 65 = .ok (.iconst 2, 1) := by decide +kernel
theorem dX0_tellTwo_66 : decode cX0_tellTwo 66 = .ok (.idiv, 1) := by decide +kernel
theorem dX0_tellTwo_67 : decode cX0_tellTwo 67 = .ok (.invokevirtual 155, 3) := by decide +kernel
theorem dX0_tellTwo_70 : decode cX0_tellTwo 70 = .ok (.iconst 1, 1) := by decide +kernel
theorem dX0_tellTwo_71 : decode cX0_tellTwo 71 = .ok (.ireturn, 1) := by decide +kernel
theorem dX0_polishOne_0 : decode cX0_polishOne 0 = .ok (.aload_n 0, 1) := by decide +kernel
theorem dX0_polishOne_1 : decode cX0_polishOne 1 = .ok (.iload_n 1, 1) := by decide +kernel
theorem dX0_polishOne_2 : decode cX0_polishOne 2 = .ok (.invokevirtual 149, 3) := by decide +kernel
theorem dX0_polishOne_5 : decode cX0_polishOne 5 = .ok (.ifCond .ne 5, 3) := by decide +kernel
theorem dX0_polishOne_8 : decode cX0_polishOne 8 = .ok (.iconst 0, 1) := by decide +kernel
theorem dX0_polishOne_9 : decode cX0_polishOne 9 = .ok (.ireturn, 1) := by decide +kernel
theorem dX0_polishOne_10 : decode cX0_polishOne 10 = .ok (.aload_n 0, 1) := by decide +kernel
theorem dX0_polishOne_11 : decode cX0_polishOne 11 = .ok (.getfield 22, 3) := by decide +kernel
theorem dX0_polishOne_14 : decode cX0_polishOne 14 = .ok (.iconst 0, 1) := by decide +kernel
theorem dX0_polishOne_15 : decode cX0_polishOne 15 = .ok (.invokestatic 53, 3) := by decide +kernel
theorem dX0_polishOne_18 : decode cX0_polishOne 18 = .ok (.aload_n 0, 1) := by decide +kernel
theorem dX0_polishOne_19 : decode cX0_polishOne 19 = .ok (.getfield 22, 3) := by decide +kernel
theorem dX0_polishOne_22 : decode cX0_polishOne 22 = .ok (.iload_n 1, 1) := by decide +kernel
theorem dX0_polishOne_23 : decode cX0_polishOne 23 = .ok (.iconst 5, 1) := by decide +kernel
theorem dX0_polishOne_24 : decode cX0_polishOne 24 = .ok (.iastore, 1) := by decide +kernel
theorem dX0_polishOne_25 : decode cX0_polishOne 25 = .ok (.iconst 1, 1) := by decide +kernel
theorem dX0_polishOne_26 : decode cX0_polishOne 26 = .ok (.ireturn, 1) := by decide +kernel
theorem dX0_stealOne_0 : decode cX0_stealOne 0 = .ok (.aload_n 0, 1) := by decide +kernel
theorem dX0_stealOne_1 : decode cX0_stealOne 1 = .ok (.iload_n 1, 1) := by decide +kernel
theorem dX0_stealOne_2 : decode cX0_stealOne 2 = .ok (.invokevirtual 149, 3) := by decide +kernel
theorem dX0_stealOne_5 : decode cX0_stealOne 5 = .ok (.ifCond .ne 5, 3) := by decide +kernel
theorem dX0_stealOne_8 : decode cX0_stealOne 8 = .ok (.iconst 0, 1) := by decide +kernel
theorem dX0_stealOne_9 : decode cX0_stealOne 9 = .ok (.ireturn, 1) := by decide +kernel
theorem dX0_stealOne_10 : decode cX0_stealOne 10 = .ok (.aload_n 0, 1) := by decide +kernel
theorem dX0_stealOne_11 : decode cX0_stealOne 11 = .ok (.dup, 1) := by decide +kernel
theorem dX0_stealOne_12 : decode cX0_stealOne 12 = .ok (.getfield 31, 3) := by decide +kernel
theorem dX0_stealOne_15 : decode cX0_stealOne 15 = .ok (.iconst 1, 1) := by decide +kernel
theorem dX0_stealOne_16 : decode cX0_stealOne 16 = .ok (.iload_n 1, 1) := by decide +kernel
theorem dX0_stealOne_17 : decode cX0_stealOne 17 = .ok (.ishl, 1) := by decide +kernel
theorem dX0_stealOne_18 : decode cX0_stealOne 18 = .ok (.ior, 1) := by decide +kernel
theorem dX0_stealOne_19 : decode cX0_stealOne 19 = .ok (.putfield 31, 3) := by decide +kernel
theorem dX0_stealOne_22 : decode cX0_stealOne 22 = .ok (.aload_n 0, 1) := by decide +kernel
theorem dX0_stealOne_23 : decode cX0_stealOne 23 = .ok (.getfield 18, 3) := by decide +kernel
theorem dX0_stealOne_26 : decode cX0_stealOne 26 = .ok (.iload_n 1, 1) := by decide +kernel
theorem dX0_stealOne_27 : decode cX0_stealOne 27 = .ok (.iconst 0, 1) := by decide +kernel
theorem dX0_stealOne_28 : decode cX0_stealOne 28 = .ok (.iastore, 1) := by decide +kernel
theorem dX0_stealOne_29 : decode cX0_stealOne 29 = .ok (.aload_n 0, 1) := by decide +kernel
theorem dX0_stealOne_30 : decode cX0_stealOne 30 = .ok (.getfield 22, 3) := by decide +kernel
theorem dX0_stealOne_33 : decode cX0_stealOne 33 = .ok (.iload_n 1, 1) := by decide +kernel
theorem dX0_stealOne_34 : decode cX0_stealOne 34 = .ok (.iconst 0, 1) := by decide +kernel
theorem dX0_stealOne_35 : decode cX0_stealOne 35 = .ok (.iastore, 1) := by decide +kernel
theorem dX0_stealOne_36 : decode cX0_stealOne 36 = .ok (.iconst 1, 1) := by decide +kernel
theorem dX0_stealOne_37 : decode cX0_stealOne 37 = .ok (.ireturn, 1) := by decide +kernel
theorem dX0_bringBack_0 : decode cX0_bringBack 0 = .ok (.aload_n 0, 1) := by decide +kernel
theorem dX0_bringBack_1 : decode cX0_bringBack 1 = .ok (.getfield 12, 3) := by decide +kernel
theorem dX0_bringBack_4 : decode cX0_bringBack 4 = .ok (.iload_n 1, 1) := by decide +kernel
theorem dX0_bringBack_5 : decode cX0_bringBack 5 = .ok (.invokevirtual 127, 3) := by decide +kernel
theorem dX0_bringBack_8 : decode cX0_bringBack 8 = .ok (.ifCond .eq 14, 3) := by decide +kernel
theorem dX0_bringBack_11 : decode cX0_bringBack 11 = .ok (.aload_n 0, 1) := by decide +kernel
theorem dX0_bringBack_12 : decode cX0_bringBack 12 = .ok (.getfield 31, 3) := by decide +kernel
theorem dX0_bringBack_15 : decode cX0_bringBack 15 = .ok (.iload_n 1, 1) := by decide +kernel
theorem dX0_bringBack_16 : decode cX0_bringBack 16 = .ok (.invokestatic 130, 3) := by decide +kernel
theorem dX0_bringBack_19 : decode cX0_bringBack 19 = .ok (.ifCond .ne 5, 3) := by decide +kernel
theorem dX0_bringBack_22 : decode cX0_bringBack 22 = .ok (.iconst 0, 1) := by decide +kernel
theorem dX0_bringBack_23 : decode cX0_bringBack 23 = .ok (.ireturn, 1) := by decide +kernel
theorem dX0_bringBack_24 : decode cX0_bringBack 24 = .ok (.aload_n 0, 1) := by decide +kernel
theorem dX0_bringBack_25 : decode cX0_bringBack 25 = .ok (.dup, 1) := by decide +kernel
theorem dX0_bringBack_26 : decode cX0_bringBack 26 = .ok (.getfield 31, 3) := by decide +kernel
theorem dX0_bringBack_29 : decode cX0_bringBack 29 = .ok (.iconst 1, 1) := by decide +kernel
theorem dX0_bringBack_30 : decode cX0_bringBack 30 = .ok (.iload_n 1, 1) := by decide +kernel
theorem dX0_bringBack_31 : decode cX0_bringBack 31 = .ok (.ishl, 1) := by decide +kernel
theorem dX0_bringBack_32 : decode cX0_bringBack 32 = .ok (.iconst (-1), 1) := by decide +kernel
theorem dX0_bringBack_33 : decode cX0_bringBack 33 = .ok (.ixor, 1) := by decide +kernel
theorem dX0_bringBack_34 : decode cX0_bringBack 34 = .ok (.iand, 1) := by decide +kernel
theorem dX0_bringBack_35 : decode cX0_bringBack 35 = .ok (.putfield 31, 3) := by decide +kernel
theorem dX0_bringBack_38 : decode cX0_bringBack 38 = .ok (.iconst 1, 1) := by decide +kernel
theorem dX0_bringBack_39 : decode cX0_bringBack 39 = .ok (.ireturn, 1) := by decide +kernel
theorem dX0_passHour_0 : decode cX0_passHour 0 = .ok (.aload_n 0, 1) := by decide +kernel
theorem dX0_passHour_1 : decode cX0_passHour 1 = .ok (.getfield 35, 3) := by decide +kernel
theorem dX0_passHour_4 : decode cX0_passHour 4 = .ok (.bipush 99, 2) := by decide +kernel
theorem dX0_passHour_6 : decode cX0_passHour 6 = .ok (.if_icmp .lt 5, 3) := by decide +kernel
theorem dX0_passHour_9 : decode cX0_passHour 9 = .ok (.iconst 0, 1) := by decide +kernel
theorem dX0_passHour_10 : decode cX0_passHour 10 = .ok (.ireturn, 1) := by decide +kernel
theorem dX0_passHour_11 : decode cX0_passHour 11 = .ok (.iconst 0, 1) := by decide +kernel
theorem dX0_passHour_12 : decode cX0_passHour 12 = .ok (.istore_n 1, 1) := by decide +kernel
theorem dX0_passHour_13 : decode cX0_passHour 13 = .ok (.iload_n 1, 1) := by decide +kernel
theorem dX0_passHour_14 : decode cX0_passHour 14 = .ok (.aload_n 0, 1) := by decide +kernel
theorem dX0_passHour_15 : decode cX0_passHour 15 = .ok (.getfield 12, 3) := by decide +kernel
theorem dX0_passHour_18 : decode cX0_passHour 18 = .ok (.getfield 100, 3) := by decide +kernel
theorem dX0_passHour_21 : decode cX0_passHour 21 = .ok (.if_icmp .ge 35, 3) := by decide +kernel
theorem dX0_passHour_24 : decode cX0_passHour 24 = .ok (.aload_n 0, 1) := by decide +kernel
theorem dX0_passHour_25 : decode cX0_passHour 25 = .ok (.getfield 18, 3) := by decide +kernel
theorem dX0_passHour_28 : decode cX0_passHour 28 = .ok (.iload_n 1, 1) := by decide +kernel
theorem dX0_passHour_29 : decode cX0_passHour 29 = .ok (.iconst 0, 1) := by decide +kernel
theorem dX0_passHour_30 : decode cX0_passHour 30 = .ok (.aload_n 0, 1) := by decide +kernel
theorem dX0_passHour_31 : decode cX0_passHour 31 = .ok (.getfield 18, 3) := by decide +kernel
theorem dX0_passHour_34 : decode cX0_passHour 34 = .ok (.iload_n 1, 1) := by decide +kernel
theorem dX0_passHour_35 : decode cX0_passHour 35 = .ok (.iaload, 1) := by decide +kernel
theorem dX0_passHour_36 : decode cX0_passHour 36 = .ok (.aload_n 0, 1) := by decide +kernel
theorem dX0_passHour_37 : decode cX0_passHour 37 = .ok (.getfield 12, 3) := by decide +kernel
theorem dX0_passHour_40 : decode cX0_passHour 40 = .ok (.getfield 159, 3) := by decide +kernel
theorem dX0_passHour_43 : decode cX0_passHour 43 = .ok (.iload_n 1, 1) := by decide +kernel
theorem dX0_passHour_44 : decode cX0_passHour 44 = .ok (.iaload, 1) := by decide +kernel
theorem dX0_passHour_45 : decode cX0_passHour 45 = .ok (.isub, 1) := by decide +kernel
theorem dX0_passHour_46 : decode cX0_passHour 46 = .ok (.invokestatic 103, 3) := by decide +kernel
theorem dX0_passHour_49 : decode cX0_passHour 49 = .ok (.iastore, 1) := by decide +kernel
theorem dX0_passHour_50 : decode cX0_passHour 50 = .ok (.iinc 1 1, 3) := by decide +kernel
theorem dX0_passHour_53 : decode cX0_passHour 53 = .ok (.goto (-40), 3) := by decide +kernel
theorem dX0_passHour_56 : decode cX0_passHour 56 = .ok (.aload_n 0, 1) := by decide +kernel
theorem dX0_passHour_57 : decode cX0_passHour 57 = .ok (.getfield 22, 3) := by decide +kernel
theorem dX0_passHour_60 : decode cX0_passHour 60 = .ok (.iconst 0, 1) := by decide +kernel
theorem dX0_passHour_61 : decode cX0_passHour 61 = .ok (.invokestatic 53, 3) := by decide +kernel
theorem dX0_passHour_64 : decode cX0_passHour 64 = .ok (.aload_n 0, 1) := by decide +kernel
theorem dX0_passHour_65 : decode cX0_passHour 65 = .ok (.dup, 1) := by decide +kernel
theorem dX0_passHour_66 : decode cX0_passHour 66 = .ok (.getfield 35, 3) := by decide +kernel
theorem dX0_passHour_69 : decode cX0_passHour 69 = .ok (.iconst 1, 1) := by decide +kernel
theorem dX0_passHour_70 : decode cX0_passHour 70 = .ok (.iadd, 1) := by decide +kernel
theorem dX0_passHour_71 : decode cX0_passHour 71 = .ok (.putfield 35, 3) := by decide +kernel
theorem dX0_passHour_74 : decode cX0_passHour 74 = .ok (.iconst 1, 1) := by decide +kernel
theorem dX0_passHour_75 : decode cX0_passHour 75 = .ok (.ireturn, 1) := by decide +kernel
theorem dX0_brightest_0 : decode cX0_brightest 0 = .ok (.iconst (-1), 1) := by decide +kernel
theorem dX0_brightest_1 : decode cX0_brightest 1 = .ok (.istore_n 1, 1) := by decide +kernel
theorem dX0_brightest_2 : decode cX0_brightest 2 = .ok (.iconst 0, 1) := by decide +kernel
theorem dX0_brightest_3 : decode cX0_brightest 3 = .ok (.istore_n 2, 1) := by decide +kernel
theorem dX0_brightest_4 : decode cX0_brightest 4 = .ok (.iconst 0, 1) := by decide +kernel
theorem dX0_brightest_5 : decode cX0_brightest 5 = .ok (.istore_n 3, 1) := by decide +kernel
theorem dX0_brightest_6 : decode cX0_brightest 6 = .ok (.iload_n 3, 1) := by decide +kernel
theorem dX0_brightest_7 : decode cX0_brightest 7 = .ok (.aload_n 0, 1) := by decide +kernel
theorem dX0_brightest_8 : decode cX0_brightest 8 = .ok (.getfield 12, 3) := by decide +kernel
theorem dX0_brightest_11 : decode cX0_brightest 11 = .ok (.getfield 100, 3) := by decide +kernel
theorem dX0_brightest_14 : decode cX0_brightest 14 = .ok (.if_icmp .ge 42, 3) := by decide +kernel
theorem dX0_brightest_17 : decode cX0_brightest 17 = .ok (.aload_n 0, 1) := by decide +kernel
theorem dX0_brightest_18 : decode cX0_brightest 18 = .ok (.getfield 18, 3) := by decide +kernel
theorem dX0_brightest_21 : decode cX0_brightest 21 = .ok (.iload_n 3, 1) := by decide +kernel
theorem dX0_brightest_22 : decode cX0_brightest 22 = .ok (.iaload, 1) := by decide +kernel
theorem dX0_brightest_23 : decode cX0_brightest 23 = .ok (.aload_n 0, 1) := by decide +kernel
theorem dX0_brightest_24 : decode cX0_brightest 24 = .ok (.getfield 22, 3) := by decide +kernel
theorem dX0_brightest_27 : decode cX0_brightest 27 = .ok (.iload_n 3, 1) := by decide +kernel
theorem dX0_brightest_28 : decode cX0_brightest 28 = .ok (.iaload, 1) := by decide +kernel
theorem dX0_brightest_29 : decode cX0_brightest 29 = .ok (.iadd, 1) := by decide +kernel
theorem dX0_brightest_30 : decode cX0_brightest 30 = .ok (.iload_n 2, 1) := by decide +kernel
theorem dX0_brightest_31 : decode cX0_brightest 31 = .ok (.if_icmp .le 19, 3) := by decide +kernel
theorem dX0_brightest_34 : decode cX0_brightest 34 = .ok (.aload_n 0, 1) := by decide +kernel
theorem dX0_brightest_35 : decode cX0_brightest 35 = .ok (.getfield 18, 3) := by decide +kernel
theorem dX0_brightest_38 : decode cX0_brightest 38 = .ok (.iload_n 3, 1) := by decide +kernel
theorem dX0_brightest_39 : decode cX0_brightest 39 = .ok (.iaload, 1) := by decide +kernel
theorem dX0_brightest_40 : decode cX0_brightest 40 = .ok (.aload_n 0, 1) := by decide +kernel
theorem dX0_brightest_41 : decode cX0_brightest 41 = .ok (.getfield 22, 3) := by decide +kernel
theorem dX0_brightest_44 : decode cX0_brightest 44 = .ok (.iload_n 3, 1) := by decide +kernel
theorem dX0_brightest_45 : decode cX0_brightest 45 = .ok (.iaload, 1) := by decide +kernel
theorem dX0_brightest_46 : decode cX0_brightest 46 = .ok (.iadd, 1) := by decide +kernel
theorem dX0_brightest_47 : decode cX0_brightest 47 = .ok (.istore_n 2, 1) := by decide +kernel
theorem dX0_brightest_48 : decode cX0_brightest 48 = .ok (.iload_n 3, 1) := by decide +kernel
theorem dX0_brightest_49 : decode cX0_brightest 49 = .ok (.istore_n 1, 1) := by decide +kernel
theorem dX0_brightest_50 : decode cX0_brightest 50 = .ok (.iinc 3 1, 3) := by decide +kernel
theorem dX0_brightest_53 : decode cX0_brightest 53 = .ok (.goto (-47), 3) := by decide +kernel
theorem dX0_brightest_56 : decode cX0_brightest 56 = .ok (.iload_n 1, 1) := by decide +kernel
theorem dX0_brightest_57 : decode cX0_brightest 57 = .ok (.ireturn, 1) := by decide +kernel
theorem dX0_isDusk_0 : decode cX0_isDusk 0 = .ok (.iconst 0, 1) := by decide +kernel
theorem dX0_isDusk_1 : decode cX0_isDusk 1 = .ok (.istore_n 1, 1) := by decide +kernel
theorem dX0_isDusk_2 : decode cX0_isDusk 2 = .ok (.iconst 0, 1) := by decide +kernel
theorem dX0_isDusk_3 : decode cX0_isDusk 3 = .ok (.istore_n 2, 1) := by decide +kernel
theorem dX0_isDusk_4 : decode cX0_isDusk 4 = .ok (.iload_n 2, 1) := by decide +kernel
theorem dX0_isDusk_5 : decode cX0_isDusk 5 = .ok (.aload_n 0, 1) := by decide +kernel
theorem dX0_isDusk_6 : decode cX0_isDusk 6 = .ok (.getfield 12, 3) := by decide +kernel
theorem dX0_isDusk_9 : decode cX0_isDusk 9 = .ok (.getfield 100, 3) := by decide +kernel
theorem dX0_isDusk_12 : decode cX0_isDusk 12 = .ok (.if_icmp .ge 33, 3) := by decide +kernel
theorem dX0_isDusk_15 : decode cX0_isDusk 15 = .ok (.iload_n 1, 1) := by decide +kernel
theorem dX0_isDusk_16 : decode cX0_isDusk 16 = .ok (.aload_n 0, 1) := by decide +kernel
theorem dX0_isDusk_17 : decode cX0_isDusk 17 = .ok (.getfield 18, 3) := by decide +kernel
theorem dX0_isDusk_20 : decode cX0_isDusk 20 = .ok (.iload_n 2, 1) := by decide +kernel
theorem dX0_isDusk_21 : decode cX0_isDusk 21 = .ok (.iaload, 1) := by decide +kernel
theorem dX0_isDusk_22 : decode cX0_isDusk 22 = .ok (.aload_n 0, 1) := by decide +kernel
theorem dX0_isDusk_23 : decode cX0_isDusk 23 = .ok (.getfield 22, 3) := by decide +kernel
theorem dX0_isDusk_26 : decode cX0_isDusk 26 = .ok (.iload_n 2, 1) := by decide +kernel
theorem dX0_isDusk_27 : decode cX0_isDusk 27 = .ok (.iaload, 1) := by decide +kernel
theorem dX0_isDusk_28 : decode cX0_isDusk 28 = .ok (.iadd, 1) := by decide +kernel
theorem dX0_isDusk_29 : decode cX0_isDusk 29 = .ok (.ifCond .le 7, 3) := by decide +kernel
theorem dX0_isDusk_32 : decode cX0_isDusk 32 = .ok (.iconst 1, 1) := by decide +kernel
theorem dX0_isDusk_33 : decode cX0_isDusk 33 = .ok (.goto 4, 3) := by decide +kernel
theorem dX0_isDusk_36 : decode cX0_isDusk 36 = .ok (.iconst 0, 1) := by decide +kernel
theorem dX0_isDusk_37 : decode cX0_isDusk 37 = .ok (.iadd, 1) := by decide +kernel
theorem dX0_isDusk_38 : decode cX0_isDusk 38 = .ok (.istore_n 1, 1) := by decide +kernel
theorem dX0_isDusk_39 : decode cX0_isDusk 39 = .ok (.iinc 2 1, 3) := by decide +kernel
theorem dX0_isDusk_42 : decode cX0_isDusk 42 = .ok (.goto (-38), 3) := by decide +kernel
theorem dX0_isDusk_45 : decode cX0_isDusk 45 = .ok (.iload_n 1, 1) := by decide +kernel
theorem dX0_isDusk_46 : decode cX0_isDusk 46 = .ok (.iconst 1, 1) := by decide +kernel
theorem dX0_isDusk_47 : decode cX0_isDusk 47 = .ok (.if_icmp .le 7, 3) := by decide +kernel
theorem dX0_isDusk_50 : decode cX0_isDusk 50 = .ok (.iconst 1, 1) := by decide +kernel
theorem dX0_isDusk_51 : decode cX0_isDusk 51 = .ok (.goto 4, 3) := by decide +kernel
theorem dX0_isDusk_54 : decode cX0_isDusk 54 = .ok (.iconst 0, 1) := by decide +kernel
theorem dX0_isDusk_55 : decode cX0_isDusk 55 = .ok (.ireturn, 1) := by decide +kernel
theorem dX0_look_0 : decode cX0_look 0 = .ok (.iload_n 1, 1) := by decide +kernel
theorem dX0_look_1 : decode cX0_look 1 = .ok (.tableswitch 68 0 4 #[35, 40, 45, 58, 63], 35) := by decide +kernel
theorem dX0_look_36 : decode cX0_look 36 = .ok (.aload_n 0, 1) := by decide +kernel
theorem dX0_look_37 : decode cX0_look 37 = .ok (.getfield 35, 3) := by decide +kernel
theorem dX0_look_40 : decode cX0_look 40 = .ok (.ireturn, 1) := by decide +kernel
theorem dX0_look_41 : decode cX0_look 41 = .ok (.aload_n 0, 1) := by decide +kernel
theorem dX0_look_42 : decode cX0_look 42 = .ok (.invokevirtual 92, 3) := by decide +kernel
theorem dX0_look_45 : decode cX0_look 45 = .ok (.ireturn, 1) := by decide +kernel
theorem dX0_look_46 : decode cX0_look 46 = .ok (.aload_n 0, 1) := by decide +kernel
theorem dX0_look_47 : decode cX0_look 47 = .ok (.invokevirtual 96, 3) := by decide +kernel
theorem dX0_look_50 : decode cX0_look 50 = .ok (.ifCond .eq 7, 3) := by decide +kernel
theorem dX0_look_53 : decode cX0_look 53 = .ok (.iconst 1, 1) := by decide +kernel
theorem dX0_look_54 : decode cX0_look 54 = .ok (.goto 4, 3) := by decide +kernel
theorem dX0_look_57 : decode cX0_look 57 = .ok (.iconst 0, 1) := by decide +kernel
theorem dX0_look_58 : decode cX0_look 58 = .ok (.ireturn, 1) := by decide +kernel
theorem dX0_look_59 : decode cX0_look 59 = .ok (.aload_n 0, 1) := by decide +kernel
theorem dX0_look_60 : decode cX0_look 60 = .ok (.getfield 31, 3) := by decide +kernel
theorem dX0_look_63 : decode cX0_look 63 = .ok (.ireturn, 1) := by decide +kernel
theorem dX0_look_64 : decode cX0_look 64 = .ok (.aload_n 0, 1) := by decide +kernel
theorem dX0_look_65 : decode cX0_look 65 = .ok (.getfield 38, 3) := by decide +kernel
theorem dX0_look_68 : decode cX0_look 68 = .ok (.ireturn, 1) := by decide +kernel
theorem dX0_look_69 : decode cX0_look 69 = .ok (.iload_n 1, 1) := by decide +kernel
theorem dX0_look_70 : decode cX0_look 70 = .ok (.bipush 10, 2) := by decide +kernel
theorem dX0_look_72 : decode cX0_look 72 = .ok (.if_icmp .lt 32, 3) := by decide +kernel
theorem dX0_look_75 : decode cX0_look 75 = .ok (.aload_n 0, 1) := by decide +kernel
theorem dX0_look_76 : decode cX0_look 76 = .ok (.getfield 12, 3) := by decide +kernel
theorem dX0_look_79 : decode cX0_look 79 = .ok (.iload_n 1, 1) := by decide +kernel
theorem dX0_look_80 : decode cX0_look 80 = .ok (.bipush 10, 2) := by decide +kernel
theorem dX0_look_82 : decode cX0_look 82 = .ok (.irem, 1) := by decide +kernel
theorem dX0_look_83 : decode cX0_look 83 = .ok (.invokevirtual 127, 3) := by decide +kernel
theorem dX0_look_86 : decode cX0_look 86 = .ok (.ifCond .eq 18, 3) := by decide +kernel
theorem dX0_look_89 : decode cX0_look 89 = .ok (.aload_n 0, 1) := by decide +kernel
theorem dX0_look_90 : decode cX0_look 90 = .ok (.iload_n 1, 1) := by decide +kernel
theorem dX0_look_91 : decode cX0_look 91 = .ok (.bipush 10, 2) := by decide +kernel
theorem dX0_look_93 : decode cX0_look 93 = .ok (.idiv, 1) := by decide +kernel
theorem dX0_look_94 : decode cX0_look 94 = .ok (.iload_n 1, 1) := by decide +kernel
theorem dX0_look_95 : decode cX0_look 95 = .ok (.bipush 10, 2) := by decide +kernel
theorem dX0_look_97 : decode cX0_look 97 = .ok (.irem, 1) := by decide +kernel
theorem dX0_look_98 : decode cX0_look 98 = .ok (.invokevirtual 162, 3) := by decide +kernel
theorem dX0_look_101 : decode cX0_look 101 = .ok (.goto 5, 3) := by decide +kernel
theorem dX0_look_104 : decode cX0_look 104 = .ok (.bipush (-2), 2) := by decide +kernel
theorem dX0_look_106 : decode cX0_look 106 = .ok (.ireturn, 1) := by decide +kernel
theorem dX0_lookAt_0 : decode cX0_lookAt 0 = .ok (.iload_n 1, 1) := by decide +kernel
theorem dX0_lookAt_1 : decode cX0_lookAt 1 = .ok (.tableswitch 48 1 3 #[27, 34, 41], 27) := by decide +kernel
theorem dX0_lookAt_28 : decode cX0_lookAt 28 = .ok (.aload_n 0, 1) := by decide +kernel
theorem dX0_lookAt_29 : decode cX0_lookAt 29 = .ok (.getfield 18, 3) := by decide +kernel
theorem dX0_lookAt_32 : decode cX0_lookAt 32 = .ok (.iload_n 2, 1) := by decide +kernel
theorem dX0_lookAt_33 : decode cX0_lookAt 33 = .ok (.iaload, 1) := by decide +kernel
theorem dX0_lookAt_34 : decode cX0_lookAt 34 = .ok (.ireturn, 1) := by decide +kernel
theorem dX0_lookAt_35 : decode cX0_lookAt 35 = .ok (.aload_n 0, 1) := by decide +kernel
theorem dX0_lookAt_36 : decode cX0_lookAt 36 = .ok (.getfield 22, 3) := by decide +kernel
theorem dX0_lookAt_39 : decode cX0_lookAt 39 = .ok (.iload_n 2, 1) := by decide +kernel
theorem dX0_lookAt_40 : decode cX0_lookAt 40 = .ok (.iaload, 1) := by decide +kernel
theorem dX0_lookAt_41 : decode cX0_lookAt 41 = .ok (.ireturn, 1) := by decide +kernel
theorem dX0_lookAt_42 : decode cX0_lookAt 42 = .ok (.aload_n 0, 1) := by decide +kernel
theorem dX0_lookAt_43 : decode cX0_lookAt 43 = .ok (.getfield 25, 3) := by decide +kernel
theorem dX0_lookAt_46 : decode cX0_lookAt 46 = .ok (.iload_n 2, 1) := by decide +kernel
theorem dX0_lookAt_47 : decode cX0_lookAt 47 = .ok (.iaload, 1) := by decide +kernel
theorem dX0_lookAt_48 : decode cX0_lookAt 48 = .ok (.ireturn, 1) := by decide +kernel
theorem dX0_lookAt_49 : decode cX0_lookAt 49 = .ok (.bipush (-2), 2) := by decide +kernel
theorem dX0_lookAt_51 : decode cX0_lookAt 51 = .ok (.ireturn, 1) := by decide +kernel
theorem dX0_draw_0 : decode cX0_draw 0 = .ok (.aload_n 0, 1) := by decide +kernel
theorem dX0_draw_1 : decode cX0_draw 1 = .ok (.aload_n 1, 1) := by decide +kernel
theorem dX0_draw_2 : decode cX0_draw 2 = .ok (.invokevirtual 66, 3) := by decide +kernel
theorem dX0_draw_5 : decode cX0_draw 5 = .ok (.aload_n 0, 1) := by decide +kernel
theorem dX0_draw_6 : decode cX0_draw 6 = .ok (.iload_n 2, 1) := by decide +kernel
theorem dX0_draw_7 : decode cX0_draw 7 = .ok (.putfield 41, 3) := by decide +kernel
theorem dX0_draw_10 : decode cX0_draw 10 = .ok (.iconst 0, 1) := by decide +kernel
theorem dX0_draw_11 : decode cX0_draw 11 = .ok (.istore 4, 2) := by decide +kernel
theorem dX0_draw_13 : decode cX0_draw 13 = .ok (.iload 4, 2) := by decide +kernel
theorem dX0_draw_15 : decode cX0_draw 15 = .ok (.iload_n 3, 1) := by decide +kernel
theorem dX0_draw_16 : decode cX0_draw 16 = .ok (.if_icmp .ge 13, 3) := by decide +kernel
theorem dX0_draw_19 : decode cX0_draw 19 = .ok (.aload_n 0, 1) := by decide +kernel
theorem dX0_draw_20 : decode cX0_draw 20 = .ok (.invokevirtual 165, 3) := by decide +kernel
theorem dX0_draw_23 : decode cX0_draw 23 = .ok (.iinc 4 1, 3) := by decide +kernel
theorem dX0_draw_26 : decode cX0_draw 26 = .ok (.goto (-13), 3) := by decide +kernel
theorem dX0_draw_29 : decode cX0_draw 29 = .ok (.return_, 1) := by decide +kernel
theorem dX0_drawBelow_0 : decode cX0_drawBelow 0 = .ok (.aload_n 0, 1) := by decide +kernel
theorem dX0_drawBelow_1 : decode cX0_drawBelow 1 = .ok (.aload_n 0, 1) := by decide +kernel
theorem dX0_drawBelow_2 : decode cX0_drawBelow 2 = .ok (.getfield 41, 3) := by decide +kernel
theorem dX0_drawBelow_5 : decode cX0_drawBelow 5 = .ok (.ldc 168, 2) := by decide +kernel
theorem dX0_drawBelow_7 : decode cX0_drawBelow 7 = .ok (.imul, 1) := by decide +kernel
theorem dX0_drawBelow_8 : decode cX0_drawBelow 8 = .ok (.sipush 12345, 3) := by decide +kernel
theorem dX0_drawBelow_11 : decode cX0_drawBelow 11 = .ok (.iadd, 1) := by decide +kernel
theorem dX0_drawBelow_12 : decode cX0_drawBelow 12 = .ok (.putfield 41, 3) := by decide +kernel
theorem dX0_drawBelow_15 : decode cX0_drawBelow 15 = .ok (.iload_n 1, 1) := by decide +kernel
theorem dX0_drawBelow_16 : decode cX0_drawBelow 16 = .ok (.ifCond .gt 7, 3) := by decide +kernel
theorem dX0_drawBelow_19 : decode cX0_drawBelow 19 = .ok (.iconst 0, 1) := by decide +kernel
theorem dX0_drawBelow_20 : decode cX0_drawBelow 20 = .ok (.goto 12, 3) := by decide +kernel
theorem dX0_drawBelow_23 : decode cX0_drawBelow 23 = .ok (.aload_n 0, 1) := by decide +kernel
theorem dX0_drawBelow_24 : decode cX0_drawBelow 24 = .ok (.getfield 41, 3) := by decide +kernel
theorem dX0_drawBelow_27 : decode cX0_drawBelow 27 = .ok (.bipush 16, 2) := by decide +kernel
theorem dX0_drawBelow_29 : decode cX0_drawBelow 29 = .ok (.iushr, 1) := by decide +kernel
theorem dX0_drawBelow_30 : decode cX0_drawBelow 30 = .ok (.iload_n 1, 1) := by decide +kernel
theorem dX0_drawBelow_31 : decode cX0_drawBelow 31 = .ok (.irem, 1) := by decide +kernel
theorem dX0_drawBelow_32 : decode cX0_drawBelow 32 = .ok (.ireturn, 1) := by decide +kernel
theorem dX0_drawDeed_0 : decode cX0_drawDeed 0 = .ok (.aload_n 0, 1) := by decide +kernel
theorem dX0_drawDeed_1 : decode cX0_drawDeed 1 = .ok (.bipush 8, 2) := by decide +kernel
theorem dX0_drawDeed_3 : decode cX0_drawDeed 3 = .ok (.invokevirtual 169, 3) := by decide +kernel
theorem dX0_drawDeed_6 : decode cX0_drawDeed 6 = .ok (.istore_n 1, 1) := by decide +kernel
theorem dX0_drawDeed_7 : decode cX0_drawDeed 7 = .ok (.iload_n 1, 1) := by decide +kernel
theorem dX0_drawDeed_8 : decode cX0_drawDeed 8 = .ok (.iconst 4, 1) := by decide +kernel
theorem dX0_drawDeed_9 : decode cX0_drawDeed 9 = .ok (.if_icmp .lt 17, 3) := by decide +kernel
theorem dX0_drawDeed_12 : decode cX0_drawDeed 12 = .ok (.iload_n 1, 1) := by decide +kernel
theorem dX0_drawDeed_13 : decode cX0_drawDeed 13 = .ok (.bipush 6, 2) := by decide +kernel
theorem dX0_drawDeed_15 : decode cX0_drawDeed 15 = .ok (.if_icmp .gt 11, 3) := by decide +kernel
theorem dX0_drawDeed_18 : decode cX0_drawDeed 18 = .ok (.aload_n 0, 1) := by decide +kernel
theorem dX0_drawDeed_19 : decode cX0_drawDeed 19 = .ok (.invokevirtual 124, 3) := by decide +kernel
theorem dX0_drawDeed_22 : decode cX0_drawDeed 22 = .ok (.pop, 1) := by decide +kernel
theorem dX0_drawDeed_23 : decode cX0_drawDeed 23 = .ok (.goto 28, 3) := by decide +kernel
theorem dX0_drawDeed_26 : decode cX0_drawDeed 26 = .ok (.aload_n 0, 1) := by decide +kernel
theorem dX0_drawDeed_27 : decode cX0_drawDeed 27 = .ok (.getfield 12, 3) := by decide +kernel
theorem dX0_drawDeed_30 : decode cX0_drawDeed 30 = .ok (.getfield 173, 3) := by decide +kernel
theorem dX0_drawDeed_33 : decode cX0_drawDeed 33 = .ok (.ifCond .le 18, 3) := by decide +kernel
theorem dX0_drawDeed_36 : decode cX0_drawDeed 36 = .ok (.aload_n 0, 1) := by decide +kernel
theorem dX0_drawDeed_37 : decode cX0_drawDeed 37 = .ok (.getfield 12, 3) := by decide +kernel
theorem dX0_drawDeed_40 : decode cX0_drawDeed 40 = .ok (.getfield 100, 3) := by decide +kernel
theorem dX0_drawDeed_43 : decode cX0_drawDeed 43 = .ok (.ifCond .le 8, 3) := by decide +kernel
theorem dX0_drawDeed_46 : decode cX0_drawDeed 46 = .ok (.aload_n 0, 1) := by decide +kernel
theorem dX0_drawDeed_47 : decode cX0_drawDeed 47 = .ok (.iload_n 1, 1) := by decide +kernel
theorem dX0_drawDeed_48 : decode cX0_drawDeed 48 = .ok (.invokevirtual 176, 3) := by decide +kernel
theorem dX0_drawDeed_51 : decode cX0_drawDeed 51 = .ok (.return_, 1) := by decide +kernel
theorem dX0_drawTelling_0 : decode cX0_drawTelling 0 = .ok (.iload_n 1, 1) := by decide +kernel
theorem dX0_drawTelling_1 : decode cX0_drawTelling 1 = .ok (.iconst 2, 1) := by decide +kernel
theorem dX0_drawTelling_2 : decode cX0_drawTelling 2 = .ok (.if_icmp .gt 17, 3) := by decide +kernel
theorem dX0_drawTelling_5 : decode cX0_drawTelling 5 = .ok (.aload_n 0, 1) := by decide +kernel
theorem dX0_drawTelling_6 : decode cX0_drawTelling 6 = .ok (.aload_n 0, 1) := by decide +kernel
theorem dX0_drawTelling_7 : decode cX0_drawTelling 7 = .ok (.getfield 12, 3) := by decide +kernel
theorem dX0_drawTelling_10 : decode cX0_drawTelling 10 = .ok (.getfield 173, 3) := by decide +kernel
theorem dX0_drawTelling_13 : decode cX0_drawTelling 13 = .ok (.invokevirtual 169, 3) := by decide +kernel
theorem dX0_drawTelling_16 : decode cX0_drawTelling 16 = .ok (.goto 4, 3) := by decide +kernel
theorem dX0_drawTelling_19 : decode cX0_drawTelling 19 = .ok (.iconst (-1), 1) := by decide +kernel
theorem dX0_drawTelling_20 : decode cX0_drawTelling 20 = .ok (.istore_n 2, 1) := by decide +kernel
theorem dX0_drawTelling_21 : decode cX0_drawTelling 21 = .ok (.aload_n 0, 1) := by decide +kernel
theorem dX0_drawTelling_22 : decode cX0_drawTelling 22 = .ok (.aload_n 0, 1) := by decide +kernel
theorem dX0_drawTelling_23 : decode cX0_drawTelling 23 = .ok (.getfield 12, 3) := by decide +kernel
theorem dX0_drawTelling_26 : decode cX0_drawTelling 26 = .ok (.getfield 100, 3) := by decide +kernel
theorem dX0_drawTelling_29 : decode cX0_drawTelling 29 = .ok (.invokevirtual 169, 3) := by decide +kernel
theorem dX0_drawTelling_32 : decode cX0_drawTelling 32 = .ok (.istore_n 3, 1) := by decide +kernel
theorem dX0_drawTelling_33 : decode cX0_drawTelling 33 = .ok (.iload_n 1, 1) := by decide +kernel
theorem dX0_drawTelling_34 : decode cX0_drawTelling 34 = .ok (.iconst 1, 1) := by decide +kernel
theorem dX0_drawTelling_35 : decode cX0_drawTelling 35 = .ok (.if_icmp .gt 13, 3) := by decide +kernel
theorem dX0_drawTelling_38 : decode cX0_drawTelling 38 = .ok (.aload_n 0, 1) := by decide +kernel
theorem dX0_drawTelling_39 : decode cX0_drawTelling 39 = .ok (.iload_n 2, 1) := by decide +kernel
theorem dX0_drawTelling_40 : decode cX0_drawTelling 40 = .ok (.iload_n 3, 1) := by decide +kernel
theorem dX0_drawTelling_41 : decode cX0_drawTelling 41 = .ok (.invokevirtual 106, 3) := by decide +kernel
theorem dX0_drawTelling_44 : decode cX0_drawTelling 44 = .ok (.pop, 1) := by decide +kernel
theorem dX0_drawTelling_45 : decode cX0_drawTelling 45 = .ok (.goto 75, 3) := by decide +kernel
theorem dX0_drawTelling_48 : decode cX0_drawTelling 48 = .ok (.iload_n 1, 1) := by decide +kernel
theorem dX0_drawTelling_49 : decode cX0_drawTelling 49 = .ok (.iconst 2, 1) := by decide +kernel
theorem dX0_drawTelling_50 : decode cX0_drawTelling 50 = .ok (.if_icmp .ne 33, 3) := by decide +kernel
theorem dX0_drawTelling_53 : decode cX0_drawTelling 53 = .ok (.aload_n 0, 1) := by decide +kernel
theorem dX0_drawTelling_54 : decode cX0_drawTelling 54 = .ok (.iload_n 2, 1) := by decide +kernel
theorem dX0_drawTelling_55 : decode cX0_drawTelling 55 = .ok (.iload_n 3, 1) := by decide +kernel
theorem dX0_drawTelling_56 : decode cX0_drawTelling 56 = .ok (.iload_n 3, 1) := by decide +kernel
theorem dX0_drawTelling_57 : decode cX0_drawTelling 57 = .ok (.iconst 1, 1) := by decide +kernel
theorem dX0_drawTelling_58 : decode cX0_drawTelling 58 = .ok (.iadd, 1) := by decide +kernel
theorem dX0_drawTelling_59 : decode cX0_drawTelling 59 = .ok (.aload_n 0, 1) := by decide +kernel
theorem dX0_drawTelling_60 : decode cX0_drawTelling 60 = .ok (.getfield 12, 3) := by decide +kernel
theorem dX0_drawTelling_63 : decode cX0_drawTelling 63 = .ok (.getfield 100, 3) := by decide +kernel
theorem dX0_drawTelling_66 : decode cX0_drawTelling 66 = .ok (.if_icmp .ge 9, 3) := by decide +kernel
theorem dX0_drawTelling_69 : decode cX0_drawTelling 69 = .ok (.iload_n 3, 1) := by decide +kernel
theorem dX0_drawTelling_70 : decode cX0_drawTelling 70 = .ok (.iconst 1, 1) := by decide +kernel
theorem dX0_drawTelling_71 : decode cX0_drawTelling 71 = .ok (.iadd, 1) := by decide +kernel
theorem dX0_drawTelling_72 : decode cX0_drawTelling 72 = .ok (.goto 4, 3) := by decide +kernel
theorem dX0_drawTelling_75 : decode cX0_drawTelling 75 = .ok (.iconst 0, 1) := by decide +kernel
theorem dX0_drawTelling_76 : decode cX0_drawTelling 76 = .ok (.invokevirtual 110, 3) := by decide +kernel
theorem dX0_drawTelling_79 : decode cX0_drawTelling 79 = .ok (.pop, 1) := by decide +kernel
theorem dX0_drawTelling_80 : decode cX0_drawTelling 80 = .ok (.goto 40, 3) := by decide +kernel
theorem dX0_drawTelling_83 : decode cX0_drawTelling 83 = .ok (.iload_n 1, 1) := by decide +kernel
theorem dX0_drawTelling_84 : decode cX0_drawTelling 84 = .ok (.iconst 3, 1) := by decide +kernel
theorem dX0_drawTelling_85 : decode cX0_drawTelling 85 = .ok (.if_icmp .ne 12, 3) := by decide +kernel
theorem dX0_drawTelling_88 : decode cX0_drawTelling 88 = .ok (.aload_n 0, 1) := by decide +kernel
theorem dX0_drawTelling_89 : decode cX0_drawTelling 89 = .ok (.iload_n 3, 1) := by decide +kernel
theorem dX0_drawTelling_90 : decode cX0_drawTelling 90 = .ok (.invokevirtual 114, 3) := by decide +kernel
theorem dX0_drawTelling_93 : decode cX0_drawTelling 93 = .ok (.pop, 1) := by decide +kernel
theorem dX0_drawTelling_94 : decode cX0_drawTelling 94 = .ok (.goto 26, 3) := by decide +kernel
theorem dX0_drawTelling_97 : decode cX0_drawTelling 97 = .ok (.aload_n 0, 1) := by decide +kernel
theorem dX0_drawTelling_98 : decode cX0_drawTelling 98 = .ok (.iload_n 3, 1) := by decide +kernel
theorem dX0_drawTelling_99 : decode cX0_drawTelling 99 = .ok (.invokevirtual 149, 3) := by decide +kernel
theorem dX0_drawTelling_102 : decode cX0_drawTelling 102 = .ok (.ifCond .eq 12, 3) := by decide +kernel
theorem dX0_drawTelling_105 : decode cX0_drawTelling 105 = .ok (.aload_n 0, 1) := by decide +kernel
theorem dX0_drawTelling_106 : decode cX0_drawTelling 106 = .ok (.iload_n 3, 1) := by decide +kernel
theorem dX0_drawTelling_107 : decode cX0_drawTelling 107 = .ok (.invokevirtual 118, 3) := by decide +kernel
theorem dX0_drawTelling_110 : decode cX0_drawTelling 110 = .ok (.pop, 1) := by decide +kernel
theorem dX0_drawTelling_111 : decode cX0_drawTelling 111 = .ok (.goto 9, 3) := by decide +kernel
theorem dX0_drawTelling_114 : decode cX0_drawTelling 114 = .ok (.aload_n 0, 1) := by decide +kernel
theorem dX0_drawTelling_115 : decode cX0_drawTelling 115 = .ok (.iload_n 3, 1) := by decide +kernel
theorem dX0_drawTelling_116 : decode cX0_drawTelling 116 = .ok (.invokevirtual 121, 3) := by decide +kernel
theorem dX0_drawTelling_119 : decode cX0_drawTelling 119 = .ok (.pop, 1) := by decide +kernel
theorem dX0_drawTelling_120 : decode cX0_drawTelling 120 = .ok (.return_, 1) := by decide +kernel
theorem dX1_init_0 : decode cX1_init 0 = .ok (.aload_n 0, 1) := by decide +kernel
theorem dX1_init_1 : decode cX1_init 1 = .ok (.invokespecial 3, 3) := by decide +kernel
theorem dX1_init_4 : decode cX1_init 4 = .ok (.aload_n 0, 1) := by decide +kernel
theorem dX1_init_5 : decode cX1_init 5 = .ok (.bipush 120, 2) := by decide +kernel
theorem dX1_init_7 : decode cX1_init 7 = .ok (.newarray .int, 2) := by decide +kernel
theorem dX1_init_9 : decode cX1_init 9 = .ok (.putfield 11, 3) := by decide +kernel
theorem dX1_init_12 : decode cX1_init 12 = .ok (.aload_n 0, 1) := by decide +kernel
theorem dX1_init_13 : decode cX1_init 13 = .ok (.iconst 0, 1) := by decide +kernel
theorem dX1_init_14 : decode cX1_init 14 = .ok (.putfield 15, 3) := by decide +kernel
theorem dX1_init_17 : decode cX1_init 17 = .ok (.aload_n 0, 1) := by decide +kernel
theorem dX1_init_18 : decode cX1_init 18 = .ok (.bipush 61, 2) := by decide +kernel
theorem dX1_init_20 : decode cX1_init 20 = .ok (.newarray .int, 2) := by decide +kernel
theorem dX1_init_22 : decode cX1_init 22 = .ok (.putfield 19, 3) := by decide +kernel
theorem dX1_init_25 : decode cX1_init 25 = .ok (.return_, 1) := by decide +kernel
theorem dX1_gather_0 : decode cX1_gather 0 = .ok (.aload_n 0, 1) := by decide +kernel
theorem dX1_gather_1 : decode cX1_gather 1 = .ok (.iconst 0, 1) := by decide +kernel
theorem dX1_gather_2 : decode cX1_gather 2 = .ok (.putfield 15, 3) := by decide +kernel
theorem dX1_gather_5 : decode cX1_gather 5 = .ok (.iconst 0, 1) := by decide +kernel
theorem dX1_gather_6 : decode cX1_gather 6 = .ok (.istore_n 3, 1) := by decide +kernel
theorem dX1_gather_7 : decode cX1_gather 7 = .ok (.iload_n 3, 1) := by decide +kernel
theorem dX1_gather_8 : decode cX1_gather 8 = .ok (.bipush 120, 2) := by decide +kernel
theorem dX1_gather_10 : decode cX1_gather 10 = .ok (.if_icmp .ge 38, 3) := by decide +kernel
theorem dX1_gather_13 : decode cX1_gather 13 = .ok (.aload_n 1, 1) := by decide +kernel
theorem dX1_gather_14 : decode cX1_gather 14 = .ok (.aload_n 2, 1) := by decide +kernel
theorem dX1_gather_15 : decode cX1_gather 15 = .ok (.iload_n 3, 1) := by decide +kernel
theorem dX1_gather_16 : decode cX1_gather 16 = .ok (.invokestatic 22, 3) := by decide +kernel
theorem dX1_gather_19 : decode cX1_gather 19 = .ok (.ifCond .eq 23, 3) := by decide +kernel
theorem dX1_gather_22 : decode cX1_gather 22 = .ok (.aload_n 0, 1) := by decide +kernel
theorem dX1_gather_23 : decode cX1_gather 23 = .ok (.getfield 11, 3) := by decide +kernel
theorem dX1_gather_26 : decode cX1_gather 26 = .ok (.aload_n 0, 1) := by decide +kernel
theorem dX1_gather_27 : decode cX1_gather 27 = .ok (.getfield 15, 3) := by decide +kernel
theorem dX1_gather_30 : decode cX1_gather 30 = .ok (.iload_n 3, 1) := by decide +kernel
theorem dX1_gather_31 : decode cX1_gather 31 = .ok (.iastore, 1) := by decide +kernel
theorem dX1_gather_32 : decode cX1_gather 32 = .ok (.aload_n 0, 1) := by decide +kernel
theorem dX1_gather_33 : decode cX1_gather 33 = .ok (.dup, 1) := by decide +kernel
theorem dX1_gather_34 : decode cX1_gather 34 = .ok (.getfield 15, 3) := by decide +kernel
theorem dX1_gather_37 : decode cX1_gather 37 = .ok (.iconst 1, 1) := by decide +kernel
theorem dX1_gather_38 : decode cX1_gather 38 = .ok (.iadd, 1) := by decide +kernel
theorem dX1_gather_39 : decode cX1_gather 39 = .ok (.putfield 15, 3) := by decide +kernel
theorem dX1_gather_42 : decode cX1_gather 42 = .ok (.iinc 3 1, 3) := by decide +kernel
theorem dX1_gather_45 : decode cX1_gather 45 = .ok (.goto (-38), 3) := by decide +kernel
theorem dX1_gather_48 : decode cX1_gather 48 = .ok (.return_, 1) := by decide +kernel
theorem dX1_isFit_0 : decode cX1_isFit 0 = .ok (.iconst 0, 1) := by decide +kernel
theorem dX1_isFit_1 : decode cX1_isFit 1 = .ok (.istore_n 3, 1) := by decide +kernel
theorem dX1_isFit_2 : decode cX1_isFit 2 = .ok (.iload_n 3, 1) := by decide +kernel
theorem dX1_isFit_3 : decode cX1_isFit 3 = .ok (.aload_n 1, 1) := by decide +kernel
theorem dX1_isFit_4 : decode cX1_isFit 4 = .ok (.getfield 26, 3) := by decide +kernel
theorem dX1_isFit_7 : decode cX1_isFit 7 = .ok (.if_icmp .ge 31, 3) := by decide +kernel
theorem dX1_isFit_10 : decode cX1_isFit 10 = .ok (.aload_n 0, 1) := by decide +kernel
theorem dX1_isFit_11 : decode cX1_isFit 11 = .ok (.iload_n 2, 1) := by decide +kernel
theorem dX1_isFit_12 : decode cX1_isFit 12 = .ok (.aload_n 1, 1) := by decide +kernel
theorem dX1_isFit_13 : decode cX1_isFit 13 = .ok (.iload_n 3, 1) := by decide +kernel
theorem dX1_isFit_14 : decode cX1_isFit 14 = .ok (.iconst 1, 1) := by decide +kernel
theorem dX1_isFit_15 : decode cX1_isFit 15 = .ok (.invokevirtual 29, 3) := by decide +kernel
theorem dX1_isFit_18 : decode cX1_isFit 18 = .ok (.invokevirtual 33, 3) := by decide +kernel
theorem dX1_isFit_21 : decode cX1_isFit 21 = .ok (.aload_n 1, 1) := by decide +kernel
theorem dX1_isFit_22 : decode cX1_isFit 22 = .ok (.iload_n 3, 1) := by decide +kernel
theorem dX1_isFit_23 : decode cX1_isFit 23 = .ok (.iconst 2, 1) := by decide +kernel
theorem dX1_isFit_24 : decode cX1_isFit 24 = .ok (.invokevirtual 29, 3) := by decide +kernel
theorem dX1_isFit_27 : decode cX1_isFit 27 = .ok (.if_icmp .eq 5, 3) := by decide +kernel
theorem dX1_isFit_30 : decode cX1_isFit 30 = .ok (.iconst 0, 1) := by decide +kernel
theorem dX1_isFit_31 : decode cX1_isFit 31 = .ok (.ireturn, 1) := by decide +kernel
theorem dX1_isFit_32 : decode cX1_isFit 32 = .ok (.iinc 3 1, 3) := by decide +kernel
theorem dX1_isFit_35 : decode cX1_isFit 35 = .ok (.goto (-33), 3) := by decide +kernel
theorem dX1_isFit_38 : decode cX1_isFit 38 = .ok (.iconst 1, 1) := by decide +kernel
theorem dX1_isFit_39 : decode cX1_isFit 39 = .ok (.ireturn, 1) := by decide +kernel
theorem dX1_hasFit_0 : decode cX1_hasFit 0 = .ok (.iload_n 1, 1) := by decide +kernel
theorem dX1_hasFit_1 : decode cX1_hasFit 1 = .ok (.ifCond .lt 15, 3) := by decide +kernel
theorem dX1_hasFit_4 : decode cX1_hasFit 4 = .ok (.iload_n 1, 1) := by decide +kernel
theorem dX1_hasFit_5 : decode cX1_hasFit 5 = .ok (.aload_n 0, 1) := by decide +kernel
theorem dX1_hasFit_6 : decode cX1_hasFit 6 = .ok (.getfield 15, 3) := by decide +kernel
theorem dX1_hasFit_9 : decode cX1_hasFit 9 = .ok (.if_icmp .ge 7, 3) := by decide +kernel
theorem dX1_hasFit_12 : decode cX1_hasFit 12 = .ok (.iconst 1, 1) := by decide +kernel
theorem dX1_hasFit_13 : decode cX1_hasFit 13 = .ok (.goto 4, 3) := by decide +kernel
theorem dX1_hasFit_16 : decode cX1_hasFit 16 = .ok (.iconst 0, 1) := by decide +kernel
theorem dX1_hasFit_17 : decode cX1_hasFit 17 = .ok (.ireturn, 1) := by decide +kernel
theorem dX1_sureKind_0 : decode cX1_sureKind 0 = .ok (.iconst 1, 1) := by decide +kernel
theorem dX1_sureKind_1 : decode cX1_sureKind 1 = .ok (.istore_n 1, 1) := by decide +kernel
theorem dX1_sureKind_2 : decode cX1_sureKind 2 = .ok (.iload_n 1, 1) := by decide +kernel
theorem dX1_sureKind_3 : decode cX1_sureKind 3 = .ok (.aload_n 0, 1) := by decide +kernel
theorem dX1_sureKind_4 : decode cX1_sureKind 4 = .ok (.getfield 15, 3) := by decide +kernel
theorem dX1_sureKind_7 : decode cX1_sureKind 7 = .ok (.if_icmp .ge 32, 3) := by decide +kernel
theorem dX1_sureKind_10 : decode cX1_sureKind 10 = .ok (.aload_n 0, 1) := by decide +kernel
theorem dX1_sureKind_11 : decode cX1_sureKind 11 = .ok (.getfield 11, 3) := by decide +kernel
theorem dX1_sureKind_14 : decode cX1_sureKind 14 = .ok (.iload_n 1, 1) := by decide +kernel
theorem dX1_sureKind_15 : decode cX1_sureKind 15 = .ok (.iaload, 1) := by decide +kernel
theorem dX1_sureKind_16 : decode cX1_sureKind 16 = .ok (.invokestatic 38, 3) := by decide +kernel
theorem dX1_sureKind_19 : decode cX1_sureKind 19 = .ok (.aload_n 0, 1) := by decide +kernel
theorem dX1_sureKind_20 : decode cX1_sureKind 20 = .ok (.getfield 11, 3) := by decide +kernel
theorem dX1_sureKind_23 : decode cX1_sureKind 23 = .ok (.iconst 0, 1) := by decide +kernel
theorem dX1_sureKind_24 : decode cX1_sureKind 24 = .ok (.iaload, 1) := by decide +kernel
theorem dX1_sureKind_25 : decode cX1_sureKind 25 = .ok (.invokestatic 38, 3) := by decide +kernel
theorem dX1_sureKind_28 : decode cX1_sureKind 28 = .ok (.if_icmp .eq 5, 3) := by decide +kernel
theorem dX1_sureKind_31 : decode cX1_sureKind 31 = .ok (.iconst (-1), 1) := by decide +kernel
theorem dX1_sureKind_32 : decode cX1_sureKind 32 = .ok (.ireturn, 1) := by decide +kernel
theorem dX1_sureKind_33 : decode cX1_sureKind 33 = .ok (.iinc 1 1, 3) := by decide +kernel
theorem dX1_sureKind_36 : decode cX1_sureKind 36 = .ok (.goto (-34), 3) := by decide +kernel
theorem dX1_sureKind_39 : decode cX1_sureKind 39 = .ok (.aload_n 0, 1) := by decide +kernel
theorem dX1_sureKind_40 : decode cX1_sureKind 40 = .ok (.getfield 15, 3) := by decide +kernel
theorem dX1_sureKind_43 : decode cX1_sureKind 43 = .ok (.ifCond .ne 7, 3) := by decide +kernel
theorem dX1_sureKind_46 : decode cX1_sureKind 46 = .ok (.iconst (-1), 1) := by decide +kernel
theorem dX1_sureKind_47 : decode cX1_sureKind 47 = .ok (.goto 12, 3) := by decide +kernel
theorem dX1_sureKind_50 : decode cX1_sureKind 50 = .ok (.aload_n 0, 1) := by decide +kernel
theorem dX1_sureKind_51 : decode cX1_sureKind 51 = .ok (.getfield 11, 3) := by decide +kernel
theorem dX1_sureKind_54 : decode cX1_sureKind 54 = .ok (.iconst 0, 1) := by decide +kernel
theorem dX1_sureKind_55 : decode cX1_sureKind 55 = .ok (.iaload, 1) := by decide +kernel
theorem dX1_sureKind_56 : decode cX1_sureKind 56 = .ok (.invokestatic 38, 3) := by decide +kernel
theorem dX1_sureKind_59 : decode cX1_sureKind 59 = .ok (.ireturn, 1) := by decide +kernel
theorem dX1_sureWeight_0 : decode cX1_sureWeight 0 = .ok (.iconst 1, 1) := by decide +kernel
theorem dX1_sureWeight_1 : decode cX1_sureWeight 1 = .ok (.istore_n 1, 1) := by decide +kernel
theorem dX1_sureWeight_2 : decode cX1_sureWeight 2 = .ok (.iload_n 1, 1) := by decide +kernel
theorem dX1_sureWeight_3 : decode cX1_sureWeight 3 = .ok (.aload_n 0, 1) := by decide +kernel
theorem dX1_sureWeight_4 : decode cX1_sureWeight 4 = .ok (.getfield 15, 3) := by decide +kernel
theorem dX1_sureWeight_7 : decode cX1_sureWeight 7 = .ok (.if_icmp .ge 32, 3) := by decide +kernel
theorem dX1_sureWeight_10 : decode cX1_sureWeight 10 = .ok (.aload_n 0, 1) := by decide +kernel
theorem dX1_sureWeight_11 : decode cX1_sureWeight 11 = .ok (.getfield 11, 3) := by decide +kernel
theorem dX1_sureWeight_14 : decode cX1_sureWeight 14 = .ok (.iload_n 1, 1) := by decide +kernel
theorem dX1_sureWeight_15 : decode cX1_sureWeight 15 = .ok (.iaload, 1) := by decide +kernel
theorem dX1_sureWeight_16 : decode cX1_sureWeight 16 = .ok (.invokestatic 42, 3) := by decide +kernel
theorem dX1_sureWeight_19 : decode cX1_sureWeight 19 = .ok (.aload_n 0, 1) := by decide +kernel
theorem dX1_sureWeight_20 : decode cX1_sureWeight 20 = .ok (.getfield 11, 3) := by decide +kernel
theorem dX1_sureWeight_23 : decode cX1_sureWeight 23 = .ok (.iconst 0, 1) := by decide +kernel
theorem dX1_sureWeight_24 : decode cX1_sureWeight 24 = .ok (.iaload, 1) := by decide +kernel
theorem dX1_sureWeight_25 : decode cX1_sureWeight 25 = .ok (.invokestatic 42, 3) := by decide +kernel
theorem dX1_sureWeight_28 : decode cX1_sureWeight 28 = .ok (.if_icmp .eq 5, 3) := by decide +kernel
theorem dX1_sureWeight_31 : decode cX1_sureWeight 31 = .ok (.iconst (-1), 1) := by decide +kernel
theorem dX1_sureWeight_32 : decode cX1_sureWeight 32 = .ok (.ireturn, 1) := by decide +kernel
theorem dX1_sureWeight_33 : decode cX1_sureWeight 33 = .ok (.iinc 1 1, 3) := by decide +kernel
theorem dX1_sureWeight_36 : decode cX1_sureWeight 36 = .ok (.goto (-34), 3) := by decide +kernel
theorem dX1_sureWeight_39 : decode cX1_sureWeight 39 = .ok (.aload_n 0, 1) := by decide +kernel
theorem dX1_sureWeight_40 : decode cX1_sureWeight 40 = .ok (.getfield 15, 3) := by decide +kernel
theorem dX1_sureWeight_43 : decode cX1_sureWeight 43 = .ok (.ifCond .ne 7, 3) := by decide +kernel
theorem dX1_sureWeight_46 : decode cX1_sureWeight 46 = .ok (.iconst (-1), 1) := by decide +kernel
theorem dX1_sureWeight_47 : decode cX1_sureWeight 47 = .ok (.goto 12, 3) := by decide +kernel
theorem dX1_sureWeight_50 : decode cX1_sureWeight 50 = .ok (.aload_n 0, 1) := by decide +kernel
theorem dX1_sureWeight_51 : decode cX1_sureWeight 51 = .ok (.getfield 11, 3) := by decide +kernel
theorem dX1_sureWeight_54 : decode cX1_sureWeight 54 = .ok (.iconst 0, 1) := by decide +kernel
theorem dX1_sureWeight_55 : decode cX1_sureWeight 55 = .ok (.iaload, 1) := by decide +kernel
theorem dX1_sureWeight_56 : decode cX1_sureWeight 56 = .ok (.invokestatic 42, 3) := by decide +kernel
theorem dX1_sureWeight_59 : decode cX1_sureWeight 59 = .ok (.ireturn, 1) := by decide +kernel
theorem dX1_fittingSecrets_0 : decode cX1_fittingSecrets 0 = .ok (.iconst 0, 1) := by decide +kernel
theorem dX1_fittingSecrets_1 : decode cX1_fittingSecrets 1 = .ok (.istore_n 2, 1) := by decide +kernel
theorem dX1_fittingSecrets_2 : decode cX1_fittingSecrets 2 = .ok (.iconst 0, 1) := by decide +kernel
theorem dX1_fittingSecrets_3 : decode cX1_fittingSecrets 3 = .ok (.istore_n 3, 1) := by decide +kernel
theorem dX1_fittingSecrets_4 : decode cX1_fittingSecrets 4 = .ok (.iload_n 3, 1) := by decide +kernel
theorem dX1_fittingSecrets_5 : decode cX1_fittingSecrets 5 = .ok (.aload_n 1, 1) := by decide +kernel
theorem dX1_fittingSecrets_6 : decode cX1_fittingSecrets 6 = .ok (.getfield 45, 3) := by decide +kernel
theorem dX1_fittingSecrets_9 : decode cX1_fittingSecrets 9 = .ok (.if_icmp .ge 69, 3) := by decide +kernel
theorem dX1_fittingSecrets_12 : decode cX1_fittingSecrets 12 = .ok (.bipush 30, 2) := by decide +kernel
theorem dX1_fittingSecrets_14 : decode cX1_fittingSecrets 14 = .ok (.aload_n 1, 1) := by decide +kernel
theorem dX1_fittingSecrets_15 : decode cX1_fittingSecrets 15 = .ok (.getfield 48, 3) := by decide +kernel
theorem dX1_fittingSecrets_18 : decode cX1_fittingSecrets 18 = .ok (.iload_n 3, 1) := by decide +kernel
theorem dX1_fittingSecrets_19 : decode cX1_fittingSecrets 19 = .ok (.iaload, 1) := by decide +kernel
theorem dX1_fittingSecrets_20 : decode cX1_fittingSecrets 20 = .ok (.imul, 1) := by decide +kernel
theorem dX1_fittingSecrets_21 : decode cX1_fittingSecrets 21 = .ok (.aload_n 1, 1) := by decide +kernel
theorem dX1_fittingSecrets_22 : decode cX1_fittingSecrets 22 = .ok (.getfield 51, 3) := by decide +kernel
theorem dX1_fittingSecrets_25 : decode cX1_fittingSecrets 25 = .ok (.iload_n 3, 1) := by decide +kernel
theorem dX1_fittingSecrets_26 : decode cX1_fittingSecrets 26 = .ok (.iaload, 1) := by decide +kernel
theorem dX1_fittingSecrets_27 : decode cX1_fittingSecrets 27 = .ok (.iadd, 1) := by decide +kernel
theorem dX1_fittingSecrets_28 : decode cX1_fittingSecrets 28 = .ok (.iconst 1, 1) := by decide +kernel
theorem dX1_fittingSecrets_29 : decode cX1_fittingSecrets 29 = .ok (.isub, 1) := by decide +kernel
theorem dX1_fittingSecrets_30 : decode cX1_fittingSecrets 30 = .ok (.istore 4, 2) := by decide +kernel
theorem dX1_fittingSecrets_32 : decode cX1_fittingSecrets 32 = .ok (.iconst 0, 1) := by decide +kernel
theorem dX1_fittingSecrets_33 : decode cX1_fittingSecrets 33 = .ok (.istore 5, 2) := by decide +kernel
theorem dX1_fittingSecrets_35 : decode cX1_fittingSecrets 35 = .ok (.iload 5, 2) := by decide +kernel
theorem dX1_fittingSecrets_37 : decode cX1_fittingSecrets 37 = .ok (.aload_n 0, 1) := by decide +kernel
theorem dX1_fittingSecrets_38 : decode cX1_fittingSecrets 38 = .ok (.getfield 15, 3) := by decide +kernel
theorem dX1_fittingSecrets_41 : decode cX1_fittingSecrets 41 = .ok (.if_icmp .ge 31, 3) := by decide +kernel
theorem dX1_fittingSecrets_44 : decode cX1_fittingSecrets 44 = .ok (.iload_n 2, 1) := by decide +kernel
theorem dX1_fittingSecrets_45 : decode cX1_fittingSecrets 45 = .ok (.aload_n 0, 1) := by decide +kernel
theorem dX1_fittingSecrets_46 : decode cX1_fittingSecrets 46 = .ok (.getfield 11, 3) := by decide +kernel
theorem dX1_fittingSecrets_49 : decode cX1_fittingSecrets 49 = .ok (.iload 5, 2) := by decide +kernel
theorem dX1_fittingSecrets_51 : decode cX1_fittingSecrets 51 = .ok (.iaload, 1) := by decide +kernel
theorem dX1_fittingSecrets_52 : decode cX1_fittingSecrets 52 = .ok (.iload 4, 2) := by decide +kernel
theorem dX1_fittingSecrets_54 : decode cX1_fittingSecrets 54 = .ok (.if_icmp .ne 9, 3) := by decide +kernel
theorem dX1_fittingSecrets_57 : decode cX1_fittingSecrets 57 = .ok (.iconst 1, 1) := by decide +kernel
theorem dX1_fittingSecrets_58 : decode cX1_fittingSecrets 58 = .ok (.iload_n 3, 1) := by decide +kernel
theorem dX1_fittingSecrets_59 : decode cX1_fittingSecrets 59 = .ok (.ishl, 1) := by decide +kernel
theorem dX1_fittingSecrets_60 : decode cX1_fittingSecrets 60 = .ok (.goto 4, 3) := by decide +kernel
theorem dX1_fittingSecrets_63 : decode cX1_fittingSecrets 63 = .ok (.iconst 0, 1) := by decide +kernel
theorem dX1_fittingSecrets_64 : decode cX1_fittingSecrets 64 = .ok (.ior, 1) := by decide +kernel
theorem dX1_fittingSecrets_65 : decode cX1_fittingSecrets 65 = .ok (.istore_n 2, 1) := by decide +kernel
theorem dX1_fittingSecrets_66 : decode cX1_fittingSecrets 66 = .ok (.iinc 5 1, 3) := by decide +kernel
theorem dX1_fittingSecrets_69 : decode cX1_fittingSecrets 69 = .ok (.goto (-34), 3) := by decide +kernel
theorem dX1_fittingSecrets_72 : decode cX1_fittingSecrets 72 = .ok (.iinc 3 1, 3) := by decide +kernel
theorem dX1_fittingSecrets_75 : decode cX1_fittingSecrets 75 = .ok (.goto (-71), 3) := by decide +kernel
theorem dX1_fittingSecrets_78 : decode cX1_fittingSecrets 78 = .ok (.iload_n 2, 1) := by decide +kernel
theorem dX1_fittingSecrets_79 : decode cX1_fittingSecrets 79 = .ok (.ireturn, 1) := by decide +kernel
theorem dX1_bestAsked_0 : decode cX1_bestAsked 0 = .ok (.iconst (-1), 1) := by decide +kernel
theorem dX1_bestAsked_1 : decode cX1_bestAsked 1 = .ok (.istore_n 2, 1) := by decide +kernel
theorem dX1_bestAsked_2 : decode cX1_bestAsked 2 = .ok (.bipush 121, 2) := by decide +kernel
theorem dX1_bestAsked_4 : decode cX1_bestAsked 4 = .ok (.istore_n 3, 1) := by decide +kernel
theorem dX1_bestAsked_5 : decode cX1_bestAsked 5 = .ok (.iconst 0, 1) := by decide +kernel
theorem dX1_bestAsked_6 : decode cX1_bestAsked 6 = .ok (.istore 4, 2) := by decide +kernel
theorem dX1_bestAsked_8 : decode cX1_bestAsked 8 = .ok (.aload_n 0, 1) := by decide +kernel
theorem dX1_bestAsked_9 : decode cX1_bestAsked 9 = .ok (.getfield 15, 3) := by decide +kernel
theorem dX1_bestAsked_12 : decode cX1_bestAsked 12 = .ok (.ifCond .le 39, 3) := by decide +kernel
theorem dX1_bestAsked_15 : decode cX1_bestAsked 15 = .ok (.iload 4, 2) := by decide +kernel
theorem dX1_bestAsked_17 : decode cX1_bestAsked 17 = .ok (.aload_n 1, 1) := by decide +kernel
theorem dX1_bestAsked_18 : decode cX1_bestAsked 18 = .ok (.getfield 54, 3) := by decide +kernel
theorem dX1_bestAsked_21 : decode cX1_bestAsked 21 = .ok (.if_icmp .ge 30, 3) := by decide +kernel
theorem dX1_bestAsked_24 : decode cX1_bestAsked 24 = .ok (.aload_n 0, 1) := by decide +kernel
theorem dX1_bestAsked_25 : decode cX1_bestAsked 25 = .ok (.aload_n 1, 1) := by decide +kernel
theorem dX1_bestAsked_26 : decode cX1_bestAsked 26 = .ok (.iload 4, 2) := by decide +kernel
theorem dX1_bestAsked_28 : decode cX1_bestAsked 28 = .ok (.invokevirtual 57, 3) := by decide +kernel
theorem dX1_bestAsked_31 : decode cX1_bestAsked 31 = .ok (.istore 5, 2) := by decide +kernel
theorem dX1_bestAsked_33 : decode cX1_bestAsked 33 = .ok (.iload 5, 2) := by decide +kernel
theorem dX1_bestAsked_35 : decode cX1_bestAsked 35 = .ok (.iload_n 3, 1) := by decide +kernel
theorem dX1_bestAsked_36 : decode cX1_bestAsked 36 = .ok (.if_icmp .ge 9, 3) := by decide +kernel
theorem dX1_bestAsked_39 : decode cX1_bestAsked 39 = .ok (.iload 5, 2) := by decide +kernel
theorem dX1_bestAsked_41 : decode cX1_bestAsked 41 = .ok (.istore_n 3, 1) := by decide +kernel
theorem dX1_bestAsked_42 : decode cX1_bestAsked 42 = .ok (.iload 4, 2) := by decide +kernel
theorem dX1_bestAsked_44 : decode cX1_bestAsked 44 = .ok (.istore_n 2, 1) := by decide +kernel
theorem dX1_bestAsked_45 : decode cX1_bestAsked 45 = .ok (.iinc 4 1, 3) := by decide +kernel
theorem dX1_bestAsked_48 : decode cX1_bestAsked 48 = .ok (.goto (-40), 3) := by decide +kernel
theorem dX1_bestAsked_51 : decode cX1_bestAsked 51 = .ok (.iload_n 2, 1) := by decide +kernel
theorem dX1_bestAsked_52 : decode cX1_bestAsked 52 = .ok (.ireturn, 1) := by decide +kernel
theorem dX1_mostAlike_0 : decode cX1_mostAlike 0 = .ok (.aload_n 0, 1) := by decide +kernel
theorem dX1_mostAlike_1 : decode cX1_mostAlike 1 = .ok (.getfield 19, 3) := by decide +kernel
theorem dX1_mostAlike_4 : decode cX1_mostAlike 4 = .ok (.iconst 0, 1) := by decide +kernel
theorem dX1_mostAlike_5 : decode cX1_mostAlike 5 = .ok (.invokestatic 61, 3) := by decide +kernel
theorem dX1_mostAlike_8 : decode cX1_mostAlike 8 = .ok (.iconst 0, 1) := by decide +kernel
theorem dX1_mostAlike_9 : decode cX1_mostAlike 9 = .ok (.istore_n 3, 1) := by decide +kernel
theorem dX1_mostAlike_10 : decode cX1_mostAlike 10 = .ok (.iconst 0, 1) := by decide +kernel
theorem dX1_mostAlike_11 : decode cX1_mostAlike 11 = .ok (.istore 4, 2) := by decide +kernel
theorem dX1_mostAlike_13 : decode cX1_mostAlike 13 = .ok (.iload 4, 2) := by decide +kernel
theorem dX1_mostAlike_15 : decode cX1_mostAlike 15 = .ok (.aload_n 0, 1) := by decide +kernel
theorem dX1_mostAlike_16 : decode cX1_mostAlike 16 = .ok (.getfield 15, 3) := by decide +kernel
theorem dX1_mostAlike_19 : decode cX1_mostAlike 19 = .ok (.if_icmp .ge 58, 3) := by decide +kernel
theorem dX1_mostAlike_22 : decode cX1_mostAlike 22 = .ok (.aload_n 1, 1) := by decide +kernel
theorem dX1_mostAlike_23 : decode cX1_mostAlike 23 = .ok (.aload_n 0, 1) := by decide +kernel
theorem dX1_mostAlike_24 : decode cX1_mostAlike 24 = .ok (.getfield 11, 3) := by decide +kernel
theorem dX1_mostAlike_27 : decode cX1_mostAlike 27 = .ok (.iload 4, 2) := by decide +kernel
theorem dX1_mostAlike_29 : decode cX1_mostAlike 29 = .ok (.iaload, 1) := by decide +kernel
theorem dX1_mostAlike_30 : decode cX1_mostAlike 30 = .ok (.iload_n 2, 1) := by decide +kernel
theorem dX1_mostAlike_31 : decode cX1_mostAlike 31 = .ok (.invokevirtual 33, 3) := by decide +kernel
theorem dX1_mostAlike_34 : decode cX1_mostAlike 34 = .ok (.istore 5, 2) := by decide +kernel
theorem dX1_mostAlike_36 : decode cX1_mostAlike 36 = .ok (.iload 5, 2) := by decide +kernel
theorem dX1_mostAlike_38 : decode cX1_mostAlike 38 = .ok (.ifCond .lt 33, 3) := by decide +kernel
theorem dX1_mostAlike_41 : decode cX1_mostAlike 41 = .ok (.iload 5, 2) := by decide +kernel
theorem dX1_mostAlike_43 : decode cX1_mostAlike 43 = .ok (.bipush 60, 2) := by decide +kernel
theorem dX1_mostAlike_45 : decode cX1_mostAlike 45 = .ok (.if_icmp .gt 26, 3) := by decide +kernel
theorem dX1_mostAlike_48 : decode cX1_mostAlike 48 = .ok (.aload_n 0, 1) := by decide +kernel
theorem dX1_mostAlike_49 : decode cX1_mostAlike 49 = .ok (.getfield 19, 3) := by decide +kernel
theorem dX1_mostAlike_52 : decode cX1_mostAlike 52 = .ok (.iload 5, 2) := by decide +kernel
theorem dX1_mostAlike_54 : decode cX1_mostAlike 54 = .ok (.dup2, 1) := by decide +kernel
theorem dX1_mostAlike_55 : decode cX1_mostAlike 55 = .ok (.iaload, 1) := by decide +kernel
theorem dX1_mostAlike_56 : decode cX1_mostAlike 56 = .ok (.iconst 1, 1) := by decide +kernel
theorem dX1_mostAlike_57 : decode cX1_mostAlike 57 = .ok (.iadd, 1) := by decide +kernel
theorem dX1_mostAlike_58 : decode cX1_mostAlike 58 = .ok (.iastore, 1) := by decide +kernel
theorem dX1_mostAlike_59 : decode cX1_mostAlike 59 = .ok (.iload_n 3, 1) := by decide +kernel
theorem dX1_mostAlike_60 : decode cX1_mostAlike 60 = .ok (.aload_n 0, 1) := by decide +kernel
theorem dX1_mostAlike_61 : decode cX1_mostAlike 61 = .ok (.getfield 19, 3) := by decide +kernel
theorem dX1_mostAlike_64 : decode cX1_mostAlike 64 = .ok (.iload 5, 2) := by decide +kernel
theorem dX1_mostAlike_66 : decode cX1_mostAlike 66 = .ok (.iaload, 1) := by decide +kernel
theorem dX1_mostAlike_67 : decode cX1_mostAlike 67 = .ok (.invokestatic 67, 3) := by decide +kernel
theorem dX1_mostAlike_70 : decode cX1_mostAlike 70 = .ok (.istore_n 3, 1) := by decide +kernel
theorem dX1_mostAlike_71 : decode cX1_mostAlike 71 = .ok (.iinc 4 1, 3) := by decide +kernel
theorem dX1_mostAlike_74 : decode cX1_mostAlike 74 = .ok (.goto (-61), 3) := by decide +kernel
theorem dX1_mostAlike_77 : decode cX1_mostAlike 77 = .ok (.iload_n 3, 1) := by decide +kernel
theorem dX1_mostAlike_78 : decode cX1_mostAlike 78 = .ok (.ireturn, 1) := by decide +kernel
theorem dX2_init_0 : decode cX2_init 0 = .ok (.aload_n 0, 1) := by decide +kernel
theorem dX2_init_1 : decode cX2_init 1 = .ok (.invokespecial 3, 3) := by decide +kernel
theorem dX2_init_4 : decode cX2_init 4 = .ok (.aload_n 0, 1) := by decide +kernel
theorem dX2_init_5 : decode cX2_init 5 = .ok (.iconst 0, 1) := by decide +kernel
theorem dX2_init_6 : decode cX2_init 6 = .ok (.putfield 9, 3) := by decide +kernel
theorem dX2_init_9 : decode cX2_init 9 = .ok (.aload_n 0, 1) := by decide +kernel
theorem dX2_init_10 : decode cX2_init 10 = .ok (.iconst 0, 1) := by decide +kernel
theorem dX2_init_11 : decode cX2_init 11 = .ok (.putfield 15, 3) := by decide +kernel
theorem dX2_init_14 : decode cX2_init 14 = .ok (.aload_n 0, 1) := by decide +kernel
theorem dX2_init_15 : decode cX2_init 15 = .ok (.iconst 0, 1) := by decide +kernel
theorem dX2_init_16 : decode cX2_init 16 = .ok (.putfield 18, 3) := by decide +kernel
theorem dX2_init_19 : decode cX2_init 19 = .ok (.aload_n 0, 1) := by decide +kernel
theorem dX2_init_20 : decode cX2_init 20 = .ok (.bipush 8, 2) := by decide +kernel
theorem dX2_init_22 : decode cX2_init 22 = .ok (.newarray .int, 2) := by decide +kernel
theorem dX2_init_24 : decode cX2_init 24 = .ok (.putfield 21, 3) := by decide +kernel
theorem dX2_init_27 : decode cX2_init 27 = .ok (.aload_n 0, 1) := by decide +kernel
theorem dX2_init_28 : decode cX2_init 28 = .ok (.bipush 8, 2) := by decide +kernel
theorem dX2_init_30 : decode cX2_init 30 = .ok (.newarray .int, 2) := by decide +kernel
theorem dX2_init_32 : decode cX2_init 32 = .ok (.putfield 25, 3) := by decide +kernel
theorem dX2_init_35 : decode cX2_init 35 = .ok (.aload_n 0, 1) := by decide +kernel
theorem dX2_init_36 : decode cX2_init 36 = .ok (.bipush 8, 2) := by decide +kernel
theorem dX2_init_38 : decode cX2_init 38 = .ok (.newarray .int, 2) := by decide +kernel
theorem dX2_init_40 : decode cX2_init 40 = .ok (.putfield 28, 3) := by decide +kernel
theorem dX2_init_43 : decode cX2_init 43 = .ok (.aload_n 0, 1) := by decide +kernel
theorem dX2_init_44 : decode cX2_init 44 = .ok (.bipush 10, 2) := by decide +kernel
theorem dX2_init_46 : decode cX2_init 46 = .ok (.newarray .int, 2) := by decide +kernel
theorem dX2_init_48 : decode cX2_init 48 = .ok (.putfield 31, 3) := by decide +kernel
theorem dX2_init_51 : decode cX2_init 51 = .ok (.aload_n 0, 1) := by decide +kernel
theorem dX2_init_52 : decode cX2_init 52 = .ok (.bipush 10, 2) := by decide +kernel
theorem dX2_init_54 : decode cX2_init 54 = .ok (.newarray .int, 2) := by decide +kernel
theorem dX2_init_56 : decode cX2_init 56 = .ok (.putfield 34, 3) := by decide +kernel
theorem dX2_init_59 : decode cX2_init 59 = .ok (.aload_n 0, 1) := by decide +kernel
theorem dX2_init_60 : decode cX2_init 60 = .ok (.bipush 8, 2) := by decide +kernel
theorem dX2_init_62 : decode cX2_init 62 = .ok (.newarray .int, 2) := by decide +kernel
theorem dX2_init_64 : decode cX2_init 64 = .ok (.putfield 37, 3) := by decide +kernel
theorem dX2_init_67 : decode cX2_init 67 = .ok (.aload_n 0, 1) := by decide +kernel
theorem dX2_init_68 : decode cX2_init 68 = .ok (.bipush 8, 2) := by decide +kernel
theorem dX2_init_70 : decode cX2_init 70 = .ok (.newarray .int, 2) := by decide +kernel
theorem dX2_init_72 : decode cX2_init 72 = .ok (.putfield 40, 3) := by decide +kernel
theorem dX2_init_75 : decode cX2_init 75 = .ok (.aload_n 0, 1) := by decide +kernel
theorem dX2_init_76 : decode cX2_init 76 = .ok (.bipush 8, 2) := by decide +kernel
theorem dX2_init_78 : decode cX2_init 78 = .ok (.newarray .int, 2) := by decide +kernel
theorem dX2_init_80 : decode cX2_init 80 = .ok (.putfield 43, 3) := by decide +kernel
theorem dX2_init_83 : decode cX2_init 83 = .ok (.return_, 1) := by decide +kernel
theorem dX2_empty_0 : decode cX2_empty 0 = .ok (.aload_n 0, 1) := by decide +kernel
theorem dX2_empty_1 : decode cX2_empty 1 = .ok (.iconst 0, 1) := by decide +kernel
theorem dX2_empty_2 : decode cX2_empty 2 = .ok (.putfield 9, 3) := by decide +kernel
theorem dX2_empty_5 : decode cX2_empty 5 = .ok (.aload_n 0, 1) := by decide +kernel
theorem dX2_empty_6 : decode cX2_empty 6 = .ok (.iconst 0, 1) := by decide +kernel
theorem dX2_empty_7 : decode cX2_empty 7 = .ok (.putfield 15, 3) := by decide +kernel
theorem dX2_empty_10 : decode cX2_empty 10 = .ok (.aload_n 0, 1) := by decide +kernel
theorem dX2_empty_11 : decode cX2_empty 11 = .ok (.iconst 0, 1) := by decide +kernel
theorem dX2_empty_12 : decode cX2_empty 12 = .ok (.putfield 18, 3) := by decide +kernel
theorem dX2_empty_15 : decode cX2_empty 15 = .ok (.aload_n 0, 1) := by decide +kernel
theorem dX2_empty_16 : decode cX2_empty 16 = .ok (.getfield 28, 3) := by decide +kernel
theorem dX2_empty_19 : decode cX2_empty 19 = .ok (.iconst 0, 1) := by decide +kernel
theorem dX2_empty_20 : decode cX2_empty 20 = .ok (.invokestatic 46, 3) := by decide +kernel
theorem dX2_empty_23 : decode cX2_empty 23 = .ok (.return_, 1) := by decide +kernel
theorem dX2_addPiece_0 : decode cX2_addPiece 0 = .ok (.aload_n 0, 1) := by decide +kernel
theorem dX2_addPiece_1 : decode cX2_addPiece 1 = .ok (.getfield 9, 3) := by decide +kernel
theorem dX2_addPiece_4 : decode cX2_addPiece 4 = .ok (.bipush 8, 2) := by decide +kernel
theorem dX2_addPiece_6 : decode cX2_addPiece 6 = .ok (.if_icmp .ge 33, 3) := by decide +kernel
theorem dX2_addPiece_9 : decode cX2_addPiece 9 = .ok (.aload_n 0, 1) := by decide +kernel
theorem dX2_addPiece_10 : decode cX2_addPiece 10 = .ok (.getfield 21, 3) := by decide +kernel
theorem dX2_addPiece_13 : decode cX2_addPiece 13 = .ok (.aload_n 0, 1) := by decide +kernel
theorem dX2_addPiece_14 : decode cX2_addPiece 14 = .ok (.getfield 9, 3) := by decide +kernel
theorem dX2_addPiece_17 : decode cX2_addPiece 17 = .ok (.iload_n 1, 1) := by decide +kernel
theorem dX2_addPiece_18 : decode cX2_addPiece 18 = .ok (.iastore, 1) := by decide +kernel
theorem dX2_addPiece_19 : decode cX2_addPiece 19 = .ok (.aload_n 0, 1) := by decide +kernel
theorem dX2_addPiece_20 : decode cX2_addPiece 20 = .ok (.getfield 25, 3) := by decide +kernel
theorem dX2_addPiece_23 : decode cX2_addPiece 23 = .ok (.aload_n 0, 1) := by decide +kernel
theorem dX2_addPiece_24 : decode cX2_addPiece 24 = .ok (.getfield 9, 3) := by decide +kernel
theorem dX2_addPiece_27 : decode cX2_addPiece 27 = .ok (.iload_n 2, 1) := by decide +kernel
theorem dX2_addPiece_28 : decode cX2_addPiece 28 = .ok (.iastore, 1) := by decide +kernel
theorem dX2_addPiece_29 : decode cX2_addPiece 29 = .ok (.aload_n 0, 1) := by decide +kernel
theorem dX2_addPiece_30 : decode cX2_addPiece 30 = .ok (.dup, 1) := by decide +kernel
theorem dX2_addPiece_31 : decode cX2_addPiece 31 = .ok (.getfield 9, 3) := by decide +kernel
theorem dX2_addPiece_34 : decode cX2_addPiece 34 = .ok (.iconst 1, 1) := by decide +kernel
theorem dX2_addPiece_35 : decode cX2_addPiece 35 = .ok (.iadd, 1) := by decide +kernel
theorem dX2_addPiece_36 : decode cX2_addPiece 36 = .ok (.putfield 9, 3) := by decide +kernel
theorem dX2_addPiece_39 : decode cX2_addPiece 39 = .ok (.return_, 1) := by decide +kernel
theorem dX2_addSecret_0 : decode cX2_addSecret 0 = .ok (.aload_n 0, 1) := by decide +kernel
theorem dX2_addSecret_1 : decode cX2_addSecret 1 = .ok (.getfield 15, 3) := by decide +kernel
theorem dX2_addSecret_4 : decode cX2_addSecret 4 = .ok (.bipush 10, 2) := by decide +kernel
theorem dX2_addSecret_6 : decode cX2_addSecret 6 = .ok (.if_icmp .ge 33, 3) := by decide +kernel
theorem dX2_addSecret_9 : decode cX2_addSecret 9 = .ok (.aload_n 0, 1) := by decide +kernel
theorem dX2_addSecret_10 : decode cX2_addSecret 10 = .ok (.getfield 31, 3) := by decide +kernel
theorem dX2_addSecret_13 : decode cX2_addSecret 13 = .ok (.aload_n 0, 1) := by decide +kernel
theorem dX2_addSecret_14 : decode cX2_addSecret 14 = .ok (.getfield 15, 3) := by decide +kernel
theorem dX2_addSecret_17 : decode cX2_addSecret 17 = .ok (.iload_n 1, 1) := by decide +kernel
theorem dX2_addSecret_18 : decode cX2_addSecret 18 = .ok (.iastore, 1) := by decide +kernel
theorem dX2_addSecret_19 : decode cX2_addSecret 19 = .ok (.aload_n 0, 1) := by decide +kernel
theorem dX2_addSecret_20 : decode cX2_addSecret 20 = .ok (.getfield 34, 3) := by decide +kernel
theorem dX2_addSecret_23 : decode cX2_addSecret 23 = .ok (.aload_n 0, 1) := by decide +kernel
theorem dX2_addSecret_24 : decode cX2_addSecret 24 = .ok (.getfield 15, 3) := by decide +kernel
theorem dX2_addSecret_27 : decode cX2_addSecret 27 = .ok (.iload_n 2, 1) := by decide +kernel
theorem dX2_addSecret_28 : decode cX2_addSecret 28 = .ok (.iastore, 1) := by decide +kernel
theorem dX2_addSecret_29 : decode cX2_addSecret 29 = .ok (.aload_n 0, 1) := by decide +kernel
theorem dX2_addSecret_30 : decode cX2_addSecret 30 = .ok (.dup, 1) := by decide +kernel
theorem dX2_addSecret_31 : decode cX2_addSecret 31 = .ok (.getfield 15, 3) := by decide +kernel
theorem dX2_addSecret_34 : decode cX2_addSecret 34 = .ok (.iconst 1, 1) := by decide +kernel
theorem dX2_addSecret_35 : decode cX2_addSecret 35 = .ok (.iadd, 1) := by decide +kernel
theorem dX2_addSecret_36 : decode cX2_addSecret 36 = .ok (.putfield 15, 3) := by decide +kernel
theorem dX2_addSecret_39 : decode cX2_addSecret 39 = .ok (.return_, 1) := by decide +kernel
theorem dX2_addKnown_0 : decode cX2_addKnown 0 = .ok (.iload_n 1, 1) := by decide +kernel
theorem dX2_addKnown_1 : decode cX2_addKnown 1 = .ok (.ifCond .lt 21, 3) := by decide +kernel
theorem dX2_addKnown_4 : decode cX2_addKnown 4 = .ok (.iload_n 1, 1) := by decide +kernel
theorem dX2_addKnown_5 : decode cX2_addKnown 5 = .ok (.bipush 8, 2) := by decide +kernel
theorem dX2_addKnown_7 : decode cX2_addKnown 7 = .ok (.if_icmp .ge 15, 3) := by decide +kernel
theorem dX2_addKnown_10 : decode cX2_addKnown 10 = .ok (.aload_n 0, 1) := by decide +kernel
theorem dX2_addKnown_11 : decode cX2_addKnown 11 = .ok (.getfield 28, 3) := by decide +kernel
theorem dX2_addKnown_14 : decode cX2_addKnown 14 = .ok (.iload_n 1, 1) := by decide +kernel
theorem dX2_addKnown_15 : decode cX2_addKnown 15 = .ok (.dup2, 1) := by decide +kernel
theorem dX2_addKnown_16 : decode cX2_addKnown 16 = .ok (.iaload, 1) := by decide +kernel
theorem dX2_addKnown_17 : decode cX2_addKnown 17 = .ok (.iconst 1, 1) := by decide +kernel
theorem dX2_addKnown_18 : decode cX2_addKnown 18 = .ok (.iload_n 2, 1) := by decide +kernel
theorem dX2_addKnown_19 : decode cX2_addKnown 19 = .ok (.ishl, 1) := by decide +kernel
theorem dX2_addKnown_20 : decode cX2_addKnown 20 = .ok (.ior, 1) := by decide +kernel
theorem dX2_addKnown_21 : decode cX2_addKnown 21 = .ok (.iastore, 1) := by decide +kernel
theorem dX2_addKnown_22 : decode cX2_addKnown 22 = .ok (.return_, 1) := by decide +kernel
theorem dX2_addLink_0 : decode cX2_addLink 0 = .ok (.aload_n 0, 1) := by decide +kernel
theorem dX2_addLink_1 : decode cX2_addLink 1 = .ok (.getfield 18, 3) := by decide +kernel
theorem dX2_addLink_4 : decode cX2_addLink 4 = .ok (.bipush 8, 2) := by decide +kernel
theorem dX2_addLink_6 : decode cX2_addLink 6 = .ok (.if_icmp .ge 43, 3) := by decide +kernel
theorem dX2_addLink_9 : decode cX2_addLink 9 = .ok (.aload_n 0, 1) := by decide +kernel
theorem dX2_addLink_10 : decode cX2_addLink 10 = .ok (.getfield 37, 3) := by decide +kernel
theorem dX2_addLink_13 : decode cX2_addLink 13 = .ok (.aload_n 0, 1) := by decide +kernel
theorem dX2_addLink_14 : decode cX2_addLink 14 = .ok (.getfield 18, 3) := by decide +kernel
theorem dX2_addLink_17 : decode cX2_addLink 17 = .ok (.iload_n 1, 1) := by decide +kernel
theorem dX2_addLink_18 : decode cX2_addLink 18 = .ok (.iastore, 1) := by decide +kernel
theorem dX2_addLink_19 : decode cX2_addLink 19 = .ok (.aload_n 0, 1) := by decide +kernel
theorem dX2_addLink_20 : decode cX2_addLink 20 = .ok (.getfield 40, 3) := by decide +kernel
theorem dX2_addLink_23 : decode cX2_addLink 23 = .ok (.aload_n 0, 1) := by decide +kernel
theorem dX2_addLink_24 : decode cX2_addLink 24 = .ok (.getfield 18, 3) := by decide +kernel
theorem dX2_addLink_27 : decode cX2_addLink 27 = .ok (.iload_n 2, 1) := by decide +kernel
theorem dX2_addLink_28 : decode cX2_addLink 28 = .ok (.iastore, 1) := by decide +kernel
theorem dX2_addLink_29 : decode cX2_addLink 29 = .ok (.aload_n 0, 1) := by decide +kernel
theorem dX2_addLink_30 : decode cX2_addLink 30 = .ok (.getfield 43, 3) := by decide +kernel
theorem dX2_addLink_33 : decode cX2_addLink 33 = .ok (.aload_n 0, 1) := by decide +kernel
theorem dX2_addLink_34 : decode cX2_addLink 34 = .ok (.getfield 18, 3) := by decide +kernel
theorem dX2_addLink_37 : decode cX2_addLink 37 = .ok (.iload_n 3, 1) := by decide +kernel
theorem dX2_addLink_38 : decode cX2_addLink 38 = .ok (.iastore, 1) := by decide +kernel
theorem dX2_addLink_39 : decode cX2_addLink 39 = .ok (.aload_n 0, 1) := by decide +kernel
theorem dX2_addLink_40 : decode cX2_addLink 40 = .ok (.dup, 1) := by decide +kernel
theorem dX2_addLink_41 : decode cX2_addLink 41 = .ok (.getfield 18, 3) := by decide +kernel
theorem dX2_addLink_44 : decode cX2_addLink 44 = .ok (.iconst 1, 1) := by decide +kernel
theorem dX2_addLink_45 : decode cX2_addLink 45 = .ok (.iadd, 1) := by decide +kernel
theorem dX2_addLink_46 : decode cX2_addLink 46 = .ok (.putfield 18, 3) := by decide +kernel
theorem dX2_addLink_49 : decode cX2_addLink 49 = .ok (.return_, 1) := by decide +kernel
theorem dX2_copyFrom_0 : decode cX2_copyFrom 0 = .ok (.aload_n 0, 1) := by decide +kernel
theorem dX2_copyFrom_1 : decode cX2_copyFrom 1 = .ok (.aload_n 1, 1) := by decide +kernel
theorem dX2_copyFrom_2 : decode cX2_copyFrom 2 = .ok (.getfield 9, 3) := by decide +kernel
theorem dX2_copyFrom_5 : decode cX2_copyFrom 5 = .ok (.putfield 9, 3) := by decide +kernel
theorem dX2_copyFrom_8 : decode cX2_copyFrom 8 = .ok (.aload_n 0, 1) := by decide +kernel
theorem dX2_copyFrom_9 : decode cX2_copyFrom 9 = .ok (.aload_n 1, 1) := by decide +kernel
theorem dX2_copyFrom_10 : decode cX2_copyFrom 10 = .ok (.getfield 15, 3) := by decide +kernel
theorem dX2_copyFrom_13 : decode cX2_copyFrom 13 = .ok (.putfield 15, 3) := by decide +kernel
theorem dX2_copyFrom_16 : decode cX2_copyFrom 16 = .ok (.aload_n 0, 1) := by decide +kernel
theorem dX2_copyFrom_17 : decode cX2_copyFrom 17 = .ok (.aload_n 1, 1) := by decide +kernel
theorem dX2_copyFrom_18 : decode cX2_copyFrom 18 = .ok (.getfield 18, 3) := by decide +kernel
theorem dX2_copyFrom_21 : decode cX2_copyFrom 21 = .ok (.putfield 18, 3) := by decide +kernel
theorem dX2_copyFrom_24 : decode cX2_copyFrom 24 = .ok (.aload_n 1, 1) := by decide +kernel
theorem dX2_copyFrom_25 : decode cX2_copyFrom 25 = .ok (.getfield 21, 3) := by decide +kernel
theorem dX2_copyFrom_28 : decode cX2_copyFrom 28 = .ok (.iconst 0, 1) := by decide +kernel
theorem dX2_copyFrom_29 : decode cX2_copyFrom 29 = .ok (.aload_n 0, 1) := by decide +kernel
theorem dX2_copyFrom_30 : decode cX2_copyFrom 30 = .ok (.getfield 21, 3) := by decide +kernel
theorem dX2_copyFrom_33 : decode cX2_copyFrom 33 = .ok (.iconst 0, 1) := by decide +kernel
theorem dX2_copyFrom_34 : decode cX2_copyFrom 34 = .ok (.bipush 8, 2) := by decide +kernel
theorem dX2_copyFrom_36 : decode cX2_copyFrom 36 = .ok (.invokestatic 52, 3) := by decide +kernel
theorem dX2_copyFrom_39 : decode cX2_copyFrom 39 = .ok (.aload_n 1, 1) := by decide +kernel
theorem dX2_copyFrom_40 : decode cX2_copyFrom 40 = .ok (.getfield 25, 3) := by decide +kernel
theorem dX2_copyFrom_43 : decode cX2_copyFrom 43 = .ok (.iconst 0, 1) := by decide +kernel
theorem dX2_copyFrom_44 : decode cX2_copyFrom 44 = .ok (.aload_n 0, 1) := by decide +kernel
theorem dX2_copyFrom_45 : decode cX2_copyFrom 45 = .ok (.getfield 25, 3) := by decide +kernel
theorem dX2_copyFrom_48 : decode cX2_copyFrom 48 = .ok (.iconst 0, 1) := by decide +kernel
theorem dX2_copyFrom_49 : decode cX2_copyFrom 49 = .ok (.bipush 8, 2) := by decide +kernel
theorem dX2_copyFrom_51 : decode cX2_copyFrom 51 = .ok (.invokestatic 52, 3) := by decide +kernel
theorem dX2_copyFrom_54 : decode cX2_copyFrom 54 = .ok (.aload_n 1, 1) := by decide +kernel
theorem dX2_copyFrom_55 : decode cX2_copyFrom 55 = .ok (.getfield 28, 3) := by decide +kernel
theorem dX2_copyFrom_58 : decode cX2_copyFrom 58 = .ok (.iconst 0, 1) := by decide +kernel
theorem dX2_copyFrom_59 : decode cX2_copyFrom 59 = .ok (.aload_n 0, 1) := by decide +kernel
theorem dX2_copyFrom_60 : decode cX2_copyFrom 60 = .ok (.getfield 28, 3) := by decide +kernel
theorem dX2_copyFrom_63 : decode cX2_copyFrom 63 = .ok (.iconst 0, 1) := by decide +kernel
theorem dX2_copyFrom_64 : decode cX2_copyFrom 64 = .ok (.bipush 8, 2) := by decide +kernel
theorem dX2_copyFrom_66 : decode cX2_copyFrom 66 = .ok (.invokestatic 52, 3) := by decide +kernel
theorem dX2_copyFrom_69 : decode cX2_copyFrom 69 = .ok (.aload_n 1, 1) := by decide +kernel
theorem dX2_copyFrom_70 : decode cX2_copyFrom 70 = .ok (.getfield 31, 3) := by decide +kernel
theorem dX2_copyFrom_73 : decode cX2_copyFrom 73 = .ok (.iconst 0, 1) := by decide +kernel
theorem dX2_copyFrom_74 : decode cX2_copyFrom 74 = .ok (.aload_n 0, 1) := by decide +kernel
theorem dX2_copyFrom_75 : decode cX2_copyFrom 75 = .ok (.getfield 31, 3) := by decide +kernel
theorem dX2_copyFrom_78 : decode cX2_copyFrom 78 = .ok (.iconst 0, 1) := by decide +kernel
theorem dX2_copyFrom_79 : decode cX2_copyFrom 79 = .ok (.bipush 10, 2) := by decide +kernel
theorem dX2_copyFrom_81 : decode cX2_copyFrom 81 = .ok (.invokestatic 52, 3) := by decide +kernel
theorem dX2_copyFrom_84 : decode cX2_copyFrom 84 = .ok (.aload_n 1, 1) := by decide +kernel
theorem dX2_copyFrom_85 : decode cX2_copyFrom 85 = .ok (.getfield 34, 3) := by decide +kernel
theorem dX2_copyFrom_88 : decode cX2_copyFrom 88 = .ok (.iconst 0, 1) := by decide +kernel
theorem dX2_copyFrom_89 : decode cX2_copyFrom 89 = .ok (.aload_n 0, 1) := by decide +kernel
theorem dX2_copyFrom_90 : decode cX2_copyFrom 90 = .ok (.getfield 34, 3) := by decide +kernel
theorem dX2_copyFrom_93 : decode cX2_copyFrom 93 = .ok (.iconst 0, 1) := by decide +kernel
theorem dX2_copyFrom_94 : decode cX2_copyFrom 94 = .ok (.bipush 10, 2) := by decide +kernel
theorem dX2_copyFrom_96 : decode cX2_copyFrom 96 = .ok (.invokestatic 52, 3) := by decide +kernel
theorem dX2_copyFrom_99 : decode cX2_copyFrom 99 = .ok (.aload_n 1, 1) := by decide +kernel
theorem dX2_copyFrom_100 : decode cX2_copyFrom 100 = .ok (.getfield 37, 3) := by decide +kernel
theorem dX2_copyFrom_103 : decode cX2_copyFrom 103 = .ok (.iconst 0, 1) := by decide +kernel
theorem dX2_copyFrom_104 : decode cX2_copyFrom 104 = .ok (.aload_n 0, 1) := by decide +kernel
theorem dX2_copyFrom_105 : decode cX2_copyFrom 105 = .ok (.getfield 37, 3) := by decide +kernel
theorem dX2_copyFrom_108 : decode cX2_copyFrom 108 = .ok (.iconst 0, 1) := by decide +kernel
theorem dX2_copyFrom_109 : decode cX2_copyFrom 109 = .ok (.bipush 8, 2) := by decide +kernel
theorem dX2_copyFrom_111 : decode cX2_copyFrom 111 = .ok (.invokestatic 52, 3) := by decide +kernel
theorem dX2_copyFrom_114 : decode cX2_copyFrom 114 = .ok (.aload_n 1, 1) := by decide +kernel
theorem dX2_copyFrom_115 : decode cX2_copyFrom 115 = .ok (.getfield 40, 3) := by decide +kernel
theorem dX2_copyFrom_118 : decode cX2_copyFrom 118 = .ok (.iconst 0, 1) := by decide +kernel
theorem dX2_copyFrom_119 : decode cX2_copyFrom 119 = .ok (.aload_n 0, 1) := by decide +kernel
theorem dX2_copyFrom_120 : decode cX2_copyFrom 120 = .ok (.getfield 40, 3) := by decide +kernel
theorem dX2_copyFrom_123 : decode cX2_copyFrom 123 = .ok (.iconst 0, 1) := by decide +kernel
theorem dX2_copyFrom_124 : decode cX2_copyFrom 124 = .ok (.bipush 8, 2) := by decide +kernel
theorem dX2_copyFrom_126 : decode cX2_copyFrom 126 = .ok (.invokestatic 52, 3) := by decide +kernel
theorem dX2_copyFrom_129 : decode cX2_copyFrom 129 = .ok (.aload_n 1, 1) := by decide +kernel
theorem dX2_copyFrom_130 : decode cX2_copyFrom 130 = .ok (.getfield 43, 3) := by decide +kernel
theorem dX2_copyFrom_133 : decode cX2_copyFrom 133 = .ok (.iconst 0, 1) := by decide +kernel
theorem dX2_copyFrom_134 : decode cX2_copyFrom 134 = .ok (.aload_n 0, 1) := by decide +kernel
theorem dX2_copyFrom_135 : decode cX2_copyFrom 135 = .ok (.getfield 43, 3) := by decide +kernel
theorem dX2_copyFrom_138 : decode cX2_copyFrom 138 = .ok (.iconst 0, 1) := by decide +kernel
theorem dX2_copyFrom_139 : decode cX2_copyFrom 139 = .ok (.bipush 8, 2) := by decide +kernel
theorem dX2_copyFrom_141 : decode cX2_copyFrom 141 = .ok (.invokestatic 52, 3) := by decide +kernel
theorem dX2_copyFrom_144 : decode cX2_copyFrom 144 = .ok (.return_, 1) := by decide +kernel
theorem dX2_hasPiece_0 : decode cX2_hasPiece 0 = .ok (.iload_n 1, 1) := by decide +kernel
theorem dX2_hasPiece_1 : decode cX2_hasPiece 1 = .ok (.ifCond .lt 15, 3) := by decide +kernel
theorem dX2_hasPiece_4 : decode cX2_hasPiece 4 = .ok (.iload_n 1, 1) := by decide +kernel
theorem dX2_hasPiece_5 : decode cX2_hasPiece 5 = .ok (.aload_n 0, 1) := by decide +kernel
theorem dX2_hasPiece_6 : decode cX2_hasPiece 6 = .ok (.getfield 9, 3) := by decide +kernel
theorem dX2_hasPiece_9 : decode cX2_hasPiece 9 = .ok (.if_icmp .ge 7, 3) := by decide +kernel
theorem dX2_hasPiece_12 : decode cX2_hasPiece 12 = .ok (.iconst 1, 1) := by decide +kernel
theorem dX2_hasPiece_13 : decode cX2_hasPiece 13 = .ok (.goto 4, 3) := by decide +kernel
theorem dX2_hasPiece_16 : decode cX2_hasPiece 16 = .ok (.iconst 0, 1) := by decide +kernel
theorem dX2_hasPiece_17 : decode cX2_hasPiece 17 = .ok (.ireturn, 1) := by decide +kernel
theorem dX2_hasSecret_0 : decode cX2_hasSecret 0 = .ok (.iload_n 1, 1) := by decide +kernel
theorem dX2_hasSecret_1 : decode cX2_hasSecret 1 = .ok (.ifCond .lt 15, 3) := by decide +kernel
theorem dX2_hasSecret_4 : decode cX2_hasSecret 4 = .ok (.iload_n 1, 1) := by decide +kernel
theorem dX2_hasSecret_5 : decode cX2_hasSecret 5 = .ok (.aload_n 0, 1) := by decide +kernel
theorem dX2_hasSecret_6 : decode cX2_hasSecret 6 = .ok (.getfield 15, 3) := by decide +kernel
theorem dX2_hasSecret_9 : decode cX2_hasSecret 9 = .ok (.if_icmp .ge 7, 3) := by decide +kernel
theorem dX2_hasSecret_12 : decode cX2_hasSecret 12 = .ok (.iconst 1, 1) := by decide +kernel
theorem dX2_hasSecret_13 : decode cX2_hasSecret 13 = .ok (.goto 4, 3) := by decide +kernel
theorem dX2_hasSecret_16 : decode cX2_hasSecret 16 = .ok (.iconst 0, 1) := by decide +kernel
theorem dX2_hasSecret_17 : decode cX2_hasSecret 17 = .ok (.ireturn, 1) := by decide +kernel
theorem dX2_hasSecrets_0 : decode cX2_hasSecrets 0 = .ok (.iload_n 1, 1) := by decide +kernel
theorem dX2_hasSecrets_1 : decode cX2_hasSecrets 1 = .ok (.ifCond .lt 15, 3) := by decide +kernel
theorem dX2_hasSecrets_4 : decode cX2_hasSecrets 4 = .ok (.iload_n 1, 1) := by decide +kernel
theorem dX2_hasSecrets_5 : decode cX2_hasSecrets 5 = .ok (.aload_n 0, 1) := by decide +kernel
theorem dX2_hasSecrets_6 : decode cX2_hasSecrets 6 = .ok (.invokevirtual 58, 3) := by decide +kernel
theorem dX2_hasSecrets_9 : decode cX2_hasSecrets 9 = .ok (.if_icmp .ge 7, 3) := by decide +kernel
theorem dX2_hasSecrets_12 : decode cX2_hasSecrets 12 = .ok (.iconst 1, 1) := by decide +kernel
theorem dX2_hasSecrets_13 : decode cX2_hasSecrets 13 = .ok (.goto 4, 3) := by decide +kernel
theorem dX2_hasSecrets_16 : decode cX2_hasSecrets 16 = .ok (.iconst 0, 1) := by decide +kernel
theorem dX2_hasSecrets_17 : decode cX2_hasSecrets 17 = .ok (.ireturn, 1) := by decide +kernel
theorem dX2_hasPieces_0 : decode cX2_hasPieces 0 = .ok (.iconst 0, 1) := by decide +kernel
theorem dX2_hasPieces_1 : decode cX2_hasPieces 1 = .ok (.istore_n 3, 1) := by decide +kernel
theorem dX2_hasPieces_2 : decode cX2_hasPieces 2 = .ok (.iload_n 3, 1) := by decide +kernel
theorem dX2_hasPieces_3 : decode cX2_hasPieces 3 = .ok (.aload_n 1, 1) := by decide +kernel
theorem dX2_hasPieces_4 : decode cX2_hasPieces 4 = .ok (.getfield 62, 3) := by decide +kernel
theorem dX2_hasPieces_7 : decode cX2_hasPieces 7 = .ok (.if_icmp .ge 24, 3) := by decide +kernel
theorem dX2_hasPieces_10 : decode cX2_hasPieces 10 = .ok (.aload_n 0, 1) := by decide +kernel
theorem dX2_hasPieces_11 : decode cX2_hasPieces 11 = .ok (.aload_n 1, 1) := by decide +kernel
theorem dX2_hasPieces_12 : decode cX2_hasPieces 12 = .ok (.iload_n 3, 1) := by decide +kernel
theorem dX2_hasPieces_13 : decode cX2_hasPieces 13 = .ok (.iload_n 2, 1) := by decide +kernel
theorem dX2_hasPieces_14 : decode cX2_hasPieces 14 = .ok (.invokevirtual 67, 3) := by decide +kernel
theorem dX2_hasPieces_17 : decode cX2_hasPieces 17 = .ok (.invokevirtual 71, 3) := by decide +kernel
theorem dX2_hasPieces_20 : decode cX2_hasPieces 20 = .ok (.ifCond .ne 5, 3) := by decide +kernel
theorem dX2_hasPieces_23 : decode cX2_hasPieces 23 = .ok (.iconst 0, 1) := by decide +kernel
theorem dX2_hasPieces_24 : decode cX2_hasPieces 24 = .ok (.ireturn, 1) := by decide +kernel
theorem dX2_hasPieces_25 : decode cX2_hasPieces 25 = .ok (.iinc 3 1, 3) := by decide +kernel
theorem dX2_hasPieces_28 : decode cX2_hasPieces 28 = .ok (.goto (-26), 3) := by decide +kernel
theorem dX2_hasPieces_31 : decode cX2_hasPieces 31 = .ok (.iconst 1, 1) := by decide +kernel
theorem dX2_hasPieces_32 : decode cX2_hasPieces 32 = .ok (.ireturn, 1) := by decide +kernel
theorem dX2_secretSets_0 : decode cX2_secretSets 0 = .ok (.iconst 1, 1) := by decide +kernel
theorem dX2_secretSets_1 : decode cX2_secretSets 1 = .ok (.aload_n 0, 1) := by decide +kernel
theorem dX2_secretSets_2 : decode cX2_secretSets 2 = .ok (.getfield 15, 3) := by decide +kernel
theorem dX2_secretSets_5 : decode cX2_secretSets 5 = .ok (.ishl, 1) := by decide +kernel
theorem dX2_secretSets_6 : decode cX2_secretSets 6 = .ok (.ireturn, 1) := by decide +kernel
theorem dX2_allSecrets_0 : decode cX2_allSecrets 0 = .ok (.aload_n 0, 1) := by decide +kernel
theorem dX2_allSecrets_1 : decode cX2_allSecrets 1 = .ok (.invokevirtual 58, 3) := by decide +kernel
theorem dX2_allSecrets_4 : decode cX2_allSecrets 4 = .ok (.iconst 1, 1) := by decide +kernel
theorem dX2_allSecrets_5 : decode cX2_allSecrets 5 = .ok (.isub, 1) := by decide +kernel
theorem dX2_allSecrets_6 : decode cX2_allSecrets 6 = .ok (.ireturn, 1) := by decide +kernel
theorem dX2_allPieces_0 : decode cX2_allPieces 0 = .ok (.iconst 1, 1) := by decide +kernel
theorem dX2_allPieces_1 : decode cX2_allPieces 1 = .ok (.aload_n 0, 1) := by decide +kernel
theorem dX2_allPieces_2 : decode cX2_allPieces 2 = .ok (.getfield 9, 3) := by decide +kernel
theorem dX2_allPieces_5 : decode cX2_allPieces 5 = .ok (.ishl, 1) := by decide +kernel
theorem dX2_allPieces_6 : decode cX2_allPieces 6 = .ok (.iconst 1, 1) := by decide +kernel
theorem dX2_allPieces_7 : decode cX2_allPieces 7 = .ok (.isub, 1) := by decide +kernel
theorem dX2_allPieces_8 : decode cX2_allPieces 8 = .ok (.ireturn, 1) := by decide +kernel
theorem dX2_detail_0 : decode cX2_detail 0 = .ok (.iload_n 1, 1) := by decide +kernel
theorem dX2_detail_1 : decode cX2_detail 1 = .ok (.iconst 3, 1) := by decide +kernel
theorem dX2_detail_2 : decode cX2_detail 2 = .ok (.if_icmp .gt 22, 3) := by decide +kernel
theorem dX2_detail_5 : decode cX2_detail 5 = .ok (.aload_n 0, 1) := by decide +kernel
theorem dX2_detail_6 : decode cX2_detail 6 = .ok (.iload_n 2, 1) := by decide +kernel
theorem dX2_detail_7 : decode cX2_detail 7 = .ok (.invokevirtual 71, 3) := by decide +kernel
theorem dX2_detail_10 : decode cX2_detail 10 = .ok (.ifCond .eq 12, 3) := by decide +kernel
theorem dX2_detail_13 : decode cX2_detail 13 = .ok (.aload_n 0, 1) := by decide +kernel
theorem dX2_detail_14 : decode cX2_detail 14 = .ok (.iload_n 1, 1) := by decide +kernel
theorem dX2_detail_15 : decode cX2_detail 15 = .ok (.iload_n 2, 1) := by decide +kernel
theorem dX2_detail_16 : decode cX2_detail 16 = .ok (.invokevirtual 75, 3) := by decide +kernel
theorem dX2_detail_19 : decode cX2_detail 19 = .ok (.goto 4, 3) := by decide +kernel
theorem dX2_detail_22 : decode cX2_detail 22 = .ok (.iconst (-1), 1) := by decide +kernel
theorem dX2_detail_23 : decode cX2_detail 23 = .ok (.ireturn, 1) := by decide +kernel
theorem dX2_detail_24 : decode cX2_detail 24 = .ok (.iload_n 1, 1) := by decide +kernel
theorem dX2_detail_25 : decode cX2_detail 25 = .ok (.iconst 5, 1) := by decide +kernel
theorem dX2_detail_26 : decode cX2_detail 26 = .ok (.if_icmp .gt 22, 3) := by decide +kernel
theorem dX2_detail_29 : decode cX2_detail 29 = .ok (.aload_n 0, 1) := by decide +kernel
theorem dX2_detail_30 : decode cX2_detail 30 = .ok (.iload_n 2, 1) := by decide +kernel
theorem dX2_detail_31 : decode cX2_detail 31 = .ok (.invokevirtual 78, 3) := by decide +kernel
theorem dX2_detail_34 : decode cX2_detail 34 = .ok (.ifCond .eq 12, 3) := by decide +kernel
theorem dX2_detail_37 : decode cX2_detail 37 = .ok (.aload_n 0, 1) := by decide +kernel
theorem dX2_detail_38 : decode cX2_detail 38 = .ok (.iload_n 1, 1) := by decide +kernel
theorem dX2_detail_39 : decode cX2_detail 39 = .ok (.iload_n 2, 1) := by decide +kernel
theorem dX2_detail_40 : decode cX2_detail 40 = .ok (.invokevirtual 81, 3) := by decide +kernel
theorem dX2_detail_43 : decode cX2_detail 43 = .ok (.goto 4, 3) := by decide +kernel
theorem dX2_detail_46 : decode cX2_detail 46 = .ok (.iconst (-1), 1) := by decide +kernel
theorem dX2_detail_47 : decode cX2_detail 47 = .ok (.ireturn, 1) := by decide +kernel
theorem dX2_detail_48 : decode cX2_detail 48 = .ok (.iload_n 2, 1) := by decide +kernel
theorem dX2_detail_49 : decode cX2_detail 49 = .ok (.ifCond .lt 20, 3) := by decide +kernel
theorem dX2_detail_52 : decode cX2_detail 52 = .ok (.iload_n 2, 1) := by decide +kernel
theorem dX2_detail_53 : decode cX2_detail 53 = .ok (.aload_n 0, 1) := by decide +kernel
theorem dX2_detail_54 : decode cX2_detail 54 = .ok (.getfield 18, 3) := by decide +kernel
theorem dX2_detail_57 : decode cX2_detail 57 = .ok (.if_icmp .ge 12, 3) := by decide +kernel
theorem dX2_detail_60 : decode cX2_detail 60 = .ok (.aload_n 0, 1) := by decide +kernel
theorem dX2_detail_61 : decode cX2_detail 61 = .ok (.iload_n 1, 1) := by decide +kernel
theorem dX2_detail_62 : decode cX2_detail 62 = .ok (.iload_n 2, 1) := by decide +kernel
theorem dX2_detail_63 : decode cX2_detail 63 = .ok (.invokevirtual 84, 3) := by decide +kernel
theorem dX2_detail_66 : decode cX2_detail 66 = .ok (.goto 4, 3) := by decide +kernel
theorem dX2_detail_69 : decode cX2_detail 69 = .ok (.iconst (-1), 1) := by decide +kernel
theorem dX2_detail_70 : decode cX2_detail 70 = .ok (.ireturn, 1) := by decide +kernel
theorem dX2_pieceDetail_0 : decode cX2_pieceDetail 0 = .ok (.iload_n 1, 1) := by decide +kernel
theorem dX2_pieceDetail_1 : decode cX2_pieceDetail 1 = .ok (.tableswitch 48 1 3 #[27, 34, 41], 27) := by decide +kernel
theorem dX2_pieceDetail_28 : decode cX2_pieceDetail 28 = .ok (.aload_n 0, 1) := by decide +kernel
theorem dX2_pieceDetail_29 : decode cX2_pieceDetail 29 = .ok (.getfield 21, 3) := by decide +kernel
theorem dX2_pieceDetail_32 : decode cX2_pieceDetail 32 = .ok (.iload_n 2, 1) := by decide +kernel
theorem dX2_pieceDetail_33 : decode cX2_pieceDetail 33 = .ok (.iaload, 1) := by decide +kernel
theorem dX2_pieceDetail_34 : decode cX2_pieceDetail 34 = .ok (.ireturn, 1) := by decide +kernel
theorem dX2_pieceDetail_35 : decode cX2_pieceDetail 35 = .ok (.aload_n 0, 1) := by decide +kernel
theorem dX2_pieceDetail_36 : decode cX2_pieceDetail 36 = .ok (.getfield 25, 3) := by decide +kernel
theorem dX2_pieceDetail_39 : decode cX2_pieceDetail 39 = .ok (.iload_n 2, 1) := by decide +kernel
theorem dX2_pieceDetail_40 : decode cX2_pieceDetail 40 = .ok (.iaload, 1) := by decide +kernel
theorem dX2_pieceDetail_41 : decode cX2_pieceDetail 41 = .ok (.ireturn, 1) := by decide +kernel
theorem dX2_pieceDetail_42 : decode cX2_pieceDetail 42 = .ok (.aload_n 0, 1) := by decide +kernel
theorem dX2_pieceDetail_43 : decode cX2_pieceDetail 43 = .ok (.getfield 28, 3) := by decide +kernel
theorem dX2_pieceDetail_46 : decode cX2_pieceDetail 46 = .ok (.iload_n 2, 1) := by decide +kernel
theorem dX2_pieceDetail_47 : decode cX2_pieceDetail 47 = .ok (.iaload, 1) := by decide +kernel
theorem dX2_pieceDetail_48 : decode cX2_pieceDetail 48 = .ok (.ireturn, 1) := by decide +kernel
theorem dX2_pieceDetail_49 : decode cX2_pieceDetail 49 = .ok (.iconst (-1), 1) := by decide +kernel
theorem dX2_pieceDetail_50 : decode cX2_pieceDetail 50 = .ok (.ireturn, 1) := by decide +kernel
theorem dX2_secretDetail_0 : decode cX2_secretDetail 0 = .ok (.iload_n 1, 1) := by decide +kernel
theorem dX2_secretDetail_1 : decode cX2_secretDetail 1 = .ok (.iconst 4, 1) := by decide +kernel
theorem dX2_secretDetail_2 : decode cX2_secretDetail 2 = .ok (.if_icmp .ne 12, 3) := by decide +kernel
theorem dX2_secretDetail_5 : decode cX2_secretDetail 5 = .ok (.aload_n 0, 1) := by decide +kernel
theorem dX2_secretDetail_6 : decode cX2_secretDetail 6 = .ok (.getfield 31, 3) := by decide +kernel
theorem dX2_secretDetail_9 : decode cX2_secretDetail 9 = .ok (.iload_n 2, 1) := by decide +kernel
theorem dX2_secretDetail_10 : decode cX2_secretDetail 10 = .ok (.iaload, 1) := by decide +kernel
theorem dX2_secretDetail_11 : decode cX2_secretDetail 11 = .ok (.goto 9, 3) := by decide +kernel
theorem dX2_secretDetail_14 : decode cX2_secretDetail 14 = .ok (.aload_n 0, 1) := by decide +kernel
theorem dX2_secretDetail_15 : decode cX2_secretDetail 15 = .ok (.getfield 34, 3) := by decide +kernel
theorem dX2_secretDetail_18 : decode cX2_secretDetail 18 = .ok (.iload_n 2, 1) := by decide +kernel
theorem dX2_secretDetail_19 : decode cX2_secretDetail 19 = .ok (.iaload, 1) := by decide +kernel
theorem dX2_secretDetail_20 : decode cX2_secretDetail 20 = .ok (.ireturn, 1) := by decide +kernel
theorem dX2_linkDetail_0 : decode cX2_linkDetail 0 = .ok (.iload_n 1, 1) := by decide +kernel
theorem dX2_linkDetail_1 : decode cX2_linkDetail 1 = .ok (.tableswitch 48 6 8 #[27, 34, 41], 27) := by decide +kernel
theorem dX2_linkDetail_28 : decode cX2_linkDetail 28 = .ok (.aload_n 0, 1) := by decide +kernel
theorem dX2_linkDetail_29 : decode cX2_linkDetail 29 = .ok (.getfield 37, 3) := by decide +kernel
theorem dX2_linkDetail_32 : decode cX2_linkDetail 32 = .ok (.iload_n 2, 1) := by decide +kernel
theorem dX2_linkDetail_33 : decode cX2_linkDetail 33 = .ok (.iaload, 1) := by decide +kernel
theorem dX2_linkDetail_34 : decode cX2_linkDetail 34 = .ok (.ireturn, 1) := by decide +kernel
theorem dX2_linkDetail_35 : decode cX2_linkDetail 35 = .ok (.aload_n 0, 1) := by decide +kernel
theorem dX2_linkDetail_36 : decode cX2_linkDetail 36 = .ok (.getfield 40, 3) := by decide +kernel
theorem dX2_linkDetail_39 : decode cX2_linkDetail 39 = .ok (.iload_n 2, 1) := by decide +kernel
theorem dX2_linkDetail_40 : decode cX2_linkDetail 40 = .ok (.iaload, 1) := by decide +kernel
theorem dX2_linkDetail_41 : decode cX2_linkDetail 41 = .ok (.ireturn, 1) := by decide +kernel
theorem dX2_linkDetail_42 : decode cX2_linkDetail 42 = .ok (.aload_n 0, 1) := by decide +kernel
theorem dX2_linkDetail_43 : decode cX2_linkDetail 43 = .ok (.getfield 43, 3) := by decide +kernel
theorem dX2_linkDetail_46 : decode cX2_linkDetail 46 = .ok (.iload_n 2, 1) := by decide +kernel
theorem dX2_linkDetail_47 : decode cX2_linkDetail 47 = .ok (.iaload, 1) := by decide +kernel
theorem dX2_linkDetail_48 : decode cX2_linkDetail 48 = .ok (.ireturn, 1) := by decide +kernel
theorem dX2_linkDetail_49 : decode cX2_linkDetail 49 = .ok (.iconst (-1), 1) := by decide +kernel
theorem dX2_linkDetail_50 : decode cX2_linkDetail 50 = .ok (.ireturn, 1) := by decide +kernel
theorem dX2_worthTo_0 : decode cX2_worthTo 0 = .ok (.aload_n 0, 1) := by decide +kernel
theorem dX2_worthTo_1 : decode cX2_worthTo 1 = .ok (.iload_n 1, 1) := by decide +kernel
theorem dX2_worthTo_2 : decode cX2_worthTo 2 = .ok (.iload_n 2, 1) := by decide +kernel
theorem dX2_worthTo_3 : decode cX2_worthTo 3 = .ok (.aload_n 0, 1) := by decide +kernel
theorem dX2_worthTo_4 : decode cX2_worthTo 4 = .ok (.getfield 21, 3) := by decide +kernel
theorem dX2_worthTo_7 : decode cX2_worthTo 7 = .ok (.iload_n 2, 1) := by decide +kernel
theorem dX2_worthTo_8 : decode cX2_worthTo 8 = .ok (.iaload, 1) := by decide +kernel
theorem dX2_worthTo_9 : decode cX2_worthTo 9 = .ok (.invokevirtual 87, 3) := by decide +kernel
theorem dX2_worthTo_12 : decode cX2_worthTo 12 = .ok (.ireturn, 1) := by decide +kernel
theorem dX2_worthIfTaste_0 : decode cX2_worthIfTaste 0 = .ok (.aload_n 0, 1) := by decide +kernel
theorem dX2_worthIfTaste_1 : decode cX2_worthIfTaste 1 = .ok (.getfield 34, 3) := by decide +kernel
theorem dX2_worthIfTaste_4 : decode cX2_worthIfTaste 4 = .ok (.iload_n 1, 1) := by decide +kernel
theorem dX2_worthIfTaste_5 : decode cX2_worthIfTaste 5 = .ok (.iaload, 1) := by decide +kernel
theorem dX2_worthIfTaste_6 : decode cX2_worthIfTaste 6 = .ok (.aload_n 0, 1) := by decide +kernel
theorem dX2_worthIfTaste_7 : decode cX2_worthIfTaste 7 = .ok (.getfield 31, 3) := by decide +kernel
theorem dX2_worthIfTaste_10 : decode cX2_worthIfTaste 10 = .ok (.iload_n 1, 1) := by decide +kernel
theorem dX2_worthIfTaste_11 : decode cX2_worthIfTaste 11 = .ok (.iaload, 1) := by decide +kernel
theorem dX2_worthIfTaste_12 : decode cX2_worthIfTaste 12 = .ok (.iload_n 3, 1) := by decide +kernel
theorem dX2_worthIfTaste_13 : decode cX2_worthIfTaste 13 = .ok (.if_icmp .ne 7, 3) := by decide +kernel
theorem dX2_worthIfTaste_16 : decode cX2_worthIfTaste 16 = .ok (.iconst 1, 1) := by decide +kernel
theorem dX2_worthIfTaste_17 : decode cX2_worthIfTaste 17 = .ok (.goto 4, 3) := by decide +kernel
theorem dX2_worthIfTaste_20 : decode cX2_worthIfTaste 20 = .ok (.iconst 0, 1) := by decide +kernel
theorem dX2_worthIfTaste_21 : decode cX2_worthIfTaste 21 = .ok (.aload_n 0, 1) := by decide +kernel
theorem dX2_worthIfTaste_22 : decode cX2_worthIfTaste 22 = .ok (.getfield 28, 3) := by decide +kernel
theorem dX2_worthIfTaste_25 : decode cX2_worthIfTaste 25 = .ok (.iload_n 2, 1) := by decide +kernel
theorem dX2_worthIfTaste_26 : decode cX2_worthIfTaste 26 = .ok (.iaload, 1) := by decide +kernel
theorem dX2_worthIfTaste_27 : decode cX2_worthIfTaste 27 = .ok (.iload_n 1, 1) := by decide +kernel
theorem dX2_worthIfTaste_28 : decode cX2_worthIfTaste 28 = .ok (.invokestatic 91, 3) := by decide +kernel
theorem dX2_worthIfTaste_31 : decode cX2_worthIfTaste 31 = .ok (.invokestatic 95, 3) := by decide +kernel
theorem dX2_worthIfTaste_34 : decode cX2_worthIfTaste 34 = .ok (.ireturn, 1) := by decide +kernel
theorem dX2_weightOf_0 : decode cX2_weightOf 0 = .ok (.iconst 0, 1) := by decide +kernel
theorem dX2_weightOf_1 : decode cX2_weightOf 1 = .ok (.istore_n 2, 1) := by decide +kernel
theorem dX2_weightOf_2 : decode cX2_weightOf 2 = .ok (.iconst 0, 1) := by decide +kernel
theorem dX2_weightOf_3 : decode cX2_weightOf 3 = .ok (.istore_n 3, 1) := by decide +kernel
theorem dX2_weightOf_4 : decode cX2_weightOf 4 = .ok (.iload_n 3, 1) := by decide +kernel
theorem dX2_weightOf_5 : decode cX2_weightOf 5 = .ok (.aload_n 0, 1) := by decide +kernel
theorem dX2_weightOf_6 : decode cX2_weightOf 6 = .ok (.getfield 15, 3) := by decide +kernel
theorem dX2_weightOf_9 : decode cX2_weightOf 9 = .ok (.if_icmp .ge 30, 3) := by decide +kernel
theorem dX2_weightOf_12 : decode cX2_weightOf 12 = .ok (.iload_n 2, 1) := by decide +kernel
theorem dX2_weightOf_13 : decode cX2_weightOf 13 = .ok (.iload_n 1, 1) := by decide +kernel
theorem dX2_weightOf_14 : decode cX2_weightOf 14 = .ok (.iload_n 3, 1) := by decide +kernel
theorem dX2_weightOf_15 : decode cX2_weightOf 15 = .ok (.invokestatic 91, 3) := by decide +kernel
theorem dX2_weightOf_18 : decode cX2_weightOf 18 = .ok (.ifCond .eq 12, 3) := by decide +kernel
theorem dX2_weightOf_21 : decode cX2_weightOf 21 = .ok (.aload_n 0, 1) := by decide +kernel
theorem dX2_weightOf_22 : decode cX2_weightOf 22 = .ok (.getfield 34, 3) := by decide +kernel
theorem dX2_weightOf_25 : decode cX2_weightOf 25 = .ok (.iload_n 3, 1) := by decide +kernel
theorem dX2_weightOf_26 : decode cX2_weightOf 26 = .ok (.iaload, 1) := by decide +kernel
theorem dX2_weightOf_27 : decode cX2_weightOf 27 = .ok (.goto 4, 3) := by decide +kernel
theorem dX2_weightOf_30 : decode cX2_weightOf 30 = .ok (.iconst 0, 1) := by decide +kernel
theorem dX2_weightOf_31 : decode cX2_weightOf 31 = .ok (.iadd, 1) := by decide +kernel
theorem dX2_weightOf_32 : decode cX2_weightOf 32 = .ok (.istore_n 2, 1) := by decide +kernel
theorem dX2_weightOf_33 : decode cX2_weightOf 33 = .ok (.iinc 3 1, 3) := by decide +kernel
theorem dX2_weightOf_36 : decode cX2_weightOf 36 = .ok (.goto (-32), 3) := by decide +kernel
theorem dX2_weightOf_39 : decode cX2_weightOf 39 = .ok (.iload_n 2, 1) := by decide +kernel
theorem dX2_weightOf_40 : decode cX2_weightOf 40 = .ok (.ireturn, 1) := by decide +kernel
theorem dX2_makes_0 : decode cX2_makes 0 = .ok (.iload_n 2, 1) := by decide +kernel
theorem dX2_makes_1 : decode cX2_makes 1 = .ok (.aload_n 0, 1) := by decide +kernel
theorem dX2_makes_2 : decode cX2_makes 2 = .ok (.getfield 37, 3) := by decide +kernel
theorem dX2_makes_5 : decode cX2_makes 5 = .ok (.iload_n 1, 1) := by decide +kernel
theorem dX2_makes_6 : decode cX2_makes 6 = .ok (.iaload, 1) := by decide +kernel
theorem dX2_makes_7 : decode cX2_makes 7 = .ok (.invokestatic 91, 3) := by decide +kernel
theorem dX2_makes_10 : decode cX2_makes 10 = .ok (.ifCond .eq 20, 3) := by decide +kernel
theorem dX2_makes_13 : decode cX2_makes 13 = .ok (.iload_n 2, 1) := by decide +kernel
theorem dX2_makes_14 : decode cX2_makes 14 = .ok (.aload_n 0, 1) := by decide +kernel
theorem dX2_makes_15 : decode cX2_makes 15 = .ok (.getfield 40, 3) := by decide +kernel
theorem dX2_makes_18 : decode cX2_makes 18 = .ok (.iload_n 1, 1) := by decide +kernel
theorem dX2_makes_19 : decode cX2_makes 19 = .ok (.iaload, 1) := by decide +kernel
theorem dX2_makes_20 : decode cX2_makes 20 = .ok (.invokestatic 91, 3) := by decide +kernel
theorem dX2_makes_23 : decode cX2_makes 23 = .ok (.ifCond .eq 7, 3) := by decide +kernel
theorem dX2_makes_26 : decode cX2_makes 26 = .ok (.iconst 1, 1) := by decide +kernel
theorem dX2_makes_27 : decode cX2_makes 27 = .ok (.goto 4, 3) := by decide +kernel
theorem dX2_makes_30 : decode cX2_makes 30 = .ok (.iconst 0, 1) := by decide +kernel
theorem dX2_makes_31 : decode cX2_makes 31 = .ok (.ireturn, 1) := by decide +kernel
theorem dX2_closure_0 : decode cX2_closure 0 = .ok (.iload_n 1, 1) := by decide +kernel
theorem dX2_closure_1 : decode cX2_closure 1 = .ok (.istore_n 3, 1) := by decide +kernel
theorem dX2_closure_2 : decode cX2_closure 2 = .ok (.iconst 0, 1) := by decide +kernel
theorem dX2_closure_3 : decode cX2_closure 3 = .ok (.istore 4, 2) := by decide +kernel
theorem dX2_closure_5 : decode cX2_closure 5 = .ok (.iload 4, 2) := by decide +kernel
theorem dX2_closure_7 : decode cX2_closure 7 = .ok (.bipush 10, 2) := by decide +kernel
theorem dX2_closure_9 : decode cX2_closure 9 = .ok (.if_icmp .gt 67, 3) := by decide +kernel
theorem dX2_closure_12 : decode cX2_closure 12 = .ok (.iload_n 3, 1) := by decide +kernel
theorem dX2_closure_13 : decode cX2_closure 13 = .ok (.istore 5, 2) := by decide +kernel
theorem dX2_closure_15 : decode cX2_closure 15 = .ok (.iconst 0, 1) := by decide +kernel
theorem dX2_closure_16 : decode cX2_closure 16 = .ok (.istore 6, 2) := by decide +kernel
theorem dX2_closure_18 : decode cX2_closure 18 = .ok (.iload 6, 2) := by decide +kernel
theorem dX2_closure_20 : decode cX2_closure 20 = .ok (.aload_n 0, 1) := by decide +kernel
theorem dX2_closure_21 : decode cX2_closure 21 = .ok (.getfield 18, 3) := by decide +kernel
theorem dX2_closure_24 : decode cX2_closure 24 = .ok (.if_icmp .ge 37, 3) := by decide +kernel
theorem dX2_closure_27 : decode cX2_closure 27 = .ok (.iload 6, 2) := by decide +kernel
theorem dX2_closure_29 : decode cX2_closure 29 = .ok (.iload_n 2, 1) := by decide +kernel
theorem dX2_closure_30 : decode cX2_closure 30 = .ok (.if_icmp .eq 25, 3) := by decide +kernel
theorem dX2_closure_33 : decode cX2_closure 33 = .ok (.aload_n 0, 1) := by decide +kernel
theorem dX2_closure_34 : decode cX2_closure 34 = .ok (.iload 6, 2) := by decide +kernel
theorem dX2_closure_36 : decode cX2_closure 36 = .ok (.iload_n 3, 1) := by decide +kernel
theorem dX2_closure_37 : decode cX2_closure 37 = .ok (.invokevirtual 99, 3) := by decide +kernel
theorem dX2_closure_40 : decode cX2_closure 40 = .ok (.ifCond .eq 15, 3) := by decide +kernel
theorem dX2_closure_43 : decode cX2_closure 43 = .ok (.iload_n 3, 1) := by decide +kernel
theorem dX2_closure_44 : decode cX2_closure 44 = .ok (.iconst 1, 1) := by decide +kernel
theorem dX2_closure_45 : decode cX2_closure 45 = .ok (.aload_n 0, 1) := by decide +kernel
theorem dX2_closure_46 : decode cX2_closure 46 = .ok (.getfield 43, 3) := by decide +kernel
theorem dX2_closure_49 : decode cX2_closure 49 = .ok (.iload 6, 2) := by decide +kernel
theorem dX2_closure_51 : decode cX2_closure 51 = .ok (.iaload, 1) := by decide +kernel
theorem dX2_closure_52 : decode cX2_closure 52 = .ok (.ishl, 1) := by decide +kernel
theorem dX2_closure_53 : decode cX2_closure 53 = .ok (.ior, 1) := by decide +kernel
theorem dX2_closure_54 : decode cX2_closure 54 = .ok (.istore_n 3, 1) := by decide +kernel
theorem dX2_closure_55 : decode cX2_closure 55 = .ok (.iinc 6 1, 3) := by decide +kernel
theorem dX2_closure_58 : decode cX2_closure 58 = .ok (.goto (-40), 3) := by decide +kernel
theorem dX2_closure_61 : decode cX2_closure 61 = .ok (.iload_n 3, 1) := by decide +kernel
theorem dX2_closure_62 : decode cX2_closure 62 = .ok (.iload 5, 2) := by decide +kernel
theorem dX2_closure_64 : decode cX2_closure 64 = .ok (.if_icmp .ne 6, 3) := by decide +kernel
theorem dX2_closure_67 : decode cX2_closure 67 = .ok (.goto 9, 3) := by decide +kernel
theorem dX2_closure_70 : decode cX2_closure 70 = .ok (.iinc 4 1, 3) := by decide +kernel
theorem dX2_closure_73 : decode cX2_closure 73 = .ok (.goto (-68), 3) := by decide +kernel
theorem dX2_closure_76 : decode cX2_closure 76 = .ok (.iload_n 3, 1) := by decide +kernel
theorem dX2_closure_77 : decode cX2_closure 77 = .ok (.ireturn, 1) := by decide +kernel
