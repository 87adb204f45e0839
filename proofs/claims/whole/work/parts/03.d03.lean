theorem dX9_served_0 : decode cX9_served 0 = .ok (.aload_n 0, 1) := by decide +kernel
theorem dX9_served_1 : decode cX9_served 1 = .ok (.getfield 10, 3) := by decide +kernel
theorem dX9_served_4 : decode cX9_served 4 = .ok (.iload_n 1, 1) := by decide +kernel
theorem dX9_served_5 : decode cX9_served 5 = .ok (.invokevirtual 94, 3) := by decide +kernel
theorem dX9_served_8 : decode cX9_served 8 = .ok (.astore 4, 2) := by decide +kernel
theorem dX9_served_10 : decode cX9_served 10 = .ok (.aload_n 0, 1) := by decide +kernel
theorem dX9_served_11 : decode cX9_served 11 = .ok (.getfield 10, 3) := by decide +kernel
theorem dX9_served_14 : decode cX9_served 14 = .ok (.iconst 2, 1) := by decide +kernel
theorem dX9_served_15 : decode cX9_served 15 = .ok (.iload_n 2, 1) := by decide +kernel
theorem dX9_served_16 : decode cX9_served 16 = .ok (.invokevirtual 102, 3) := by decide +kernel
theorem dX9_served_19 : decode cX9_served 19 = .ok (.astore 5, 2) := by decide +kernel
theorem dX9_served_21 : decode cX9_served 21 = .ok (.aload 4, 2) := by decide +kernel
theorem dX9_served_23 : decode cX9_served 23 = .ok (.ifnull 19, 3) := by decide +kernel
theorem dX9_served_26 : decode cX9_served 26 = .ok (.aload 5, 2) := by decide +kernel
theorem dX9_served_28 : decode cX9_served 28 = .ok (.ifnull 14, 3) := by decide +kernel
theorem dX9_served_31 : decode cX9_served 31 = .ok (.aload 4, 2) := by decide +kernel
theorem dX9_served_33 : decode cX9_served 33 = .ok (.aload 5, 2) := by decide +kernel
theorem dX9_served_35 : decode cX9_served 35 = .ok (.iconst 2, 1) := by decide +kernel
theorem dX9_served_36 : decode cX9_served 36 = .ok (.invokevirtual 158, 3) := by decide +kernel
theorem dX9_served_39 : decode cX9_served 39 = .ok (.ifCond .ne 5, 3) := by decide +kernel
theorem dX9_served_42 : decode cX9_served 42 = .ok (.iconst (-1), 1) := by decide +kernel
theorem dX9_served_43 : decode cX9_served 43 = .ok (.ireturn, 1) := by decide +kernel
theorem dX9_served_44 : decode cX9_served 44 = .ok (.iload_n 3, 1) := by decide +kernel
theorem dX9_served_45 : decode cX9_served 45 = .ok (.bipush (-2), 2) := by decide +kernel
theorem dX9_served_47 : decode cX9_served 47 = .ok (.if_icmp .ne 15, 3) := by decide +kernel
theorem dX9_served_50 : decode cX9_served 50 = .ok (.aload_n 0, 1) := by decide +kernel
theorem dX9_served_51 : decode cX9_served 51 = .ok (.getfield 37, 3) := by decide +kernel
theorem dX9_served_54 : decode cX9_served 54 = .ok (.aload 4, 2) := by decide +kernel
theorem dX9_served_56 : decode cX9_served 56 = .ok (.aload 5, 2) := by decide +kernel
theorem dX9_served_58 : decode cX9_served 58 = .ok (.invokevirtual 162, 3) := by decide +kernel
theorem dX9_served_61 : decode cX9_served 61 = .ok (.ireturn, 1) := by decide +kernel
theorem dX9_served_62 : decode cX9_served 62 = .ok (.iload_n 3, 1) := by decide +kernel
theorem dX9_served_63 : decode cX9_served 63 = .ok (.iconst (-1), 1) := by decide +kernel
theorem dX9_served_64 : decode cX9_served 64 = .ok (.if_icmp .eq 14, 3) := by decide +kernel
theorem dX9_served_67 : decode cX9_served 67 = .ok (.aload 5, 2) := by decide +kernel
theorem dX9_served_69 : decode cX9_served 69 = .ok (.iload_n 3, 1) := by decide +kernel
theorem dX9_served_70 : decode cX9_served 70 = .ok (.invokevirtual 140, 3) := by decide +kernel
theorem dX9_served_73 : decode cX9_served 73 = .ok (.ifCond .ne 5, 3) := by decide +kernel
theorem dX9_served_76 : decode cX9_served 76 = .ok (.iconst (-1), 1) := by decide +kernel
theorem dX9_served_77 : decode cX9_served 77 = .ok (.ireturn, 1) := by decide +kernel
theorem dX9_served_78 : decode cX9_served 78 = .ok (.aload_n 0, 1) := by decide +kernel
theorem dX9_served_79 : decode cX9_served 79 = .ok (.getfield 37, 3) := by decide +kernel
theorem dX9_served_82 : decode cX9_served 82 = .ok (.aload 4, 2) := by decide +kernel
theorem dX9_served_84 : decode cX9_served 84 = .ok (.aload 5, 2) := by decide +kernel
theorem dX9_served_86 : decode cX9_served 86 = .ok (.invokevirtual 166, 3) := by decide +kernel
theorem dX9_served_89 : decode cX9_served 89 = .ok (.istore 6, 2) := by decide +kernel
theorem dX9_served_91 : decode cX9_served 91 = .ok (.iload 6, 2) := by decide +kernel
theorem dX9_served_93 : decode cX9_served 93 = .ok (.iconst (-1), 1) := by decide +kernel
theorem dX9_served_94 : decode cX9_served 94 = .ok (.if_icmp .eq 8, 3) := by decide +kernel
theorem dX9_served_97 : decode cX9_served 97 = .ok (.iload_n 3, 1) := by decide +kernel
theorem dX9_served_98 : decode cX9_served 98 = .ok (.iconst (-1), 1) := by decide +kernel
theorem dX9_served_99 : decode cX9_served 99 = .ok (.if_icmp .ne 6, 3) := by decide +kernel
theorem dX9_served_102 : decode cX9_served 102 = .ok (.iload 6, 2) := by decide +kernel
theorem dX9_served_104 : decode cX9_served 104 = .ok (.ireturn, 1) := by decide +kernel
theorem dX9_served_105 : decode cX9_served 105 = .ok (.aload_n 0, 1) := by decide +kernel
theorem dX9_served_106 : decode cX9_served 106 = .ok (.getfield 37, 3) := by decide +kernel
theorem dX9_served_109 : decode cX9_served 109 = .ok (.aload 4, 2) := by decide +kernel
theorem dX9_served_111 : decode cX9_served 111 = .ok (.aload 5, 2) := by decide +kernel
theorem dX9_served_113 : decode cX9_served 113 = .ok (.iload 6, 2) := by decide +kernel
theorem dX9_served_115 : decode cX9_served 115 = .ok (.iload_n 3, 1) := by decide +kernel
theorem dX9_served_116 : decode cX9_served 116 = .ok (.invokevirtual 169, 3) := by decide +kernel
theorem dX9_served_119 : decode cX9_served 119 = .ok (.ireturn, 1) := by decide +kernel
theorem dX9_comes_0 : decode cX9_comes 0 = .ok (.aload_n 0, 1) := by decide +kernel
theorem dX9_comes_1 : decode cX9_comes 1 = .ok (.getfield 10, 3) := by decide +kernel
theorem dX9_comes_4 : decode cX9_comes 4 = .ok (.iload_n 1, 1) := by decide +kernel
theorem dX9_comes_5 : decode cX9_comes 5 = .ok (.invokevirtual 94, 3) := by decide +kernel
theorem dX9_comes_8 : decode cX9_comes 8 = .ok (.astore_n 3, 1) := by decide +kernel
theorem dX9_comes_9 : decode cX9_comes 9 = .ok (.aload_n 3, 1) := by decide +kernel
theorem dX9_comes_10 : decode cX9_comes 10 = .ok (.ifnull 11, 3) := by decide +kernel
theorem dX9_comes_13 : decode cX9_comes 13 = .ok (.aload_n 3, 1) := by decide +kernel
theorem dX9_comes_14 : decode cX9_comes 14 = .ok (.iload_n 2, 1) := by decide +kernel
theorem dX9_comes_15 : decode cX9_comes 15 = .ok (.invokevirtual 173, 3) := by decide +kernel
theorem dX9_comes_18 : decode cX9_comes 18 = .ok (.ifCond .ne 5, 3) := by decide +kernel
theorem dX9_comes_21 : decode cX9_comes 21 = .ok (.iconst (-1), 1) := by decide +kernel
theorem dX9_comes_22 : decode cX9_comes 22 = .ok (.ireturn, 1) := by decide +kernel
theorem dX9_comes_23 : decode cX9_comes 23 = .ok (.aload_n 3, 1) := by decide +kernel
theorem dX9_comes_24 : decode cX9_comes 24 = .ok (.iload_n 2, 1) := by decide +kernel
theorem dX9_comes_25 : decode cX9_comes 25 = .ok (.iconst (-1), 1) := by decide +kernel
theorem dX9_comes_26 : decode cX9_comes 26 = .ok (.invokevirtual 176, 3) := by decide +kernel
theorem dX9_comes_29 : decode cX9_comes 29 = .ok (.ireturn, 1) := by decide +kernel
theorem dX9_keep_0 : decode cX9_keep 0 = .ok (.aload_n 0, 1) := by decide +kernel
theorem dX9_keep_1 : decode cX9_keep 1 = .ok (.getfield 10, 3) := by decide +kernel
theorem dX9_keep_4 : decode cX9_keep 4 = .ok (.iload_n 1, 1) := by decide +kernel
theorem dX9_keep_5 : decode cX9_keep 5 = .ok (.invokevirtual 94, 3) := by decide +kernel
theorem dX9_keep_8 : decode cX9_keep 8 = .ok (.astore 4, 2) := by decide +kernel
theorem dX9_keep_10 : decode cX9_keep 10 = .ok (.aload 4, 2) := by decide +kernel
theorem dX9_keep_12 : decode cX9_keep 12 = .ok (.ifnull 12, 3) := by decide +kernel
theorem dX9_keep_15 : decode cX9_keep 15 = .ok (.aload 4, 2) := by decide +kernel
theorem dX9_keep_17 : decode cX9_keep 17 = .ok (.iload_n 2, 1) := by decide +kernel
theorem dX9_keep_18 : decode cX9_keep 18 = .ok (.invokevirtual 125, 3) := by decide +kernel
theorem dX9_keep_21 : decode cX9_keep 21 = .ok (.ifCond .ne 5, 3) := by decide +kernel
theorem dX9_keep_24 : decode cX9_keep 24 = .ok (.iconst (-1), 1) := by decide +kernel
theorem dX9_keep_25 : decode cX9_keep 25 = .ok (.ireturn, 1) := by decide +kernel
theorem dX9_keep_26 : decode cX9_keep 26 = .ok (.iload_n 3, 1) := by decide +kernel
theorem dX9_keep_27 : decode cX9_keep 27 = .ok (.ifCond .eq 12, 3) := by decide +kernel
theorem dX9_keep_30 : decode cX9_keep 30 = .ok (.aload 4, 2) := by decide +kernel
theorem dX9_keep_32 : decode cX9_keep 32 = .ok (.iload_n 2, 1) := by decide +kernel
theorem dX9_keep_33 : decode cX9_keep 33 = .ok (.invokevirtual 179, 3) := by decide +kernel
theorem dX9_keep_36 : decode cX9_keep 36 = .ok (.goto 9, 3) := by decide +kernel
theorem dX9_keep_39 : decode cX9_keep 39 = .ok (.aload 4, 2) := by decide +kernel
theorem dX9_keep_41 : decode cX9_keep 41 = .ok (.iload_n 2, 1) := by decide +kernel
theorem dX9_keep_42 : decode cX9_keep 42 = .ok (.invokevirtual 182, 3) := by decide +kernel
theorem dX9_keep_45 : decode cX9_keep 45 = .ok (.ireturn, 1) := by decide +kernel
theorem dX9_theft_0 : decode cX9_theft 0 = .ok (.aload_n 0, 1) := by decide +kernel
theorem dX9_theft_1 : decode cX9_theft 1 = .ok (.getfield 10, 3) := by decide +kernel
theorem dX9_theft_4 : decode cX9_theft 4 = .ok (.iload_n 1, 1) := by decide +kernel
theorem dX9_theft_5 : decode cX9_theft 5 = .ok (.invokevirtual 94, 3) := by decide +kernel
theorem dX9_theft_8 : decode cX9_theft 8 = .ok (.astore 4, 2) := by decide +kernel
theorem dX9_theft_10 : decode cX9_theft 10 = .ok (.aload 4, 2) := by decide +kernel
theorem dX9_theft_12 : decode cX9_theft 12 = .ok (.ifnull 13, 3) := by decide +kernel
theorem dX9_theft_15 : decode cX9_theft 15 = .ok (.iload_n 2, 1) := by decide +kernel
theorem dX9_theft_16 : decode cX9_theft 16 = .ok (.ifCond .lt 9, 3) := by decide +kernel
theorem dX9_theft_19 : decode cX9_theft 19 = .ok (.iload_n 2, 1) := by decide +kernel
theorem dX9_theft_20 : decode cX9_theft 20 = .ok (.bipush 8, 2) := by decide +kernel
theorem dX9_theft_22 : decode cX9_theft 22 = .ok (.if_icmp .le 5, 3) := by decide +kernel
theorem dX9_theft_25 : decode cX9_theft 25 = .ok (.iconst (-1), 1) := by decide +kernel
theorem dX9_theft_26 : decode cX9_theft 26 = .ok (.ireturn, 1) := by decide +kernel
theorem dX9_theft_27 : decode cX9_theft 27 = .ok (.aload_n 0, 1) := by decide +kernel
theorem dX9_theft_28 : decode cX9_theft 28 = .ok (.getfield 58, 3) := by decide +kernel
theorem dX9_theft_31 : decode cX9_theft 31 = .ok (.aload 4, 2) := by decide +kernel
theorem dX9_theft_33 : decode cX9_theft 33 = .ok (.invokevirtual 185, 3) := by decide +kernel
theorem dX9_theft_36 : decode cX9_theft 36 = .ok (.aload_n 0, 1) := by decide +kernel
theorem dX9_theft_37 : decode cX9_theft 37 = .ok (.getfield 58, 3) := by decide +kernel
theorem dX9_theft_40 : decode cX9_theft 40 = .ok (.aload 4, 2) := by decide +kernel
theorem dX9_theft_42 : decode cX9_theft 42 = .ok (.invokevirtual 188, 3) := by decide +kernel
theorem dX9_theft_45 : decode cX9_theft 45 = .ok (.iload_n 2, 1) := by decide +kernel
theorem dX9_theft_46 : decode cX9_theft 46 = .ok (.invokevirtual 192, 3) := by decide +kernel
theorem dX9_theft_49 : decode cX9_theft 49 = .ok (.istore 5, 2) := by decide +kernel
theorem dX9_theft_51 : decode cX9_theft 51 = .ok (.iload_n 3, 1) := by decide +kernel
theorem dX9_theft_52 : decode cX9_theft 52 = .ok (.ifCond .eq 8, 3) := by decide +kernel
theorem dX9_theft_55 : decode cX9_theft 55 = .ok (.iload 5, 2) := by decide +kernel
theorem dX9_theft_57 : decode cX9_theft 57 = .ok (.goto 12, 3) := by decide +kernel
theorem dX9_theft_60 : decode cX9_theft 60 = .ok (.aload_n 0, 1) := by decide +kernel
theorem dX9_theft_61 : decode cX9_theft 61 = .ok (.getfield 58, 3) := by decide +kernel
theorem dX9_theft_64 : decode cX9_theft 64 = .ok (.iload 5, 2) := by decide +kernel
theorem dX9_theft_66 : decode cX9_theft 66 = .ok (.invokevirtual 195, 3) := by decide +kernel
theorem dX9_theft_69 : decode cX9_theft 69 = .ok (.ireturn, 1) := by decide +kernel
theorem dX9_evenings_0 : decode cX9_evenings 0 = .ok (.aload_n 0, 1) := by decide +kernel
theorem dX9_evenings_1 : decode cX9_evenings 1 = .ok (.getfield 10, 3) := by decide +kernel
theorem dX9_evenings_4 : decode cX9_evenings 4 = .ok (.iload_n 1, 1) := by decide +kernel
theorem dX9_evenings_5 : decode cX9_evenings 5 = .ok (.invokevirtual 94, 3) := by decide +kernel
theorem dX9_evenings_8 : decode cX9_evenings 8 = .ok (.astore_n 3, 1) := by decide +kernel
theorem dX9_evenings_9 : decode cX9_evenings 9 = .ok (.aload_n 3, 1) := by decide +kernel
theorem dX9_evenings_10 : decode cX9_evenings 10 = .ok (.ifnull 11, 3) := by decide +kernel
theorem dX9_evenings_13 : decode cX9_evenings 13 = .ok (.aload_n 3, 1) := by decide +kernel
theorem dX9_evenings_14 : decode cX9_evenings 14 = .ok (.iload_n 2, 1) := by decide +kernel
theorem dX9_evenings_15 : decode cX9_evenings 15 = .ok (.invokevirtual 198, 3) := by decide +kernel
theorem dX9_evenings_18 : decode cX9_evenings 18 = .ok (.ifCond .ne 5, 3) := by decide +kernel
theorem dX9_evenings_21 : decode cX9_evenings 21 = .ok (.iconst (-1), 1) := by decide +kernel
theorem dX9_evenings_22 : decode cX9_evenings 22 = .ok (.ireturn, 1) := by decide +kernel
theorem dX9_evenings_23 : decode cX9_evenings 23 = .ok (.aload_n 0, 1) := by decide +kernel
theorem dX9_evenings_24 : decode cX9_evenings 24 = .ok (.getfield 44, 3) := by decide +kernel
theorem dX9_evenings_27 : decode cX9_evenings 27 = .ok (.aload_n 3, 1) := by decide +kernel
theorem dX9_evenings_28 : decode cX9_evenings 28 = .ok (.iload_n 2, 1) := by decide +kernel
theorem dX9_evenings_29 : decode cX9_evenings 29 = .ok (.invokevirtual 201, 3) := by decide +kernel
theorem dX9_evenings_32 : decode cX9_evenings 32 = .ok (.ireturn, 1) := by decide +kernel
theorem dX9_hidden_0 : decode cX9_hidden 0 = .ok (.aload_n 0, 1) := by decide +kernel
theorem dX9_hidden_1 : decode cX9_hidden 1 = .ok (.getfield 10, 3) := by decide +kernel
theorem dX9_hidden_4 : decode cX9_hidden 4 = .ok (.iload_n 1, 1) := by decide +kernel
theorem dX9_hidden_5 : decode cX9_hidden 5 = .ok (.invokevirtual 94, 3) := by decide +kernel
theorem dX9_hidden_8 : decode cX9_hidden 8 = .ok (.astore 5, 2) := by decide +kernel
theorem dX9_hidden_10 : decode cX9_hidden 10 = .ok (.aload 5, 2) := by decide +kernel
theorem dX9_hidden_12 : decode cX9_hidden 12 = .ok (.ifnull 25, 3) := by decide +kernel
theorem dX9_hidden_15 : decode cX9_hidden 15 = .ok (.aload 5, 2) := by decide +kernel
theorem dX9_hidden_17 : decode cX9_hidden 17 = .ok (.iload_n 2, 1) := by decide +kernel
theorem dX9_hidden_18 : decode cX9_hidden 18 = .ok (.invokevirtual 125, 3) := by decide +kernel
theorem dX9_hidden_21 : decode cX9_hidden 21 = .ok (.ifCond .eq 16, 3) := by decide +kernel
theorem dX9_hidden_24 : decode cX9_hidden 24 = .ok (.iload_n 3, 1) := by decide +kernel
theorem dX9_hidden_25 : decode cX9_hidden 25 = .ok (.ifCond .lt 12, 3) := by decide +kernel
theorem dX9_hidden_28 : decode cX9_hidden 28 = .ok (.iload_n 3, 1) := by decide +kernel
theorem dX9_hidden_29 : decode cX9_hidden 29 = .ok (.aload 5, 2) := by decide +kernel
theorem dX9_hidden_31 : decode cX9_hidden 31 = .ok (.getfield 115, 3) := by decide +kernel
theorem dX9_hidden_34 : decode cX9_hidden 34 = .ok (.if_icmp .le 7, 3) := by decide +kernel
theorem dX9_hidden_37 : decode cX9_hidden 37 = .ok (.ldc2_w 205, 3) := by decide +kernel
theorem dX9_hidden_40 : decode cX9_hidden 40 = .ok (.lreturn, 1) := by decide +kernel
theorem dX9_hidden_41 : decode cX9_hidden 41 = .ok (.aload 5, 2) := by decide +kernel
theorem dX9_hidden_43 : decode cX9_hidden 43 = .ok (.iload_n 2, 1) := by decide +kernel
theorem dX9_hidden_44 : decode cX9_hidden 44 = .ok (.iload_n 3, 1) := by decide +kernel
theorem dX9_hidden_45 : decode cX9_hidden 45 = .ok (.invokevirtual 207, 3) := by decide +kernel
theorem dX9_hidden_48 : decode cX9_hidden 48 = .ok (.i2l, 1) := by decide +kernel
theorem dX9_hidden_49 : decode cX9_hidden 49 = .ok (.aload 5, 2) := by decide +kernel
theorem dX9_hidden_51 : decode cX9_hidden 51 = .ok (.iload_n 3, 1) := by decide +kernel
theorem dX9_hidden_52 : decode cX9_hidden 52 = .ok (.invokevirtual 210, 3) := by decide +kernel
theorem dX9_hidden_55 : decode cX9_hidden 55 = .ok (.i2l, 1) := by decide +kernel
theorem dX9_hidden_56 : decode cX9_hidden 56 = .ok (.iload 4, 2) := by decide +kernel
theorem dX9_hidden_58 : decode cX9_hidden 58 = .ok (.invokestatic 213, 3) := by decide +kernel
theorem dX9_hidden_61 : decode cX9_hidden 61 = .ok (.lreturn, 1) := by decide +kernel
theorem dX9_heirs_0 : decode cX9_heirs 0 = .ok (.aload_n 0, 1) := by decide +kernel
theorem dX9_heirs_1 : decode cX9_heirs 1 = .ok (.getfield 10, 3) := by decide +kernel
theorem dX9_heirs_4 : decode cX9_heirs 4 = .ok (.iload_n 1, 1) := by decide +kernel
theorem dX9_heirs_5 : decode cX9_heirs 5 = .ok (.invokevirtual 94, 3) := by decide +kernel
theorem dX9_heirs_8 : decode cX9_heirs 8 = .ok (.astore_n 3, 1) := by decide +kernel
theorem dX9_heirs_9 : decode cX9_heirs 9 = .ok (.aload_n 3, 1) := by decide +kernel
theorem dX9_heirs_10 : decode cX9_heirs 10 = .ok (.ifnonnull 5, 3) := by decide +kernel
theorem dX9_heirs_13 : decode cX9_heirs 13 = .ok (.iconst (-1), 1) := by decide +kernel
theorem dX9_heirs_14 : decode cX9_heirs 14 = .ok (.ireturn, 1) := by decide +kernel
theorem dX9_heirs_15 : decode cX9_heirs 15 = .ok (.aload_n 3, 1) := by decide +kernel
theorem dX9_heirs_16 : decode cX9_heirs 16 = .ok (.invokevirtual 217, 3) := by decide +kernel
theorem dX9_heirs_19 : decode cX9_heirs 19 = .ok (.istore 4, 2) := by decide +kernel
theorem dX9_heirs_21 : decode cX9_heirs 21 = .ok (.iload_n 2, 1) := by decide +kernel
theorem dX9_heirs_22 : decode cX9_heirs 22 = .ok (.ifCond .eq 12, 3) := by decide +kernel
theorem dX9_heirs_25 : decode cX9_heirs 25 = .ok (.aload_n 3, 1) := by decide +kernel
theorem dX9_heirs_26 : decode cX9_heirs 26 = .ok (.iload 4, 2) := by decide +kernel
theorem dX9_heirs_28 : decode cX9_heirs 28 = .ok (.invokevirtual 220, 3) := by decide +kernel
theorem dX9_heirs_31 : decode cX9_heirs 31 = .ok (.goto 5, 3) := by decide +kernel
theorem dX9_heirs_34 : decode cX9_heirs 34 = .ok (.iload 4, 2) := by decide +kernel
theorem dX9_heirs_36 : decode cX9_heirs 36 = .ok (.ireturn, 1) := by decide +kernel
theorem dX9_fact_0 : decode cX9_fact 0 = .ok (.aload_n 0, 1) := by decide +kernel
theorem dX9_fact_1 : decode cX9_fact 1 = .ok (.getfield 10, 3) := by decide +kernel
theorem dX9_fact_4 : decode cX9_fact 4 = .ok (.iconst 3, 1) := by decide +kernel
theorem dX9_fact_5 : decode cX9_fact 5 = .ok (.iload_n 1, 1) := by decide +kernel
theorem dX9_fact_6 : decode cX9_fact 6 = .ok (.invokevirtual 102, 3) := by decide +kernel
theorem dX9_fact_9 : decode cX9_fact 9 = .ok (.iload_n 2, 1) := by decide +kernel
theorem dX9_fact_10 : decode cX9_fact 10 = .ok (.iload_n 3, 1) := by decide +kernel
theorem dX9_fact_11 : decode cX9_fact 11 = .ok (.iconst 2, 1) := by decide +kernel
theorem dX9_fact_12 : decode cX9_fact 12 = .ok (.invokestatic 154, 3) := by decide +kernel
theorem dX9_fact_15 : decode cX9_fact 15 = .ok (.ireturn, 1) := by decide +kernel
theorem dX9_fits_0 : decode cX9_fits 0 = .ok (.aload_n 0, 1) := by decide +kernel
theorem dX9_fits_1 : decode cX9_fits 1 = .ok (.getfield 10, 3) := by decide +kernel
theorem dX9_fits_4 : decode cX9_fits 4 = .ok (.iload_n 1, 1) := by decide +kernel
theorem dX9_fits_5 : decode cX9_fits 5 = .ok (.invokevirtual 94, 3) := by decide +kernel
theorem dX9_fits_8 : decode cX9_fits 8 = .ok (.astore 4, 2) := by decide +kernel
theorem dX9_fits_10 : decode cX9_fits 10 = .ok (.aload_n 0, 1) := by decide +kernel
theorem dX9_fits_11 : decode cX9_fits 11 = .ok (.getfield 10, 3) := by decide +kernel
theorem dX9_fits_14 : decode cX9_fits 14 = .ok (.iconst 3, 1) := by decide +kernel
theorem dX9_fits_15 : decode cX9_fits 15 = .ok (.iload_n 2, 1) := by decide +kernel
theorem dX9_fits_16 : decode cX9_fits 16 = .ok (.invokevirtual 102, 3) := by decide +kernel
theorem dX9_fits_19 : decode cX9_fits 19 = .ok (.astore 5, 2) := by decide +kernel
theorem dX9_fits_21 : decode cX9_fits 21 = .ok (.aload 4, 2) := by decide +kernel
theorem dX9_fits_23 : decode cX9_fits 23 = .ok (.ifnull 19, 3) := by decide +kernel
theorem dX9_fits_26 : decode cX9_fits 26 = .ok (.aload 5, 2) := by decide +kernel
theorem dX9_fits_28 : decode cX9_fits 28 = .ok (.ifnull 14, 3) := by decide +kernel
theorem dX9_fits_31 : decode cX9_fits 31 = .ok (.aload 4, 2) := by decide +kernel
theorem dX9_fits_33 : decode cX9_fits 33 = .ok (.aload 5, 2) := by decide +kernel
theorem dX9_fits_35 : decode cX9_fits 35 = .ok (.iconst 1, 1) := by decide +kernel
theorem dX9_fits_36 : decode cX9_fits 36 = .ok (.invokevirtual 158, 3) := by decide +kernel
theorem dX9_fits_39 : decode cX9_fits 39 = .ok (.ifCond .ne 6, 3) := by decide +kernel
theorem dX9_fits_42 : decode cX9_fits 42 = .ok (.bipush (-2), 2) := by decide +kernel
theorem dX9_fits_44 : decode cX9_fits 44 = .ok (.ireturn, 1) := by decide +kernel
theorem dX9_fits_45 : decode cX9_fits 45 = .ok (.aload_n 0, 1) := by decide +kernel
theorem dX9_fits_46 : decode cX9_fits 46 = .ok (.getfield 51, 3) := by decide +kernel
theorem dX9_fits_49 : decode cX9_fits 49 = .ok (.aload 4, 2) := by decide +kernel
theorem dX9_fits_51 : decode cX9_fits 51 = .ok (.aload 5, 2) := by decide +kernel
theorem dX9_fits_53 : decode cX9_fits 53 = .ok (.invokevirtual 223, 3) := by decide +kernel
theorem dX9_fits_56 : decode cX9_fits 56 = .ok (.iload_n 3, 1) := by decide +kernel
theorem dX9_fits_57 : decode cX9_fits 57 = .ok (.tableswitch 79 0 4 #[35, 43, 51, 59, 69], 35) := by decide +kernel
theorem dX9_fits_92 : decode cX9_fits 92 = .ok (.aload_n 0, 1) := by decide +kernel
theorem dX9_fits_93 : decode cX9_fits 93 = .ok (.getfield 51, 3) := by decide +kernel
theorem dX9_fits_96 : decode cX9_fits 96 = .ok (.getfield 227, 3) := by decide +kernel
theorem dX9_fits_99 : decode cX9_fits 99 = .ok (.ireturn, 1) := by decide +kernel
theorem dX9_fits_100 : decode cX9_fits 100 = .ok (.aload_n 0, 1) := by decide +kernel
theorem dX9_fits_101 : decode cX9_fits 101 = .ok (.getfield 51, 3) := by decide +kernel
theorem dX9_fits_104 : decode cX9_fits 104 = .ok (.invokevirtual 228, 3) := by decide +kernel
theorem dX9_fits_107 : decode cX9_fits 107 = .ok (.ireturn, 1) := by decide +kernel
theorem dX9_fits_108 : decode cX9_fits 108 = .ok (.aload_n 0, 1) := by decide +kernel
theorem dX9_fits_109 : decode cX9_fits 109 = .ok (.getfield 51, 3) := by decide +kernel
theorem dX9_fits_112 : decode cX9_fits 112 = .ok (.invokevirtual 231, 3) := by decide +kernel
theorem dX9_fits_115 : decode cX9_fits 115 = .ok (.ireturn, 1) := by decide +kernel
theorem dX9_fits_116 : decode cX9_fits 116 = .ok (.aload_n 0, 1) := by decide +kernel
theorem dX9_fits_117 : decode cX9_fits 117 = .ok (.getfield 51, 3) := by decide +kernel
theorem dX9_fits_120 : decode cX9_fits 120 = .ok (.aload 4, 2) := by decide +kernel
theorem dX9_fits_122 : decode cX9_fits 122 = .ok (.invokevirtual 234, 3) := by decide +kernel
theorem dX9_fits_125 : decode cX9_fits 125 = .ok (.ireturn, 1) := by decide +kernel
theorem dX9_fits_126 : decode cX9_fits 126 = .ok (.aload_n 0, 1) := by decide +kernel
theorem dX9_fits_127 : decode cX9_fits 127 = .ok (.getfield 51, 3) := by decide +kernel
theorem dX9_fits_130 : decode cX9_fits 130 = .ok (.aload 4, 2) := by decide +kernel
theorem dX9_fits_132 : decode cX9_fits 132 = .ok (.invokevirtual 238, 3) := by decide +kernel
theorem dX9_fits_135 : decode cX9_fits 135 = .ok (.ireturn, 1) := by decide +kernel
theorem dX9_fits_136 : decode cX9_fits 136 = .ok (.iload_n 3, 1) := by decide +kernel
theorem dX9_fits_137 : decode cX9_fits 137 = .ok (.bipush 10, 2) := by decide +kernel
theorem dX9_fits_139 : decode cX9_fits 139 = .ok (.if_icmp .lt 32, 3) := by decide +kernel
theorem dX9_fits_142 : decode cX9_fits 142 = .ok (.aload_n 0, 1) := by decide +kernel
theorem dX9_fits_143 : decode cX9_fits 143 = .ok (.getfield 51, 3) := by decide +kernel
theorem dX9_fits_146 : decode cX9_fits 146 = .ok (.iload_n 3, 1) := by decide +kernel
theorem dX9_fits_147 : decode cX9_fits 147 = .ok (.bipush 10, 2) := by decide +kernel
theorem dX9_fits_149 : decode cX9_fits 149 = .ok (.isub, 1) := by decide +kernel
theorem dX9_fits_150 : decode cX9_fits 150 = .ok (.invokevirtual 241, 3) := by decide +kernel
theorem dX9_fits_153 : decode cX9_fits 153 = .ok (.ifCond .eq 18, 3) := by decide +kernel
theorem dX9_fits_156 : decode cX9_fits 156 = .ok (.aload_n 0, 1) := by decide +kernel
theorem dX9_fits_157 : decode cX9_fits 157 = .ok (.getfield 51, 3) := by decide +kernel
theorem dX9_fits_160 : decode cX9_fits 160 = .ok (.getfield 244, 3) := by decide +kernel
theorem dX9_fits_163 : decode cX9_fits 163 = .ok (.iload_n 3, 1) := by decide +kernel
theorem dX9_fits_164 : decode cX9_fits 164 = .ok (.bipush 10, 2) := by decide +kernel
theorem dX9_fits_166 : decode cX9_fits 166 = .ok (.isub, 1) := by decide +kernel
theorem dX9_fits_167 : decode cX9_fits 167 = .ok (.iaload, 1) := by decide +kernel
theorem dX9_fits_168 : decode cX9_fits 168 = .ok (.goto 5, 3) := by decide +kernel
theorem dX9_fits_171 : decode cX9_fits 171 = .ok (.bipush (-2), 2) := by decide +kernel
theorem dX9_fits_173 : decode cX9_fits 173 = .ok (.ireturn, 1) := by decide +kernel
theorem dX9_drawn_0 : decode cX9_drawn 0 = .ok (.aload_n 0, 1) := by decide +kernel
theorem dX9_drawn_1 : decode cX9_drawn 1 = .ok (.getfield 10, 3) := by decide +kernel
theorem dX9_drawn_4 : decode cX9_drawn 4 = .ok (.iload_n 1, 1) := by decide +kernel
theorem dX9_drawn_5 : decode cX9_drawn 5 = .ok (.invokevirtual 94, 3) := by decide +kernel
theorem dX9_drawn_8 : decode cX9_drawn 8 = .ok (.astore 5, 2) := by decide +kernel
theorem dX9_drawn_10 : decode cX9_drawn 10 = .ok (.aload 5, 2) := by decide +kernel
theorem dX9_drawn_12 : decode cX9_drawn 12 = .ok (.ifnull 13, 3) := by decide +kernel
theorem dX9_drawn_15 : decode cX9_drawn 15 = .ok (.iload_n 3, 1) := by decide +kernel
theorem dX9_drawn_16 : decode cX9_drawn 16 = .ok (.ifCond .lt 9, 3) := by decide +kernel
theorem dX9_drawn_19 : decode cX9_drawn 19 = .ok (.iload_n 3, 1) := by decide +kernel
theorem dX9_drawn_20 : decode cX9_drawn 20 = .ok (.bipush 60, 2) := by decide +kernel
theorem dX9_drawn_22 : decode cX9_drawn 22 = .ok (.if_icmp .le 6, 3) := by decide +kernel
theorem dX9_drawn_25 : decode cX9_drawn 25 = .ok (.bipush (-2), 2) := by decide +kernel
theorem dX9_drawn_27 : decode cX9_drawn 27 = .ok (.ireturn, 1) := by decide +kernel
theorem dX9_drawn_28 : decode cX9_drawn 28 = .ok (.aload_n 0, 1) := by decide +kernel
theorem dX9_drawn_29 : decode cX9_drawn 29 = .ok (.getfield 30, 3) := by decide +kernel
theorem dX9_drawn_32 : decode cX9_drawn 32 = .ok (.aload 5, 2) := by decide +kernel
theorem dX9_drawn_34 : decode cX9_drawn 34 = .ok (.iload_n 2, 1) := by decide +kernel
theorem dX9_drawn_35 : decode cX9_drawn 35 = .ok (.iload_n 3, 1) := by decide +kernel
theorem dX9_drawn_36 : decode cX9_drawn 36 = .ok (.invokevirtual 247, 3) := by decide +kernel
theorem dX9_drawn_39 : decode cX9_drawn 39 = .ok (.aload_n 0, 1) := by decide +kernel
theorem dX9_drawn_40 : decode cX9_drawn 40 = .ok (.getfield 30, 3) := by decide +kernel
theorem dX9_drawn_43 : decode cX9_drawn 43 = .ok (.iload 4, 2) := by decide +kernel
theorem dX9_drawn_45 : decode cX9_drawn 45 = .ok (.invokevirtual 150, 3) := by decide +kernel
theorem dX9_drawn_48 : decode cX9_drawn 48 = .ok (.ireturn, 1) := by decide +kernel
theorem dX9_lasting_0 : decode cX9_lasting 0 = .ok (.aload_n 0, 1) := by decide +kernel
theorem dX9_lasting_1 : decode cX9_lasting 1 = .ok (.getfield 10, 3) := by decide +kernel
theorem dX9_lasting_4 : decode cX9_lasting 4 = .ok (.iload_n 1, 1) := by decide +kernel
theorem dX9_lasting_5 : decode cX9_lasting 5 = .ok (.invokevirtual 94, 3) := by decide +kernel
theorem dX9_lasting_8 : decode cX9_lasting 8 = .ok (.astore 5, 2) := by decide +kernel
theorem dX9_lasting_10 : decode cX9_lasting 10 = .ok (.aload 5, 2) := by decide +kernel
theorem dX9_lasting_12 : decode cX9_lasting 12 = .ok (.ifnull 30, 3) := by decide +kernel
theorem dX9_lasting_15 : decode cX9_lasting 15 = .ok (.aload 5, 2) := by decide +kernel
theorem dX9_lasting_17 : decode cX9_lasting 17 = .ok (.iload_n 2, 1) := by decide +kernel
theorem dX9_lasting_18 : decode cX9_lasting 18 = .ok (.invokevirtual 129, 3) := by decide +kernel
theorem dX9_lasting_21 : decode cX9_lasting 21 = .ok (.ifCond .eq 21, 3) := by decide +kernel
theorem dX9_lasting_24 : decode cX9_lasting 24 = .ok (.aload 5, 2) := by decide +kernel
theorem dX9_lasting_26 : decode cX9_lasting 26 = .ok (.getfield 115, 3) := by decide +kernel
theorem dX9_lasting_29 : decode cX9_lasting 29 = .ok (.ifCond .eq 13, 3) := by decide +kernel
theorem dX9_lasting_32 : decode cX9_lasting 32 = .ok (.iload_n 3, 1) := by decide +kernel
theorem dX9_lasting_33 : decode cX9_lasting 33 = .ok (.ifCond .lt 9, 3) := by decide +kernel
theorem dX9_lasting_36 : decode cX9_lasting 36 = .ok (.iload_n 3, 1) := by decide +kernel
theorem dX9_lasting_37 : decode cX9_lasting 37 = .ok (.bipush 60, 2) := by decide +kernel
theorem dX9_lasting_39 : decode cX9_lasting 39 = .ok (.if_icmp .le 5, 3) := by decide +kernel
theorem dX9_lasting_42 : decode cX9_lasting 42 = .ok (.iconst (-1), 1) := by decide +kernel
theorem dX9_lasting_43 : decode cX9_lasting 43 = .ok (.ireturn, 1) := by decide +kernel
theorem dX9_lasting_44 : decode cX9_lasting 44 = .ok (.aload 5, 2) := by decide +kernel
theorem dX9_lasting_46 : decode cX9_lasting 46 = .ok (.iload_n 2, 1) := by decide +kernel
theorem dX9_lasting_47 : decode cX9_lasting 47 = .ok (.iload_n 3, 1) := by decide +kernel
theorem dX9_lasting_48 : decode cX9_lasting 48 = .ok (.invokevirtual 251, 3) := by decide +kernel
theorem dX9_lasting_51 : decode cX9_lasting 51 = .ok (.istore 6, 2) := by decide +kernel
theorem dX9_lasting_53 : decode cX9_lasting 53 = .ok (.iload 4, 2) := by decide +kernel
theorem dX9_lasting_55 : decode cX9_lasting 55 = .ok (.ifCond .eq 15, 3) := by decide +kernel
theorem dX9_lasting_58 : decode cX9_lasting 58 = .ok (.aload 5, 2) := by decide +kernel
theorem dX9_lasting_60 : decode cX9_lasting 60 = .ok (.iload 6, 2) := by decide +kernel
theorem dX9_lasting_62 : decode cX9_lasting 62 = .ok (.iload_n 2, 1) := by decide +kernel
theorem dX9_lasting_63 : decode cX9_lasting 63 = .ok (.iload_n 3, 1) := by decide +kernel
theorem dX9_lasting_64 : decode cX9_lasting 64 = .ok (.invokevirtual 254, 3) := by decide +kernel
theorem dX9_lasting_67 : decode cX9_lasting 67 = .ok (.goto 5, 3) := by decide +kernel
theorem dX9_lasting_70 : decode cX9_lasting 70 = .ok (.iload 6, 2) := by decide +kernel
theorem dX9_lasting_72 : decode cX9_lasting 72 = .ok (.ireturn, 1) := by decide +kernel
theorem dX9_lit_0 : decode cX9_lit 0 = .ok (.aload_n 0, 1) := by decide +kernel
theorem dX9_lit_1 : decode cX9_lit 1 = .ok (.getfield 10, 3) := by decide +kernel
theorem dX9_lit_4 : decode cX9_lit 4 = .ok (.iload_n 1, 1) := by decide +kernel
theorem dX9_lit_5 : decode cX9_lit 5 = .ok (.invokevirtual 94, 3) := by decide +kernel
theorem dX9_lit_8 : decode cX9_lit 8 = .ok (.astore_n 3, 1) := by decide +kernel
theorem dX9_lit_9 : decode cX9_lit 9 = .ok (.aload_n 3, 1) := by decide +kernel
theorem dX9_lit_10 : decode cX9_lit 10 = .ok (.ifnull 14, 3) := by decide +kernel
theorem dX9_lit_13 : decode cX9_lit 13 = .ok (.iload_n 2, 1) := by decide +kernel
theorem dX9_lit_14 : decode cX9_lit 14 = .ok (.iconst 1, 1) := by decide +kernel
theorem dX9_lit_15 : decode cX9_lit 15 = .ok (.if_icmp .lt 9, 3) := by decide +kernel
theorem dX9_lit_18 : decode cX9_lit 18 = .ok (.iload_n 2, 1) := by decide +kernel
theorem dX9_lit_19 : decode cX9_lit 19 = .ok (.bipush 60, 2) := by decide +kernel
theorem dX9_lit_21 : decode cX9_lit 21 = .ok (.if_icmp .le 5, 3) := by decide +kernel
theorem dX9_lit_24 : decode cX9_lit 24 = .ok (.iconst (-1), 1) := by decide +kernel
theorem dX9_lit_25 : decode cX9_lit 25 = .ok (.ireturn, 1) := by decide +kernel
theorem dX9_lit_26 : decode cX9_lit 26 = .ok (.iconst 0, 1) := by decide +kernel
theorem dX9_lit_27 : decode cX9_lit 27 = .ok (.istore 4, 2) := by decide +kernel
theorem dX9_lit_29 : decode cX9_lit 29 = .ok (.iconst 0, 1) := by decide +kernel
theorem dX9_lit_30 : decode cX9_lit 30 = .ok (.istore 5, 2) := by decide +kernel
theorem dX9_lit_32 : decode cX9_lit 32 = .ok (.iload 5, 2) := by decide +kernel
theorem dX9_lit_34 : decode cX9_lit 34 = .ok (.aload_n 3, 1) := by decide +kernel
theorem dX9_lit_35 : decode cX9_lit 35 = .ok (.getfield 115, 3) := by decide +kernel
theorem dX9_lit_38 : decode cX9_lit 38 = .ok (.if_icmp .ge 21, 3) := by decide +kernel
theorem dX9_lit_41 : decode cX9_lit 41 = .ok (.iload 4, 2) := by decide +kernel
theorem dX9_lit_43 : decode cX9_lit 43 = .ok (.aload_n 3, 1) := by decide +kernel
theorem dX9_lit_44 : decode cX9_lit 44 = .ok (.iload 5, 2) := by decide +kernel
theorem dX9_lit_46 : decode cX9_lit 46 = .ok (.iload_n 2, 1) := by decide +kernel
theorem dX9_lit_47 : decode cX9_lit 47 = .ok (.invokevirtual 258, 3) := by decide +kernel
theorem dX9_lit_50 : decode cX9_lit 50 = .ok (.iadd, 1) := by decide +kernel
theorem dX9_lit_51 : decode cX9_lit 51 = .ok (.istore 4, 2) := by decide +kernel
theorem dX9_lit_53 : decode cX9_lit 53 = .ok (.iinc 5 1, 3) := by decide +kernel
theorem dX9_lit_56 : decode cX9_lit 56 = .ok (.goto (-24), 3) := by decide +kernel
theorem dX9_lit_59 : decode cX9_lit 59 = .ok (.iload 4, 2) := by decide +kernel
theorem dX9_lit_61 : decode cX9_lit 61 = .ok (.ireturn, 1) := by decide +kernel
theorem dX9_dusky_0 : decode cX9_dusky 0 = .ok (.aload_n 0, 1) := by decide +kernel
theorem dX9_dusky_1 : decode cX9_dusky 1 = .ok (.getfield 10, 3) := by decide +kernel
theorem dX9_dusky_4 : decode cX9_dusky 4 = .ok (.iload_n 1, 1) := by decide +kernel
theorem dX9_dusky_5 : decode cX9_dusky 5 = .ok (.invokevirtual 94, 3) := by decide +kernel
theorem dX9_dusky_8 : decode cX9_dusky 8 = .ok (.astore 4, 2) := by decide +kernel
theorem dX9_dusky_10 : decode cX9_dusky 10 = .ok (.aload 4, 2) := by decide +kernel
theorem dX9_dusky_12 : decode cX9_dusky 12 = .ok (.ifnull 21, 3) := by decide +kernel
theorem dX9_dusky_15 : decode cX9_dusky 15 = .ok (.aload 4, 2) := by decide +kernel
theorem dX9_dusky_17 : decode cX9_dusky 17 = .ok (.iload_n 2, 1) := by decide +kernel
theorem dX9_dusky_18 : decode cX9_dusky 18 = .ok (.invokevirtual 125, 3) := by decide +kernel
theorem dX9_dusky_21 : decode cX9_dusky 21 = .ok (.ifCond .eq 12, 3) := by decide +kernel
theorem dX9_dusky_24 : decode cX9_dusky 24 = .ok (.aload 4, 2) := by decide +kernel
theorem dX9_dusky_26 : decode cX9_dusky 26 = .ok (.getfield 110, 3) := by decide +kernel
theorem dX9_dusky_29 : decode cX9_dusky 29 = .ok (.iconst 2, 1) := by decide +kernel
theorem dX9_dusky_30 : decode cX9_dusky 30 = .ok (.if_icmp .ge 5, 3) := by decide +kernel
theorem dX9_dusky_33 : decode cX9_dusky 33 = .ok (.iconst (-1), 1) := by decide +kernel
theorem dX9_dusky_34 : decode cX9_dusky 34 = .ok (.ireturn, 1) := by decide +kernel
theorem dX9_dusky_35 : decode cX9_dusky 35 = .ok (.aload 4, 2) := by decide +kernel
theorem dX9_dusky_37 : decode cX9_dusky 37 = .ok (.iload_n 2, 1) := by decide +kernel
theorem dX9_dusky_38 : decode cX9_dusky 38 = .ok (.invokevirtual 261, 3) := by decide +kernel
theorem dX9_dusky_41 : decode cX9_dusky 41 = .ok (.istore 5, 2) := by decide +kernel
theorem dX9_dusky_43 : decode cX9_dusky 43 = .ok (.iload_n 3, 1) := by decide +kernel
theorem dX9_dusky_44 : decode cX9_dusky 44 = .ok (.ifCond .eq 22, 3) := by decide +kernel
theorem dX9_dusky_47 : decode cX9_dusky 47 = .ok (.aload 4, 2) := by decide +kernel
theorem dX9_dusky_49 : decode cX9_dusky 49 = .ok (.iload_n 2, 1) := by decide +kernel
theorem dX9_dusky_50 : decode cX9_dusky 50 = .ok (.iload 5, 2) := by decide +kernel
theorem dX9_dusky_52 : decode cX9_dusky 52 = .ok (.bipush 10, 2) := by decide +kernel
theorem dX9_dusky_54 : decode cX9_dusky 54 = .ok (.idiv, 1) := by decide +kernel
theorem dX9_dusky_55 : decode cX9_dusky 55 = .ok (.iload 5, 2) := by decide +kernel
theorem dX9_dusky_57 : decode cX9_dusky 57 = .ok (.bipush 10, 2) := by decide +kernel
theorem dX9_dusky_59 : decode cX9_dusky 59 = .ok (.irem, 1) := by decide +kernel
theorem dX9_dusky_60 : decode cX9_dusky 60 = .ok (.invokevirtual 264, 3) := by decide +kernel
theorem dX9_dusky_63 : decode cX9_dusky 63 = .ok (.goto 5, 3) := by decide +kernel
theorem dX9_dusky_66 : decode cX9_dusky 66 = .ok (.iload 5, 2) := by decide +kernel
theorem dX9_dusky_68 : decode cX9_dusky 68 = .ok (.ireturn, 1) := by decide +kernel
theorem dX9_fitter_0 : decode cX9_fitter 0 = .ok (.aload_n 0, 1) := by decide +kernel
theorem dX9_fitter_1 : decode cX9_fitter 1 = .ok (.getfield 10, 3) := by decide +kernel
theorem dX9_fitter_4 : decode cX9_fitter 4 = .ok (.iload_n 1, 1) := by decide +kernel
theorem dX9_fitter_5 : decode cX9_fitter 5 = .ok (.invokevirtual 94, 3) := by decide +kernel
theorem dX9_fitter_8 : decode cX9_fitter 8 = .ok (.astore_n 3, 1) := by decide +kernel
theorem dX9_fitter_9 : decode cX9_fitter 9 = .ok (.aload_n 3, 1) := by decide +kernel
theorem dX9_fitter_10 : decode cX9_fitter 10 = .ok (.ifnull 10, 3) := by decide +kernel
theorem dX9_fitter_13 : decode cX9_fitter 13 = .ok (.aload_n 3, 1) := by decide +kernel
theorem dX9_fitter_14 : decode cX9_fitter 14 = .ok (.getfield 110, 3) := by decide +kernel
theorem dX9_fitter_17 : decode cX9_fitter 17 = .ok (.ifCond .ne 5, 3) := by decide +kernel
theorem dX9_fitter_20 : decode cX9_fitter 20 = .ok (.iconst (-1), 1) := by decide +kernel
theorem dX9_fitter_21 : decode cX9_fitter 21 = .ok (.ireturn, 1) := by decide +kernel
theorem dX9_fitter_22 : decode cX9_fitter 22 = .ok (.aload_n 3, 1) := by decide +kernel
theorem dX9_fitter_23 : decode cX9_fitter 23 = .ok (.invokevirtual 267, 3) := by decide +kernel
theorem dX9_fitter_26 : decode cX9_fitter 26 = .ok (.istore 4, 2) := by decide +kernel
theorem dX9_fitter_28 : decode cX9_fitter 28 = .ok (.iload_n 2, 1) := by decide +kernel
theorem dX9_fitter_29 : decode cX9_fitter 29 = .ok (.ifCond .eq 20, 3) := by decide +kernel
theorem dX9_fitter_32 : decode cX9_fitter 32 = .ok (.aload_n 3, 1) := by decide +kernel
theorem dX9_fitter_33 : decode cX9_fitter 33 = .ok (.iload 4, 2) := by decide +kernel
theorem dX9_fitter_35 : decode cX9_fitter 35 = .ok (.bipush 10, 2) := by decide +kernel
theorem dX9_fitter_37 : decode cX9_fitter 37 = .ok (.idiv, 1) := by decide +kernel
theorem dX9_fitter_38 : decode cX9_fitter 38 = .ok (.iload 4, 2) := by decide +kernel
theorem dX9_fitter_40 : decode cX9_fitter 40 = .ok (.bipush 10, 2) := by decide +kernel
theorem dX9_fitter_42 : decode cX9_fitter 42 = .ok (.irem, 1) := by decide +kernel
theorem dX9_fitter_43 : decode cX9_fitter 43 = .ok (.invokevirtual 270, 3) := by decide +kernel
theorem dX9_fitter_46 : decode cX9_fitter 46 = .ok (.goto 5, 3) := by decide +kernel
theorem dX9_fitter_49 : decode cX9_fitter 49 = .ok (.iload 4, 2) := by decide +kernel
theorem dX9_fitter_51 : decode cX9_fitter 51 = .ok (.ireturn, 1) := by decide +kernel
theorem dX9_unlike_0 : decode cX9_unlike 0 = .ok (.aload_n 0, 1) := by decide +kernel
theorem dX9_unlike_1 : decode cX9_unlike 1 = .ok (.getfield 10, 3) := by decide +kernel
theorem dX9_unlike_4 : decode cX9_unlike 4 = .ok (.iload_n 1, 1) := by decide +kernel
theorem dX9_unlike_5 : decode cX9_unlike 5 = .ok (.invokevirtual 94, 3) := by decide +kernel
theorem dX9_unlike_8 : decode cX9_unlike 8 = .ok (.astore_n 3, 1) := by decide +kernel
theorem dX9_unlike_9 : decode cX9_unlike 9 = .ok (.aload_n 0, 1) := by decide +kernel
theorem dX9_unlike_10 : decode cX9_unlike 10 = .ok (.getfield 10, 3) := by decide +kernel
theorem dX9_unlike_13 : decode cX9_unlike 13 = .ok (.iload_n 2, 1) := by decide +kernel
theorem dX9_unlike_14 : decode cX9_unlike 14 = .ok (.invokevirtual 94, 3) := by decide +kernel
theorem dX9_unlike_17 : decode cX9_unlike 17 = .ok (.astore 4, 2) := by decide +kernel
theorem dX9_unlike_19 : decode cX9_unlike 19 = .ok (.aload_n 3, 1) := by decide +kernel
theorem dX9_unlike_20 : decode cX9_unlike 20 = .ok (.ifnull 8, 3) := by decide +kernel
theorem dX9_unlike_23 : decode cX9_unlike 23 = .ok (.aload 4, 2) := by decide +kernel
theorem dX9_unlike_25 : decode cX9_unlike 25 = .ok (.ifnonnull 5, 3) := by decide +kernel
theorem dX9_unlike_28 : decode cX9_unlike 28 = .ok (.iconst (-1), 1) := by decide +kernel
theorem dX9_unlike_29 : decode cX9_unlike 29 = .ok (.ireturn, 1) := by decide +kernel
theorem dX9_unlike_30 : decode cX9_unlike 30 = .ok (.aload_n 3, 1) := by decide +kernel
theorem dX9_unlike_31 : decode cX9_unlike 31 = .ok (.getfield 110, 3) := by decide +kernel
theorem dX9_unlike_34 : decode cX9_unlike 34 = .ok (.aload 4, 2) := by decide +kernel
theorem dX9_unlike_36 : decode cX9_unlike 36 = .ok (.getfield 110, 3) := by decide +kernel
theorem dX9_unlike_39 : decode cX9_unlike 39 = .ok (.invokestatic 273, 3) := by decide +kernel
theorem dX9_unlike_42 : decode cX9_unlike 42 = .ok (.istore 5, 2) := by decide +kernel
theorem dX9_unlike_44 : decode cX9_unlike 44 = .ok (.aload_n 3, 1) := by decide +kernel
theorem dX9_unlike_45 : decode cX9_unlike 45 = .ok (.getfield 115, 3) := by decide +kernel
theorem dX9_unlike_48 : decode cX9_unlike 48 = .ok (.aload 4, 2) := by decide +kernel
theorem dX9_unlike_50 : decode cX9_unlike 50 = .ok (.getfield 115, 3) := by decide +kernel
theorem dX9_unlike_53 : decode cX9_unlike 53 = .ok (.invokestatic 273, 3) := by decide +kernel
theorem dX9_unlike_56 : decode cX9_unlike 56 = .ok (.istore 6, 2) := by decide +kernel
theorem dX9_unlike_58 : decode cX9_unlike 58 = .ok (.iconst 0, 1) := by decide +kernel
theorem dX9_unlike_59 : decode cX9_unlike 59 = .ok (.istore 7, 2) := by decide +kernel
theorem dX9_unlike_61 : decode cX9_unlike 61 = .ok (.iconst 0, 1) := by decide +kernel
theorem dX9_unlike_62 : decode cX9_unlike 62 = .ok (.istore 8, 2) := by decide +kernel
theorem dX9_unlike_64 : decode cX9_unlike 64 = .ok (.iload 8, 2) := by decide +kernel
theorem dX9_unlike_66 : decode cX9_unlike 66 = .ok (.iload 6, 2) := by decide +kernel
theorem dX9_unlike_68 : decode cX9_unlike 68 = .ok (.if_icmp .ge 55, 3) := by decide +kernel
theorem dX9_unlike_71 : decode cX9_unlike 71 = .ok (.iconst 0, 1) := by decide +kernel
theorem dX9_unlike_72 : decode cX9_unlike 72 = .ok (.istore 9, 2) := by decide +kernel
theorem dX9_unlike_74 : decode cX9_unlike 74 = .ok (.iload 9, 2) := by decide +kernel
theorem dX9_unlike_76 : decode cX9_unlike 76 = .ok (.iload 5, 2) := by decide +kernel
theorem dX9_unlike_78 : decode cX9_unlike 78 = .ok (.if_icmp .ge 39, 3) := by decide +kernel
theorem dX9_unlike_81 : decode cX9_unlike 81 = .ok (.iload 7, 2) := by decide +kernel
theorem dX9_unlike_83 : decode cX9_unlike 83 = .ok (.aload_n 3, 1) := by decide +kernel
theorem dX9_unlike_84 : decode cX9_unlike 84 = .ok (.iload 8, 2) := by decide +kernel
theorem dX9_unlike_86 : decode cX9_unlike 86 = .ok (.iload 9, 2) := by decide +kernel
theorem dX9_unlike_88 : decode cX9_unlike 88 = .ok (.invokevirtual 132, 3) := by decide +kernel
theorem dX9_unlike_91 : decode cX9_unlike 91 = .ok (.aload 4, 2) := by decide +kernel
theorem dX9_unlike_93 : decode cX9_unlike 93 = .ok (.iload 8, 2) := by decide +kernel
theorem dX9_unlike_95 : decode cX9_unlike 95 = .ok (.iload 9, 2) := by decide +kernel
theorem dX9_unlike_97 : decode cX9_unlike 97 = .ok (.invokevirtual 132, 3) := by decide +kernel
theorem dX9_unlike_100 : decode cX9_unlike 100 = .ok (.if_icmp .ne 7, 3) := by decide +kernel
theorem dX9_unlike_103 : decode cX9_unlike 103 = .ok (.iconst 0, 1) := by decide +kernel
theorem dX9_unlike_104 : decode cX9_unlike 104 = .ok (.goto 4, 3) := by decide +kernel
theorem dX9_unlike_107 : decode cX9_unlike 107 = .ok (.iconst 1, 1) := by decide +kernel
theorem dX9_unlike_108 : decode cX9_unlike 108 = .ok (.iadd, 1) := by decide +kernel
theorem dX9_unlike_109 : decode cX9_unlike 109 = .ok (.istore 7, 2) := by decide +kernel
theorem dX9_unlike_111 : decode cX9_unlike 111 = .ok (.iinc 9 1, 3) := by decide +kernel
theorem dX9_unlike_114 : decode cX9_unlike 114 = .ok (.goto (-40), 3) := by decide +kernel
theorem dX9_unlike_117 : decode cX9_unlike 117 = .ok (.iinc 8 1, 3) := by decide +kernel
theorem dX9_unlike_120 : decode cX9_unlike 120 = .ok (.goto (-56), 3) := by decide +kernel
theorem dX9_unlike_123 : decode cX9_unlike 123 = .ok (.iload 7, 2) := by decide +kernel
theorem dX9_unlike_125 : decode cX9_unlike 125 = .ok (.ireturn, 1) := by decide +kernel
theorem dX9_spread_0 : decode cX9_spread 0 = .ok (.aload_n 0, 1) := by decide +kernel
theorem dX9_spread_1 : decode cX9_spread 1 = .ok (.getfield 10, 3) := by decide +kernel
theorem dX9_spread_4 : decode cX9_spread 4 = .ok (.iload_n 1, 1) := by decide +kernel
theorem dX9_spread_5 : decode cX9_spread 5 = .ok (.invokevirtual 94, 3) := by decide +kernel
theorem dX9_spread_8 : decode cX9_spread 8 = .ok (.astore_n 3, 1) := by decide +kernel
theorem dX9_spread_9 : decode cX9_spread 9 = .ok (.aload_n 3, 1) := by decide +kernel
theorem dX9_spread_10 : decode cX9_spread 10 = .ok (.ifnonnull 5, 3) := by decide +kernel
theorem dX9_spread_13 : decode cX9_spread 13 = .ok (.iconst (-1), 1) := by decide +kernel
theorem dX9_spread_14 : decode cX9_spread 14 = .ok (.ireturn, 1) := by decide +kernel
theorem dX9_spread_15 : decode cX9_spread 15 = .ok (.iload_n 2, 1) := by decide +kernel
theorem dX9_spread_16 : decode cX9_spread 16 = .ok (.tableswitch 49 0 2 #[28, 37, 43], 28) := by decide +kernel
theorem dX9_spread_44 : decode cX9_spread 44 = .ok (.aload_n 3, 1) := by decide +kernel
theorem dX9_spread_45 : decode cX9_spread 45 = .ok (.aload_n 3, 1) := by decide +kernel
theorem dX9_spread_46 : decode cX9_spread 46 = .ok (.getfield 110, 3) := by decide +kernel
theorem dX9_spread_49 : decode cX9_spread 49 = .ok (.invokevirtual 278, 3) := by decide +kernel
theorem dX9_spread_52 : decode cX9_spread 52 = .ok (.ireturn, 1) := by decide +kernel
theorem dX9_spread_53 : decode cX9_spread 53 = .ok (.aload_n 3, 1) := by decide +kernel
theorem dX9_spread_54 : decode cX9_spread 54 = .ok (.iconst 0, 1) := by decide +kernel
theorem dX9_spread_55 : decode cX9_spread 55 = .ok (.invokevirtual 278, 3) := by decide +kernel
theorem dX9_spread_58 : decode cX9_spread 58 = .ok (.ireturn, 1) := by decide +kernel
theorem dX9_spread_59 : decode cX9_spread 59 = .ok (.aload_n 3, 1) := by decide +kernel
theorem dX9_spread_60 : decode cX9_spread 60 = .ok (.iconst 1, 1) := by decide +kernel
theorem dX9_spread_61 : decode cX9_spread 61 = .ok (.invokevirtual 278, 3) := by decide +kernel
theorem dX9_spread_64 : decode cX9_spread 64 = .ok (.ireturn, 1) := by decide +kernel
theorem dX9_spread_65 : decode cX9_spread 65 = .ok (.iconst (-1), 1) := by decide +kernel
theorem dX9_spread_66 : decode cX9_spread 66 = .ok (.ireturn, 1) := by decide +kernel
theorem dX9_depth_0 : decode cX9_depth 0 = .ok (.aload_n 0, 1) := by decide +kernel
theorem dX9_depth_1 : decode cX9_depth 1 = .ok (.getfield 10, 3) := by decide +kernel
theorem dX9_depth_4 : decode cX9_depth 4 = .ok (.iload_n 1, 1) := by decide +kernel
theorem dX9_depth_5 : decode cX9_depth 5 = .ok (.invokevirtual 94, 3) := by decide +kernel
theorem dX9_depth_8 : decode cX9_depth 8 = .ok (.astore 4, 2) := by decide +kernel
theorem dX9_depth_10 : decode cX9_depth 10 = .ok (.aload 4, 2) := by decide +kernel
theorem dX9_depth_12 : decode cX9_depth 12 = .ok (.ifnull 21, 3) := by decide +kernel
theorem dX9_depth_15 : decode cX9_depth 15 = .ok (.aload 4, 2) := by decide +kernel
theorem dX9_depth_17 : decode cX9_depth 17 = .ok (.iload_n 2, 1) := by decide +kernel
theorem dX9_depth_18 : decode cX9_depth 18 = .ok (.invokevirtual 173, 3) := by decide +kernel
theorem dX9_depth_21 : decode cX9_depth 21 = .ok (.ifCond .eq 12, 3) := by decide +kernel
theorem dX9_depth_24 : decode cX9_depth 24 = .ok (.aload 4, 2) := by decide +kernel
theorem dX9_depth_26 : decode cX9_depth 26 = .ok (.iload_n 3, 1) := by decide +kernel
theorem dX9_depth_27 : decode cX9_depth 27 = .ok (.invokevirtual 125, 3) := by decide +kernel
theorem dX9_depth_30 : decode cX9_depth 30 = .ok (.ifCond .ne 5, 3) := by decide +kernel
theorem dX9_depth_33 : decode cX9_depth 33 = .ok (.iconst (-1), 1) := by decide +kernel
theorem dX9_depth_34 : decode cX9_depth 34 = .ok (.ireturn, 1) := by decide +kernel
theorem dX9_depth_35 : decode cX9_depth 35 = .ok (.aload 4, 2) := by decide +kernel
theorem dX9_depth_37 : decode cX9_depth 37 = .ok (.iload_n 2, 1) := by decide +kernel
theorem dX9_depth_38 : decode cX9_depth 38 = .ok (.iload_n 3, 1) := by decide +kernel
theorem dX9_depth_39 : decode cX9_depth 39 = .ok (.invokevirtual 281, 3) := by decide +kernel
theorem dX9_depth_42 : decode cX9_depth 42 = .ok (.ireturn, 1) := by decide +kernel
theorem dX9_spare_0 : decode cX9_spare 0 = .ok (.aload_n 0, 1) := by decide +kernel
theorem dX9_spare_1 : decode cX9_spare 1 = .ok (.getfield 10, 3) := by decide +kernel
theorem dX9_spare_4 : decode cX9_spare 4 = .ok (.iload_n 1, 1) := by decide +kernel
theorem dX9_spare_5 : decode cX9_spare 5 = .ok (.invokevirtual 94, 3) := by decide +kernel
theorem dX9_spare_8 : decode cX9_spare 8 = .ok (.astore_n 2, 1) := by decide +kernel
theorem dX9_spare_9 : decode cX9_spare 9 = .ok (.aload_n 2, 1) := by decide +kernel
theorem dX9_spare_10 : decode cX9_spare 10 = .ok (.ifnonnull 7, 3) := by decide +kernel
theorem dX9_spare_13 : decode cX9_spare 13 = .ok (.iconst (-1), 1) := by decide +kernel
theorem dX9_spare_14 : decode cX9_spare 14 = .ok (.goto 7, 3) := by decide +kernel
theorem dX9_spare_17 : decode cX9_spare 17 = .ok (.aload_n 2, 1) := by decide +kernel
theorem dX9_spare_18 : decode cX9_spare 18 = .ok (.invokevirtual 284, 3) := by decide +kernel
theorem dX9_spare_21 : decode cX9_spare 21 = .ok (.ireturn, 1) := by decide +kernel
theorem dX9_guarded_0 : decode cX9_guarded 0 = .ok (.aload_n 0, 1) := by decide +kernel
theorem dX9_guarded_1 : decode cX9_guarded 1 = .ok (.getfield 10, 3) := by decide +kernel
theorem dX9_guarded_4 : decode cX9_guarded 4 = .ok (.iload_n 1, 1) := by decide +kernel
theorem dX9_guarded_5 : decode cX9_guarded 5 = .ok (.invokevirtual 94, 3) := by decide +kernel
theorem dX9_guarded_8 : decode cX9_guarded 8 = .ok (.astore 5, 2) := by decide +kernel
theorem dX9_guarded_10 : decode cX9_guarded 10 = .ok (.aload 5, 2) := by decide +kernel
theorem dX9_guarded_12 : decode cX9_guarded 12 = .ok (.ifnull 23, 3) := by decide +kernel
theorem dX9_guarded_15 : decode cX9_guarded 15 = .ok (.iload_n 2, 1) := by decide +kernel
theorem dX9_guarded_16 : decode cX9_guarded 16 = .ok (.ifCond .lt 19, 3) := by decide +kernel
theorem dX9_guarded_19 : decode cX9_guarded 19 = .ok (.iload_n 2, 1) := by decide +kernel
theorem dX9_guarded_20 : decode cX9_guarded 20 = .ok (.bipush 8, 2) := by decide +kernel
theorem dX9_guarded_22 : decode cX9_guarded 22 = .ok (.if_icmp .gt 13, 3) := by decide +kernel
theorem dX9_guarded_25 : decode cX9_guarded 25 = .ok (.iload_n 3, 1) := by decide +kernel
theorem dX9_guarded_26 : decode cX9_guarded 26 = .ok (.ifCond .lt 9, 3) := by decide +kernel
theorem dX9_guarded_29 : decode cX9_guarded 29 = .ok (.iload_n 3, 1) := by decide +kernel
theorem dX9_guarded_30 : decode cX9_guarded 30 = .ok (.bipush 8, 2) := by decide +kernel
theorem dX9_guarded_32 : decode cX9_guarded 32 = .ok (.if_icmp .le 5, 3) := by decide +kernel
theorem dX9_guarded_35 : decode cX9_guarded 35 = .ok (.iconst (-1), 1) := by decide +kernel
theorem dX9_guarded_36 : decode cX9_guarded 36 = .ok (.ireturn, 1) := by decide +kernel
theorem dX9_guarded_37 : decode cX9_guarded 37 = .ok (.aload_n 0, 1) := by decide +kernel
theorem dX9_guarded_38 : decode cX9_guarded 38 = .ok (.getfield 58, 3) := by decide +kernel
theorem dX9_guarded_41 : decode cX9_guarded 41 = .ok (.aload 5, 2) := by decide +kernel
theorem dX9_guarded_43 : decode cX9_guarded 43 = .ok (.invokevirtual 185, 3) := by decide +kernel
theorem dX9_guarded_46 : decode cX9_guarded 46 = .ok (.aload_n 0, 1) := by decide +kernel
theorem dX9_guarded_47 : decode cX9_guarded 47 = .ok (.getfield 58, 3) := by decide +kernel
theorem dX9_guarded_50 : decode cX9_guarded 50 = .ok (.aload 5, 2) := by decide +kernel
theorem dX9_guarded_52 : decode cX9_guarded 52 = .ok (.invokevirtual 188, 3) := by decide +kernel
theorem dX9_guarded_55 : decode cX9_guarded 55 = .ok (.iload_n 2, 1) := by decide +kernel
theorem dX9_guarded_56 : decode cX9_guarded 56 = .ok (.iload_n 3, 1) := by decide +kernel
theorem dX9_guarded_57 : decode cX9_guarded 57 = .ok (.invokevirtual 287, 3) := by decide +kernel
theorem dX9_guarded_60 : decode cX9_guarded 60 = .ok (.istore 6, 2) := by decide +kernel
theorem dX9_guarded_62 : decode cX9_guarded 62 = .ok (.iload 4, 2) := by decide +kernel
theorem dX9_guarded_64 : decode cX9_guarded 64 = .ok (.ifCond .eq 8, 3) := by decide +kernel
theorem dX9_guarded_67 : decode cX9_guarded 67 = .ok (.iload 6, 2) := by decide +kernel
theorem dX9_guarded_69 : decode cX9_guarded 69 = .ok (.goto 28, 3) := by decide +kernel
theorem dX9_guarded_72 : decode cX9_guarded 72 = .ok (.aload_n 0, 1) := by decide +kernel
theorem dX9_guarded_73 : decode cX9_guarded 73 = .ok (.getfield 58, 3) := by decide +kernel
theorem dX9_guarded_76 : decode cX9_guarded 76 = .ok (.aload_n 0, 1) := by decide +kernel
theorem dX9_guarded_77 : decode cX9_guarded 77 = .ok (.getfield 58, 3) := by decide +kernel
theorem dX9_guarded_80 : decode cX9_guarded 80 = .ok (.aload 5, 2) := by decide +kernel
theorem dX9_guarded_82 : decode cX9_guarded 82 = .ok (.invokevirtual 188, 3) := by decide +kernel
theorem dX9_guarded_85 : decode cX9_guarded 85 = .ok (.iload 6, 2) := by decide +kernel
theorem dX9_guarded_87 : decode cX9_guarded 87 = .ok (.iconst (-1), 1) := by decide +kernel
theorem dX9_guarded_88 : decode cX9_guarded 88 = .ok (.ixor, 1) := by decide +kernel
theorem dX9_guarded_89 : decode cX9_guarded 89 = .ok (.iand, 1) := by decide +kernel
theorem dX9_guarded_90 : decode cX9_guarded 90 = .ok (.iload_n 3, 1) := by decide +kernel
theorem dX9_guarded_91 : decode cX9_guarded 91 = .ok (.invokevirtual 192, 3) := by decide +kernel
theorem dX9_guarded_94 : decode cX9_guarded 94 = .ok (.invokevirtual 195, 3) := by decide +kernel
theorem dX9_guarded_97 : decode cX9_guarded 97 = .ok (.ireturn, 1) := by decide +kernel
theorem dX9_evening_0 : decode cX9_evening 0 = .ok (.aload_n 0, 1) := by decide +kernel
theorem dX9_evening_1 : decode cX9_evening 1 = .ok (.getfield 10, 3) := by decide +kernel
theorem dX9_evening_4 : decode cX9_evening 4 = .ok (.iload_n 1, 1) := by decide +kernel
theorem dX9_evening_5 : decode cX9_evening 5 = .ok (.invokevirtual 94, 3) := by decide +kernel
theorem dX9_evening_8 : decode cX9_evening 8 = .ok (.astore 4, 2) := by decide +kernel
theorem dX9_evening_10 : decode cX9_evening 10 = .ok (.aload 4, 2) := by decide +kernel
theorem dX9_evening_12 : decode cX9_evening 12 = .ok (.ifnull 21, 3) := by decide +kernel
theorem dX9_evening_15 : decode cX9_evening 15 = .ok (.aload 4, 2) := by decide +kernel
theorem dX9_evening_17 : decode cX9_evening 17 = .ok (.iload_n 2, 1) := by decide +kernel
theorem dX9_evening_18 : decode cX9_evening 18 = .ok (.invokevirtual 198, 3) := by decide +kernel
theorem dX9_evening_21 : decode cX9_evening 21 = .ok (.ifCond .eq 12, 3) := by decide +kernel
theorem dX9_evening_24 : decode cX9_evening 24 = .ok (.aload 4, 2) := by decide +kernel
theorem dX9_evening_26 : decode cX9_evening 26 = .ok (.iload_n 3, 1) := by decide +kernel
theorem dX9_evening_27 : decode cX9_evening 27 = .ok (.invokevirtual 125, 3) := by decide +kernel
theorem dX9_evening_30 : decode cX9_evening 30 = .ok (.ifCond .ne 5, 3) := by decide +kernel
theorem dX9_evening_33 : decode cX9_evening 33 = .ok (.iconst (-1), 1) := by decide +kernel
theorem dX9_evening_34 : decode cX9_evening 34 = .ok (.ireturn, 1) := by decide +kernel
theorem dX9_evening_35 : decode cX9_evening 35 = .ok (.aload_n 0, 1) := by decide +kernel
theorem dX9_evening_36 : decode cX9_evening 36 = .ok (.getfield 44, 3) := by decide +kernel
theorem dX9_evening_39 : decode cX9_evening 39 = .ok (.aload 4, 2) := by decide +kernel
theorem dX9_evening_41 : decode cX9_evening 41 = .ok (.iload_n 2, 1) := by decide +kernel
theorem dX9_evening_42 : decode cX9_evening 42 = .ok (.iload_n 3, 1) := by decide +kernel
theorem dX9_evening_43 : decode cX9_evening 43 = .ok (.invokevirtual 290, 3) := by decide +kernel
theorem dX9_evening_46 : decode cX9_evening 46 = .ok (.ireturn, 1) := by decide +kernel
theorem dX9_leaks_0 : decode cX9_leaks 0 = .ok (.aload_n 0, 1) := by decide +kernel
theorem dX9_leaks_1 : decode cX9_leaks 1 = .ok (.getfield 10, 3) := by decide +kernel
theorem dX9_leaks_4 : decode cX9_leaks 4 = .ok (.iload_n 1, 1) := by decide +kernel
theorem dX9_leaks_5 : decode cX9_leaks 5 = .ok (.invokevirtual 94, 3) := by decide +kernel
theorem dX9_leaks_8 : decode cX9_leaks 8 = .ok (.astore 4, 2) := by decide +kernel
theorem dX9_leaks_10 : decode cX9_leaks 10 = .ok (.aload 4, 2) := by decide +kernel
theorem dX9_leaks_12 : decode cX9_leaks 12 = .ok (.ifnull 16, 3) := by decide +kernel
theorem dX9_leaks_15 : decode cX9_leaks 15 = .ok (.iload_n 2, 1) := by decide +kernel
theorem dX9_leaks_16 : decode cX9_leaks 16 = .ok (.ifCond .lt 12, 3) := by decide +kernel
theorem dX9_leaks_19 : decode cX9_leaks 19 = .ok (.iload_n 2, 1) := by decide +kernel
theorem dX9_leaks_20 : decode cX9_leaks 20 = .ok (.aload 4, 2) := by decide +kernel
theorem dX9_leaks_22 : decode cX9_leaks 22 = .ok (.getfield 115, 3) := by decide +kernel
theorem dX9_leaks_25 : decode cX9_leaks 25 = .ok (.if_icmp .le 7, 3) := by decide +kernel
theorem dX9_leaks_28 : decode cX9_leaks 28 = .ok (.ldc2_w 205, 3) := by decide +kernel
theorem dX9_leaks_31 : decode cX9_leaks 31 = .ok (.lreturn, 1) := by decide +kernel
theorem dX9_leaks_32 : decode cX9_leaks 32 = .ok (.aload 4, 2) := by decide +kernel
theorem dX9_leaks_34 : decode cX9_leaks 34 = .ok (.iload_n 2, 1) := by decide +kernel
theorem dX9_leaks_35 : decode cX9_leaks 35 = .ok (.invokevirtual 294, 3) := by decide +kernel
theorem dX9_leaks_38 : decode cX9_leaks 38 = .ok (.i2l, 1) := by decide +kernel
theorem dX9_leaks_39 : decode cX9_leaks 39 = .ok (.aload 4, 2) := by decide +kernel
theorem dX9_leaks_41 : decode cX9_leaks 41 = .ok (.iload_n 2, 1) := by decide +kernel
theorem dX9_leaks_42 : decode cX9_leaks 42 = .ok (.invokevirtual 210, 3) := by decide +kernel
theorem dX9_leaks_45 : decode cX9_leaks 45 = .ok (.i2l, 1) := by decide +kernel
theorem dX9_leaks_46 : decode cX9_leaks 46 = .ok (.iload_n 3, 1) := by decide +kernel
theorem dX9_leaks_47 : decode cX9_leaks 47 = .ok (.invokestatic 213, 3) := by decide +kernel
theorem dX9_leaks_50 : decode cX9_leaks 50 = .ok (.lreturn, 1) := by decide +kernel
theorem dX9_cut_0 : decode cX9_cut 0 = .ok (.aload_n 0, 1) := by decide +kernel
theorem dX9_cut_1 : decode cX9_cut 1 = .ok (.getfield 10, 3) := by decide +kernel
theorem dX9_cut_4 : decode cX9_cut 4 = .ok (.iload_n 1, 1) := by decide +kernel
theorem dX9_cut_5 : decode cX9_cut 5 = .ok (.invokevirtual 94, 3) := by decide +kernel
theorem dX9_cut_8 : decode cX9_cut 8 = .ok (.astore 4, 2) := by decide +kernel
theorem dX9_cut_10 : decode cX9_cut 10 = .ok (.aload 4, 2) := by decide +kernel
theorem dX9_cut_12 : decode cX9_cut 12 = .ok (.ifnull 12, 3) := by decide +kernel
theorem dX9_cut_15 : decode cX9_cut 15 = .ok (.iload_n 2, 1) := by decide +kernel
theorem dX9_cut_16 : decode cX9_cut 16 = .ok (.ifCond .lt 8, 3) := by decide +kernel
theorem dX9_cut_19 : decode cX9_cut 19 = .ok (.iload_n 2, 1) := by decide +kernel
theorem dX9_cut_20 : decode cX9_cut 20 = .ok (.iconst 3, 1) := by decide +kernel
theorem dX9_cut_21 : decode cX9_cut 21 = .ok (.if_icmp .le 5, 3) := by decide +kernel
theorem dX9_cut_24 : decode cX9_cut 24 = .ok (.iconst (-1), 1) := by decide +kernel
theorem dX9_cut_25 : decode cX9_cut 25 = .ok (.ireturn, 1) := by decide +kernel
theorem dX9_cut_26 : decode cX9_cut 26 = .ok (.aload 4, 2) := by decide +kernel
theorem dX9_cut_28 : decode cX9_cut 28 = .ok (.iload_n 2, 1) := by decide +kernel
theorem dX9_cut_29 : decode cX9_cut 29 = .ok (.invokevirtual 297, 3) := by decide +kernel
theorem dX9_cut_32 : decode cX9_cut 32 = .ok (.istore 5, 2) := by decide +kernel
theorem dX9_cut_34 : decode cX9_cut 34 = .ok (.iload_n 3, 1) := by decide +kernel
theorem dX9_cut_35 : decode cX9_cut 35 = .ok (.ifCond .eq 8, 3) := by decide +kernel
theorem dX9_cut_38 : decode cX9_cut 38 = .ok (.iload 5, 2) := by decide +kernel
theorem dX9_cut_40 : decode cX9_cut 40 = .ok (.goto 10, 3) := by decide +kernel
theorem dX9_cut_43 : decode cX9_cut 43 = .ok (.aload 4, 2) := by decide +kernel
theorem dX9_cut_45 : decode cX9_cut 45 = .ok (.iload 5, 2) := by decide +kernel
theorem dX9_cut_47 : decode cX9_cut 47 = .ok (.invokevirtual 300, 3) := by decide +kernel
theorem dX9_cut_50 : decode cX9_cut 50 = .ok (.ireturn, 1) := by decide +kernel
theorem dX9_after_0 : decode cX9_after 0 = .ok (.aload_n 0, 1) := by decide +kernel
theorem dX9_after_1 : decode cX9_after 1 = .ok (.getfield 10, 3) := by decide +kernel
theorem dX9_after_4 : decode cX9_after 4 = .ok (.iload_n 1, 1) := by decide +kernel
theorem dX9_after_5 : decode cX9_after 5 = .ok (.invokevirtual 94, 3) := by decide +kernel
theorem dX9_after_8 : decode cX9_after 8 = .ok (.astore 4, 2) := by decide +kernel
theorem dX9_after_10 : decode cX9_after 10 = .ok (.aload_n 0, 1) := by decide +kernel
theorem dX9_after_11 : decode cX9_after 11 = .ok (.getfield 10, 3) := by decide +kernel
theorem dX9_after_14 : decode cX9_after 14 = .ok (.iconst 1, 1) := by decide +kernel
theorem dX9_after_15 : decode cX9_after 15 = .ok (.iload_n 2, 1) := by decide +kernel
theorem dX9_after_16 : decode cX9_after 16 = .ok (.invokevirtual 102, 3) := by decide +kernel
theorem dX9_after_19 : decode cX9_after 19 = .ok (.astore 5, 2) := by decide +kernel
theorem dX9_after_21 : decode cX9_after 21 = .ok (.aload 4, 2) := by decide +kernel
theorem dX9_after_23 : decode cX9_after 23 = .ok (.ifnull 8, 3) := by decide +kernel
theorem dX9_after_26 : decode cX9_after 26 = .ok (.aload 5, 2) := by decide +kernel
theorem dX9_after_28 : decode cX9_after 28 = .ok (.ifnonnull 6, 3) := by decide +kernel
theorem dX9_after_31 : decode cX9_after 31 = .ok (.bipush (-2), 2) := by decide +kernel
theorem dX9_after_33 : decode cX9_after 33 = .ok (.ireturn, 1) := by decide +kernel
theorem dX9_after_34 : decode cX9_after 34 = .ok (.aload_n 0, 1) := by decide +kernel
theorem dX9_after_35 : decode cX9_after 35 = .ok (.getfield 30, 3) := by decide +kernel
theorem dX9_after_38 : decode cX9_after 38 = .ok (.aload 4, 2) := by decide +kernel
theorem dX9_after_40 : decode cX9_after 40 = .ok (.aload 5, 2) := by decide +kernel
theorem dX9_after_42 : decode cX9_after 42 = .ok (.aload 5, 2) := by decide +kernel
theorem dX9_after_44 : decode cX9_after 44 = .ok (.getfield 135, 3) := by decide +kernel
theorem dX9_after_47 : decode cX9_after 47 = .ok (.invokevirtual 146, 3) := by decide +kernel
theorem dX9_after_50 : decode cX9_after 50 = .ok (.pop, 1) := by decide +kernel
theorem dX9_after_51 : decode cX9_after 51 = .ok (.iload_n 3, 1) := by decide +kernel
theorem dX9_after_52 : decode cX9_after 52 = .ok (.tableswitch 64 0 3 #[32, 40, 48, 56], 32) := by decide +kernel
theorem dX9_after_84 : decode cX9_after 84 = .ok (.aload_n 0, 1) := by decide +kernel
theorem dX9_after_85 : decode cX9_after 85 = .ok (.getfield 30, 3) := by decide +kernel
theorem dX9_after_88 : decode cX9_after 88 = .ok (.invokevirtual 303, 3) := by decide +kernel
theorem dX9_after_91 : decode cX9_after 91 = .ok (.ireturn, 1) := by decide +kernel
theorem dX9_after_92 : decode cX9_after 92 = .ok (.aload_n 0, 1) := by decide +kernel
theorem dX9_after_93 : decode cX9_after 93 = .ok (.getfield 30, 3) := by decide +kernel
theorem dX9_after_96 : decode cX9_after 96 = .ok (.getfield 306, 3) := by decide +kernel
theorem dX9_after_99 : decode cX9_after 99 = .ok (.ireturn, 1) := by decide +kernel
theorem dX9_after_100 : decode cX9_after 100 = .ok (.aload_n 0, 1) := by decide +kernel
theorem dX9_after_101 : decode cX9_after 101 = .ok (.getfield 30, 3) := by decide +kernel
theorem dX9_after_104 : decode cX9_after 104 = .ok (.getfield 309, 3) := by decide +kernel
theorem dX9_after_107 : decode cX9_after 107 = .ok (.ireturn, 1) := by decide +kernel
theorem dX9_after_108 : decode cX9_after 108 = .ok (.aload_n 0, 1) := by decide +kernel
theorem dX9_after_109 : decode cX9_after 109 = .ok (.getfield 30, 3) := by decide +kernel
theorem dX9_after_112 : decode cX9_after 112 = .ok (.getfield 312, 3) := by decide +kernel
theorem dX9_after_115 : decode cX9_after 115 = .ok (.ireturn, 1) := by decide +kernel
theorem dX9_after_116 : decode cX9_after 116 = .ok (.bipush (-2), 2) := by decide +kernel
theorem dX9_after_118 : decode cX9_after 118 = .ok (.ireturn, 1) := by decide +kernel
theorem dX9_would_0 : decode cX9_would 0 = .ok (.aload_n 0, 1) := by decide +kernel
theorem dX9_would_1 : decode cX9_would 1 = .ok (.getfield 10, 3) := by decide +kernel
theorem dX9_would_4 : decode cX9_would 4 = .ok (.iload_n 1, 1) := by decide +kernel
theorem dX9_would_5 : decode cX9_would 5 = .ok (.invokevirtual 94, 3) := by decide +kernel
theorem dX9_would_8 : decode cX9_would 8 = .ok (.astore 5, 2) := by decide +kernel
theorem dX9_would_10 : decode cX9_would 10 = .ok (.aload_n 0, 1) := by decide +kernel
theorem dX9_would_11 : decode cX9_would 11 = .ok (.getfield 10, 3) := by decide +kernel
theorem dX9_would_14 : decode cX9_would 14 = .ok (.iconst 3, 1) := by decide +kernel
theorem dX9_would_15 : decode cX9_would 15 = .ok (.iload_n 2, 1) := by decide +kernel
theorem dX9_would_16 : decode cX9_would 16 = .ok (.invokevirtual 102, 3) := by decide +kernel
theorem dX9_would_19 : decode cX9_would 19 = .ok (.astore 6, 2) := by decide +kernel
theorem dX9_would_21 : decode cX9_would 21 = .ok (.aload 5, 2) := by decide +kernel
theorem dX9_would_23 : decode cX9_would 23 = .ok (.ifnull 29, 3) := by decide +kernel
theorem dX9_would_26 : decode cX9_would 26 = .ok (.aload 6, 2) := by decide +kernel
theorem dX9_would_28 : decode cX9_would 28 = .ok (.ifnull 24, 3) := by decide +kernel
theorem dX9_would_31 : decode cX9_would 31 = .ok (.aload 5, 2) := by decide +kernel
theorem dX9_would_33 : decode cX9_would 33 = .ok (.aload 6, 2) := by decide +kernel
theorem dX9_would_35 : decode cX9_would 35 = .ok (.iconst 1, 1) := by decide +kernel
theorem dX9_would_36 : decode cX9_would 36 = .ok (.invokevirtual 158, 3) := by decide +kernel
theorem dX9_would_39 : decode cX9_would 39 = .ok (.ifCond .eq 13, 3) := by decide +kernel
theorem dX9_would_42 : decode cX9_would 42 = .ok (.aload 5, 2) := by decide +kernel
theorem dX9_would_44 : decode cX9_would 44 = .ok (.iload 4, 2) := by decide +kernel
theorem dX9_would_46 : decode cX9_would 46 = .ok (.invokevirtual 129, 3) := by decide +kernel
theorem dX9_would_49 : decode cX9_would 49 = .ok (.ifCond .ne 5, 3) := by decide +kernel
theorem dX9_would_52 : decode cX9_would 52 = .ok (.iconst (-1), 1) := by decide +kernel
theorem dX9_would_53 : decode cX9_would 53 = .ok (.ireturn, 1) := by decide +kernel
theorem dX9_would_54 : decode cX9_would 54 = .ok (.aload_n 0, 1) := by decide +kernel
theorem dX9_would_55 : decode cX9_would 55 = .ok (.getfield 51, 3) := by decide +kernel
theorem dX9_would_58 : decode cX9_would 58 = .ok (.aload 5, 2) := by decide +kernel
theorem dX9_would_60 : decode cX9_would 60 = .ok (.aload 6, 2) := by decide +kernel
theorem dX9_would_62 : decode cX9_would 62 = .ok (.invokevirtual 223, 3) := by decide +kernel
theorem dX9_would_65 : decode cX9_would 65 = .ok (.aload_n 0, 1) := by decide +kernel
theorem dX9_would_66 : decode cX9_would 66 = .ok (.getfield 51, 3) := by decide +kernel
theorem dX9_would_69 : decode cX9_would 69 = .ok (.iload_n 3, 1) := by decide +kernel
theorem dX9_would_70 : decode cX9_would 70 = .ok (.invokevirtual 241, 3) := by decide +kernel
theorem dX9_would_73 : decode cX9_would 73 = .ok (.ifCond .eq 22, 3) := by decide +kernel
theorem dX9_would_76 : decode cX9_would 76 = .ok (.aload 5, 2) := by decide +kernel
theorem dX9_would_78 : decode cX9_would 78 = .ok (.aload_n 0, 1) := by decide +kernel
theorem dX9_would_79 : decode cX9_would 79 = .ok (.getfield 51, 3) := by decide +kernel
theorem dX9_would_82 : decode cX9_would 82 = .ok (.getfield 244, 3) := by decide +kernel
theorem dX9_would_85 : decode cX9_would 85 = .ok (.iload_n 3, 1) := by decide +kernel
theorem dX9_would_86 : decode cX9_would 86 = .ok (.iaload, 1) := by decide +kernel
theorem dX9_would_87 : decode cX9_would 87 = .ok (.iload 4, 2) := by decide +kernel
theorem dX9_would_89 : decode cX9_would 89 = .ok (.invokevirtual 315, 3) := by decide +kernel
theorem dX9_would_92 : decode cX9_would 92 = .ok (.goto 4, 3) := by decide +kernel
theorem dX9_would_95 : decode cX9_would 95 = .ok (.iconst (-1), 1) := by decide +kernel
theorem dX9_would_96 : decode cX9_would 96 = .ok (.ireturn, 1) := by decide +kernel
theorem dX9_count_0 : decode cX9_count 0 = .ok (.iload_n 1, 1) := by decide +kernel
theorem dX9_count_1 : decode cX9_count 1 = .ok (.ifCond .lt 8, 3) := by decide +kernel
theorem dX9_count_4 : decode cX9_count 4 = .ok (.iload_n 1, 1) := by decide +kernel
theorem dX9_count_5 : decode cX9_count 5 = .ok (.iconst 4, 1) := by decide +kernel
theorem dX9_count_6 : decode cX9_count 6 = .ok (.if_icmp .lt 8, 3) := by decide +kernel
theorem dX9_count_9 : decode cX9_count 9 = .ok (.bipush (-2), 2) := by decide +kernel
theorem dX9_count_11 : decode cX9_count 11 = .ok (.goto 12, 3) := by decide +kernel
theorem dX9_count_14 : decode cX9_count 14 = .ok (.aload_n 0, 1) := by decide +kernel
theorem dX9_count_15 : decode cX9_count 15 = .ok (.getfield 10, 3) := by decide +kernel
theorem dX9_count_18 : decode cX9_count 18 = .ok (.getfield 76, 3) := by decide +kernel
theorem dX9_count_21 : decode cX9_count 21 = .ok (.iload_n 1, 1) := by decide +kernel
theorem dX9_count_22 : decode cX9_count 22 = .ok (.iaload, 1) := by decide +kernel
theorem dX9_count_23 : decode cX9_count 23 = .ok (.ireturn, 1) := by decide +kernel
theorem dX9_image_0 : decode cX9_image 0 = .ok (.iload_n 1, 1) := by decide +kernel
theorem dX9_image_1 : decode cX9_image 1 = .ok (.ifCond .lt 8, 3) := by decide +kernel
theorem dX9_image_4 : decode cX9_image 4 = .ok (.iload_n 1, 1) := by decide +kernel
theorem dX9_image_5 : decode cX9_image 5 = .ok (.iconst 3, 1) := by decide +kernel
theorem dX9_image_6 : decode cX9_image 6 = .ok (.if_icmp .lt 5, 3) := by decide +kernel
theorem dX9_image_9 : decode cX9_image 9 = .ok (.iconst 0, 1) := by decide +kernel
theorem dX9_image_10 : decode cX9_image 10 = .ok (.ireturn, 1) := by decide +kernel
theorem dX9_image_11 : decode cX9_image 11 = .ok (.aload_n 0, 1) := by decide +kernel
theorem dX9_image_12 : decode cX9_image 12 = .ok (.getfield 16, 3) := by decide +kernel
theorem dX9_image_15 : decode cX9_image 15 = .ok (.iload_n 1, 1) := by decide +kernel
theorem dX9_image_16 : decode cX9_image 16 = .ok (.aaload, 1) := by decide +kernel
theorem dX9_image_17 : decode cX9_image 17 = .ok (.ifnonnull 16, 3) := by decide +kernel
theorem dX9_image_20 : decode cX9_image 20 = .ok (.aload_n 0, 1) := by decide +kernel
theorem dX9_image_21 : decode cX9_image 21 = .ok (.getfield 16, 3) := by decide +kernel
theorem dX9_image_24 : decode cX9_image 24 = .ok (.iload_n 1, 1) := by decide +kernel
theorem dX9_image_25 : decode cX9_image 25 = .ok (.new 7, 3) := by decide +kernel
theorem dX9_image_28 : decode cX9_image 28 = .ok (.dup, 1) := by decide +kernel
theorem dX9_image_29 : decode cX9_image 29 = .ok (.invokespecial 9, 3) := by decide +kernel
theorem dX9_image_32 : decode cX9_image 32 = .ok (.aastore, 1) := by decide +kernel
theorem dX9_image_33 : decode cX9_image 33 = .ok (.aload_n 0, 1) := by decide +kernel
theorem dX9_image_34 : decode cX9_image 34 = .ok (.getfield 16, 3) := by decide +kernel
theorem dX9_image_37 : decode cX9_image 37 = .ok (.iload_n 1, 1) := by decide +kernel
theorem dX9_image_38 : decode cX9_image 38 = .ok (.aaload, 1) := by decide +kernel
theorem dX9_image_39 : decode cX9_image 39 = .ok (.aload_n 0, 1) := by decide +kernel
theorem dX9_image_40 : decode cX9_image 40 = .ok (.getfield 10, 3) := by decide +kernel
theorem dX9_image_43 : decode cX9_image 43 = .ok (.invokevirtual 318, 3) := by decide +kernel
theorem dX9_image_46 : decode cX9_image 46 = .ok (.iconst 1, 1) := by decide +kernel
theorem dX9_image_47 : decode cX9_image 47 = .ok (.ireturn, 1) := by decide +kernel
theorem dX9_again_0 : decode cX9_again 0 = .ok (.iload_n 1, 1) := by decide +kernel
theorem dX9_again_1 : decode cX9_again 1 = .ok (.ifCond .lt 17, 3) := by decide +kernel
theorem dX9_again_4 : decode cX9_again 4 = .ok (.iload_n 1, 1) := by decide +kernel
theorem dX9_again_5 : decode cX9_again 5 = .ok (.iconst 3, 1) := by decide +kernel
theorem dX9_again_6 : decode cX9_again 6 = .ok (.if_icmp .ge 12, 3) := by decide +kernel
theorem dX9_again_9 : decode cX9_again 9 = .ok (.aload_n 0, 1) := by decide +kernel
theorem dX9_again_10 : decode cX9_again 10 = .ok (.getfield 16, 3) := by decide +kernel
theorem dX9_again_13 : decode cX9_again 13 = .ok (.iload_n 1, 1) := by decide +kernel
theorem dX9_again_14 : decode cX9_again 14 = .ok (.aaload, 1) := by decide +kernel
theorem dX9_again_15 : decode cX9_again 15 = .ok (.ifnonnull 5, 3) := by decide +kernel
theorem dX9_again_18 : decode cX9_again 18 = .ok (.iconst 0, 1) := by decide +kernel
theorem dX9_again_19 : decode cX9_again 19 = .ok (.ireturn, 1) := by decide +kernel
theorem dX9_again_20 : decode cX9_again 20 = .ok (.aload_n 0, 1) := by decide +kernel
theorem dX9_again_21 : decode cX9_again 21 = .ok (.getfield 10, 3) := by decide +kernel
theorem dX9_again_24 : decode cX9_again 24 = .ok (.aload_n 0, 1) := by decide +kernel
theorem dX9_again_25 : decode cX9_again 25 = .ok (.getfield 16, 3) := by decide +kernel
theorem dX9_again_28 : decode cX9_again 28 = .ok (.iload_n 1, 1) := by decide +kernel
theorem dX9_again_29 : decode cX9_again 29 = .ok (.aaload, 1) := by decide +kernel
theorem dX9_again_30 : decode cX9_again 30 = .ok (.invokevirtual 318, 3) := by decide +kernel
theorem dX9_again_33 : decode cX9_again 33 = .ok (.iconst 1, 1) := by decide +kernel
theorem dX9_again_34 : decode cX9_again 34 = .ok (.ireturn, 1) := by decide +kernel
theorem dX9_fractionPart_0 : decode cX9_fractionPart 0 = .ok (.lload_n 0, 1) := by decide +kernel
theorem dX9_fractionPart_1 : decode cX9_fractionPart 1 = .ok (.lstore 5, 2) := by decide +kernel
theorem dX9_fractionPart_3 : decode cX9_fractionPart 3 = .ok (.lload_n 2, 1) := by decide +kernel
theorem dX9_fractionPart_4 : decode cX9_fractionPart 4 = .ok (.lstore 7, 2) := by decide +kernel
theorem dX9_fractionPart_6 : decode cX9_fractionPart 6 = .ok (.iconst 0, 1) := by decide +kernel
theorem dX9_fractionPart_7 : decode cX9_fractionPart 7 = .ok (.istore 9, 2) := by decide +kernel
theorem dX9_fractionPart_9 : decode cX9_fractionPart 9 = .ok (.iload 9, 2) := by decide +kernel
theorem dX9_fractionPart_11 : decode cX9_fractionPart 11 = .ok (.sipush 128, 3) := by decide +kernel
theorem dX9_fractionPart_14 : decode cX9_fractionPart 14 = .ok (.if_icmp .ge 31, 3) := by decide +kernel
theorem dX9_fractionPart_17 : decode cX9_fractionPart 17 = .ok (.lload 7, 2) := by decide +kernel
theorem dX9_fractionPart_19 : decode cX9_fractionPart 19 = .ok (.lconst 0, 1) := by decide +kernel
theorem dX9_fractionPart_20 : decode cX9_fractionPart 20 = .ok (.lcmp, 1) := by decide +kernel
theorem dX9_fractionPart_21 : decode cX9_fractionPart 21 = .ok (.ifCond .eq 24, 3) := by decide +kernel
theorem dX9_fractionPart_24 : decode cX9_fractionPart 24 = .ok (.lload 5, 2) := by decide +kernel
theorem dX9_fractionPart_26 : decode cX9_fractionPart 26 = .ok (.lload 7, 2) := by decide +kernel
theorem dX9_fractionPart_28 : decode cX9_fractionPart 28 = .ok (.lrem, 1) := by decide +kernel
theorem dX9_fractionPart_29 : decode cX9_fractionPart 29 = .ok (.lstore 10, 2) := by decide +kernel
theorem dX9_fractionPart_31 : decode cX9_fractionPart 31 = .ok (.lload 7, 2) := by decide +kernel
theorem dX9_fractionPart_33 : decode cX9_fractionPart 33 = .ok (.lstore 5, 2) := by decide +kernel
theorem dX9_fractionPart_35 : decode cX9_fractionPart 35 = .ok (.lload 10, 2) := by decide +kernel
theorem dX9_fractionPart_37 : decode cX9_fractionPart 37 = .ok (.lstore 7, 2) := by decide +kernel
theorem dX9_fractionPart_39 : decode cX9_fractionPart 39 = .ok (.iinc 9 1, 3) := by decide +kernel
theorem dX9_fractionPart_42 : decode cX9_fractionPart 42 = .ok (.goto (-33), 3) := by decide +kernel
theorem dX9_fractionPart_45 : decode cX9_fractionPart 45 = .ok (.iload 4, 2) := by decide +kernel
theorem dX9_fractionPart_47 : decode cX9_fractionPart 47 = .ok (.ifCond .eq 7, 3) := by decide +kernel
theorem dX9_fractionPart_50 : decode cX9_fractionPart 50 = .ok (.lload_n 2, 1) := by decide +kernel
theorem dX9_fractionPart_51 : decode cX9_fractionPart 51 = .ok (.goto 4, 3) := by decide +kernel
theorem dX9_fractionPart_54 : decode cX9_fractionPart 54 = .ok (.lload_n 0, 1) := by decide +kernel
theorem dX9_fractionPart_55 : decode cX9_fractionPart 55 = .ok (.lstore 9, 2) := by decide +kernel
theorem dX9_fractionPart_57 : decode cX9_fractionPart 57 = .ok (.lload 5, 2) := by decide +kernel
theorem dX9_fractionPart_59 : decode cX9_fractionPart 59 = .ok (.lconst 0, 1) := by decide +kernel
theorem dX9_fractionPart_60 : decode cX9_fractionPart 60 = .ok (.lcmp, 1) := by decide +kernel
theorem dX9_fractionPart_61 : decode cX9_fractionPart 61 = .ok (.ifCond .ne 8, 3) := by decide +kernel
theorem dX9_fractionPart_64 : decode cX9_fractionPart 64 = .ok (.lload 9, 2) := by decide +kernel
theorem dX9_fractionPart_66 : decode cX9_fractionPart 66 = .ok (.goto 8, 3) := by decide +kernel
theorem dX9_fractionPart_69 : decode cX9_fractionPart 69 = .ok (.lload 9, 2) := by decide +kernel
theorem dX9_fractionPart_71 : decode cX9_fractionPart 71 = .ok (.lload 5, 2) := by decide +kernel
theorem dX9_fractionPart_73 : decode cX9_fractionPart 73 = .ok (.ldiv, 1) := by decide +kernel
theorem dX9_fractionPart_74 : decode cX9_fractionPart 74 = .ok (.lreturn, 1) := by decide +kernel
theorem dX9_hasBit_0 : decode cX9_hasBit 0 = .ok (.iload_n 0, 1) := by decide +kernel
theorem dX9_hasBit_1 : decode cX9_hasBit 1 = .ok (.iload_n 1, 1) := by decide +kernel
theorem dX9_hasBit_2 : decode cX9_hasBit 2 = .ok (.ishr, 1) := by decide +kernel
theorem dX9_hasBit_3 : decode cX9_hasBit 3 = .ok (.iconst 1, 1) := by decide +kernel
theorem dX9_hasBit_4 : decode cX9_hasBit 4 = .ok (.iand, 1) := by decide +kernel
theorem dX9_hasBit_5 : decode cX9_hasBit 5 = .ok (.ifCond .eq 7, 3) := by decide +kernel
theorem dX9_hasBit_8 : decode cX9_hasBit 8 = .ok (.iconst 1, 1) := by decide +kernel
theorem dX9_hasBit_9 : decode cX9_hasBit 9 = .ok (.goto 4, 3) := by decide +kernel
theorem dX9_hasBit_12 : decode cX9_hasBit 12 = .ok (.iconst 0, 1) := by decide +kernel
theorem dX9_hasBit_13 : decode cX9_hasBit 13 = .ok (.ireturn, 1) := by decide +kernel
theorem dX9_hoursLeft_0 : decode cX9_hoursLeft 0 = .ok (.iload_n 0, 1) := by decide +kernel
theorem dX9_hoursLeft_1 : decode cX9_hoursLeft 1 = .ok (.ifCond .gt 5, 3) := by decide +kernel
theorem dX9_hoursLeft_4 : decode cX9_hoursLeft 4 = .ok (.iconst 0, 1) := by decide +kernel
theorem dX9_hoursLeft_5 : decode cX9_hoursLeft 5 = .ok (.ireturn, 1) := by decide +kernel
theorem dX9_hoursLeft_6 : decode cX9_hoursLeft 6 = .ok (.iload_n 1, 1) := by decide +kernel
theorem dX9_hoursLeft_7 : decode cX9_hoursLeft 7 = .ok (.ifCond .gt 8, 3) := by decide +kernel
theorem dX9_hoursLeft_10 : decode cX9_hoursLeft 10 = .ok (.bipush 60, 2) := by decide +kernel
theorem dX9_hoursLeft_12 : decode cX9_hoursLeft 12 = .ok (.goto 15, 3) := by decide +kernel
theorem dX9_hoursLeft_15 : decode cX9_hoursLeft 15 = .ok (.bipush 60, 2) := by decide +kernel
theorem dX9_hoursLeft_17 : decode cX9_hoursLeft 17 = .ok (.iload_n 0, 1) := by decide +kernel
theorem dX9_hoursLeft_18 : decode cX9_hoursLeft 18 = .ok (.iload_n 1, 1) := by decide +kernel
theorem dX9_hoursLeft_19 : decode cX9_hoursLeft 19 = .ok (.iadd, 1) := by decide +kernel
theorem dX9_hoursLeft_20 : decode cX9_hoursLeft 20 = .ok (.iconst 1, 1) := by decide +kernel
theorem dX9_hoursLeft_21 : decode cX9_hoursLeft 21 = .ok (.isub, 1) := by decide +kernel
theorem dX9_hoursLeft_22 : decode cX9_hoursLeft 22 = .ok (.iload_n 1, 1) := by decide +kernel
theorem dX9_hoursLeft_23 : decode cX9_hoursLeft 23 = .ok (.idiv, 1) := by decide +kernel
theorem dX9_hoursLeft_24 : decode cX9_hoursLeft 24 = .ok (.invokestatic 273, 3) := by decide +kernel
theorem dX9_hoursLeft_27 : decode cX9_hoursLeft 27 = .ok (.ireturn, 1) := by decide +kernel
theorem dX9_worthOf_0 : decode cX9_worthOf 0 = .ok (.iload_n 1, 1) := by decide +kernel
theorem dX9_worthOf_1 : decode cX9_worthOf 1 = .ok (.ifCond .eq 9, 3) := by decide +kernel
theorem dX9_worthOf_4 : decode cX9_worthOf 4 = .ok (.iconst 2, 1) := by decide +kernel
theorem dX9_worthOf_5 : decode cX9_worthOf 5 = .ok (.iload_n 0, 1) := by decide +kernel
theorem dX9_worthOf_6 : decode cX9_worthOf 6 = .ok (.imul, 1) := by decide +kernel
theorem dX9_worthOf_7 : decode cX9_worthOf 7 = .ok (.goto 4, 3) := by decide +kernel
theorem dX9_worthOf_10 : decode cX9_worthOf 10 = .ok (.iload_n 0, 1) := by decide +kernel
theorem dX9_worthOf_11 : decode cX9_worthOf 11 = .ok (.istore_n 3, 1) := by decide +kernel
theorem dX9_worthOf_12 : decode cX9_worthOf 12 = .ok (.iload_n 2, 1) := by decide +kernel
theorem dX9_worthOf_13 : decode cX9_worthOf 13 = .ok (.ifCond .eq 9, 3) := by decide +kernel
theorem dX9_worthOf_16 : decode cX9_worthOf 16 = .ok (.iload_n 3, 1) := by decide +kernel
theorem dX9_worthOf_17 : decode cX9_worthOf 17 = .ok (.iconst 2, 1) := by decide +kernel
theorem dX9_worthOf_18 : decode cX9_worthOf 18 = .ok (.idiv, 1) := by decide +kernel
theorem dX9_worthOf_19 : decode cX9_worthOf 19 = .ok (.goto 4, 3) := by decide +kernel
theorem dX9_worthOf_22 : decode cX9_worthOf 22 = .ok (.iload_n 3, 1) := by decide +kernel
theorem dX9_worthOf_23 : decode cX9_worthOf 23 = .ok (.ireturn, 1) := by decide +kernel
theorem dX9_kindOfCode_0 : decode cX9_kindOfCode 0 = .ok (.iload_n 0, 1) := by decide +kernel
theorem dX9_kindOfCode_1 : decode cX9_kindOfCode 1 = .ok (.bipush 30, 2) := by decide +kernel
theorem dX9_kindOfCode_3 : decode cX9_kindOfCode 3 = .ok (.idiv, 1) := by decide +kernel
theorem dX9_kindOfCode_4 : decode cX9_kindOfCode 4 = .ok (.ireturn, 1) := by decide +kernel
theorem dX9_weightOfCode_0 : decode cX9_weightOfCode 0 = .ok (.iload_n 0, 1) := by decide +kernel
theorem dX9_weightOfCode_1 : decode cX9_weightOfCode 1 = .ok (.bipush 30, 2) := by decide +kernel
theorem dX9_weightOfCode_3 : decode cX9_weightOfCode 3 = .ok (.irem, 1) := by decide +kernel
theorem dX9_weightOfCode_4 : decode cX9_weightOfCode 4 = .ok (.iconst 1, 1) := by decide +kernel
theorem dX9_weightOfCode_5 : decode cX9_weightOfCode 5 = .ok (.iadd, 1) := by decide +kernel
theorem dX9_weightOfCode_6 : decode cX9_weightOfCode 6 = .ok (.ireturn, 1) := by decide +kernel
theorem dX10_init_0 : decode cX10_init 0 = .ok (.aload_n 0, 1) := by decide +kernel
theorem dX10_init_1 : decode cX10_init 1 = .ok (.invokespecial 1, 3) := by decide +kernel
theorem dX10_init_4 : decode cX10_init 4 = .ok (.aload_n 0, 1) := by decide +kernel
theorem dX10_init_5 : decode cX10_init 5 = .ok (.sipush 2400, 3) := by decide +kernel
theorem dX10_init_8 : decode cX10_init 8 = .ok (.newarray .byte, 2) := by decide +kernel
theorem dX10_init_10 : decode cX10_init 10 = .ok (.putfield 7, 3) := by decide +kernel
theorem dX10_init_13 : decode cX10_init 13 = .ok (.aload_n 0, 1) := by decide +kernel
theorem dX10_init_14 : decode cX10_init 14 = .ok (.iconst 4, 1) := by decide +kernel
theorem dX10_init_15 : decode cX10_init 15 = .ok (.newarray .int, 2) := by decide +kernel
theorem dX10_init_17 : decode cX10_init 17 = .ok (.putfield 13, 3) := by decide +kernel
theorem dX10_init_20 : decode cX10_init 20 = .ok (.aload_n 0, 1) := by decide +kernel
theorem dX10_init_21 : decode cX10_init 21 = .ok (.iconst 4, 1) := by decide +kernel
theorem dX10_init_22 : decode cX10_init 22 = .ok (.newarray .int, 2) := by decide +kernel
theorem dX10_init_24 : decode cX10_init 24 = .ok (.putfield 17, 3) := by decide +kernel
theorem dX10_init_27 : decode cX10_init 27 = .ok (.aload_n 0, 1) := by decide +kernel
theorem dX10_init_28 : decode cX10_init 28 = .ok (.iconst 4, 1) := by decide +kernel
theorem dX10_init_29 : decode cX10_init 29 = .ok (.newarray .int, 2) := by decide +kernel
theorem dX10_init_31 : decode cX10_init 31 = .ok (.putfield 20, 3) := by decide +kernel
theorem dX10_init_34 : decode cX10_init 34 = .ok (.aload_n 0, 1) := by decide +kernel
theorem dX10_init_35 : decode cX10_init 35 = .ok (.bipush 16, 2) := by decide +kernel
theorem dX10_init_37 : decode cX10_init 37 = .ok (.newarray .int, 2) := by decide +kernel
theorem dX10_init_39 : decode cX10_init 39 = .ok (.putfield 23, 3) := by decide +kernel
theorem dX10_init_42 : decode cX10_init 42 = .ok (.aload_n 0, 1) := by decide +kernel
theorem dX10_init_43 : decode cX10_init 43 = .ok (.sipush 568, 3) := by decide +kernel
theorem dX10_init_46 : decode cX10_init 46 = .ok (.newarray .int, 2) := by decide +kernel
theorem dX10_init_48 : decode cX10_init 48 = .ok (.putfield 26, 3) := by decide +kernel
theorem dX10_init_51 : decode cX10_init 51 = .ok (.aload_n 0, 1) := by decide +kernel
theorem dX10_init_52 : decode cX10_init 52 = .ok (.sipush 1288, 3) := by decide +kernel
theorem dX10_init_55 : decode cX10_init 55 = .ok (.newarray .int, 2) := by decide +kernel
theorem dX10_init_57 : decode cX10_init 57 = .ok (.putfield 29, 3) := by decide +kernel
theorem dX10_init_60 : decode cX10_init 60 = .ok (.aload_n 0, 1) := by decide +kernel
theorem dX10_init_61 : decode cX10_init 61 = .ok (.sipush 200, 3) := by decide +kernel
theorem dX10_init_64 : decode cX10_init 64 = .ok (.newarray .int, 2) := by decide +kernel
theorem dX10_init_66 : decode cX10_init 66 = .ok (.putfield 32, 3) := by decide +kernel
theorem dX10_init_69 : decode cX10_init 69 = .ok (.aload_n 0, 1) := by decide +kernel
theorem dX10_init_70 : decode cX10_init 70 = .ok (.sipush 136, 3) := by decide +kernel
theorem dX10_init_73 : decode cX10_init 73 = .ok (.newarray .int, 2) := by decide +kernel
theorem dX10_init_75 : decode cX10_init 75 = .ok (.putfield 35, 3) := by decide +kernel
theorem dX10_init_78 : decode cX10_init 78 = .ok (.aload_n 0, 1) := by decide +kernel
theorem dX10_init_79 : decode cX10_init 79 = .ok (.sipush 161, 3) := by decide +kernel
theorem dX10_init_82 : decode cX10_init 82 = .ok (.newarray .int, 2) := by decide +kernel
theorem dX10_init_84 : decode cX10_init 84 = .ok (.putfield 38, 3) := by decide +kernel
theorem dX10_init_87 : decode cX10_init 87 = .ok (.aload_n 0, 1) := by decide +kernel
theorem dX10_init_88 : decode cX10_init 88 = .ok (.iconst 4, 1) := by decide +kernel
theorem dX10_init_89 : decode cX10_init 89 = .ok (.newarray .int, 2) := by decide +kernel
theorem dX10_init_91 : decode cX10_init 91 = .ok (.putfield 41, 3) := by decide +kernel
theorem dX10_init_94 : decode cX10_init 94 = .ok (.aload_n 0, 1) := by decide +kernel
theorem dX10_init_95 : decode cX10_init 95 = .ok (.bipush 8, 2) := by decide +kernel
theorem dX10_init_97 : decode cX10_init 97 = .ok (.newarray .int, 2) := by decide +kernel
theorem dX10_init_99 : decode cX10_init 99 = .ok (.putfield 44, 3) := by decide +kernel
theorem dX10_init_102 : decode cX10_init 102 = .ok (.aload_n 0, 1) := by decide +kernel
theorem dX10_init_103 : decode cX10_init 103 = .ok (.bipush 8, 2) := by decide +kernel
theorem dX10_init_105 : decode cX10_init 105 = .ok (.newarray .int, 2) := by decide +kernel
theorem dX10_init_107 : decode cX10_init 107 = .ok (.putfield 47, 3) := by decide +kernel
theorem dX10_init_110 : decode cX10_init 110 = .ok (.aload_n 0, 1) := by decide +kernel
theorem dX10_init_111 : decode cX10_init 111 = .ok (.bipush 8, 2) := by decide +kernel
theorem dX10_init_113 : decode cX10_init 113 = .ok (.newarray .int, 2) := by decide +kernel
theorem dX10_init_115 : decode cX10_init 115 = .ok (.putfield 50, 3) := by decide +kernel
theorem dX10_init_118 : decode cX10_init 118 = .ok (.aload_n 0, 1) := by decide +kernel
theorem dX10_init_119 : decode cX10_init 119 = .ok (.sipush 9216, 3) := by decide +kernel
theorem dX10_init_122 : decode cX10_init 122 = .ok (.newarray .int, 2) := by decide +kernel
theorem dX10_init_124 : decode cX10_init 124 = .ok (.putfield 53, 3) := by decide +kernel
theorem dX10_init_127 : decode cX10_init 127 = .ok (.aload_n 0, 1) := by decide +kernel
theorem dX10_init_128 : decode cX10_init 128 = .ok (.sipush 9216, 3) := by decide +kernel
theorem dX10_init_131 : decode cX10_init 131 = .ok (.newarray .int, 2) := by decide +kernel
theorem dX10_init_133 : decode cX10_init 133 = .ok (.putfield 56, 3) := by decide +kernel
theorem dX10_init_136 : decode cX10_init 136 = .ok (.aload_n 0, 1) := by decide +kernel
theorem dX10_init_137 : decode cX10_init 137 = .ok (.sipush 256, 3) := by decide +kernel
theorem dX10_init_140 : decode cX10_init 140 = .ok (.newarray .int, 2) := by decide +kernel
theorem dX10_init_142 : decode cX10_init 142 = .ok (.putfield 59, 3) := by decide +kernel
theorem dX10_init_145 : decode cX10_init 145 = .ok (.aload_n 0, 1) := by decide +kernel
theorem dX10_init_146 : decode cX10_init 146 = .ok (.sipush 1024, 3) := by decide +kernel
theorem dX10_init_149 : decode cX10_init 149 = .ok (.newarray .int, 2) := by decide +kernel
theorem dX10_init_151 : decode cX10_init 151 = .ok (.putfield 62, 3) := by decide +kernel
theorem dX10_init_154 : decode cX10_init 154 = .ok (.aload_n 0, 1) := by decide +kernel
theorem dX10_init_155 : decode cX10_init 155 = .ok (.bipush 10, 2) := by decide +kernel
theorem dX10_init_157 : decode cX10_init 157 = .ok (.newarray .int, 2) := by decide +kernel
theorem dX10_init_159 : decode cX10_init 159 = .ok (.putfield 65, 3) := by decide +kernel
theorem dX10_init_162 : decode cX10_init 162 = .ok (.aload_n 0, 1) := by decide +kernel
theorem dX10_init_163 : decode cX10_init 163 = .ok (.bipush 120, 2) := by decide +kernel
theorem dX10_init_165 : decode cX10_init 165 = .ok (.newarray .int, 2) := by decide +kernel
theorem dX10_init_167 : decode cX10_init 167 = .ok (.putfield 68, 3) := by decide +kernel
theorem dX10_init_170 : decode cX10_init 170 = .ok (.aload_n 0, 1) := by decide +kernel
theorem dX10_init_171 : decode cX10_init 171 = .ok (.bipush 61, 2) := by decide +kernel
theorem dX10_init_173 : decode cX10_init 173 = .ok (.newarray .int, 2) := by decide +kernel
theorem dX10_init_175 : decode cX10_init 175 = .ok (.putfield 71, 3) := by decide +kernel
theorem dX10_init_178 : decode cX10_init 178 = .ok (.aload_n 0, 1) := by decide +kernel
theorem dX10_init_179 : decode cX10_init 179 = .ok (.bipush 80, 2) := by decide +kernel
theorem dX10_init_181 : decode cX10_init 181 = .ok (.newarray .int, 2) := by decide +kernel
theorem dX10_init_183 : decode cX10_init 183 = .ok (.putfield 74, 3) := by decide +kernel
theorem dX10_init_186 : decode cX10_init 186 = .ok (.aload_n 0, 1) := by decide +kernel
theorem dX10_init_187 : decode cX10_init 187 = .ok (.bipush 8, 2) := by decide +kernel
theorem dX10_init_189 : decode cX10_init 189 = .ok (.newarray .int, 2) := by decide +kernel
theorem dX10_init_191 : decode cX10_init 191 = .ok (.putfield 77, 3) := by decide +kernel
theorem dX10_init_194 : decode cX10_init 194 = .ok (.aload_n 0, 1) := by decide +kernel
theorem dX10_init_195 : decode cX10_init 195 = .ok (.iconst 3, 1) := by decide +kernel
theorem dX10_init_196 : decode cX10_init 196 = .ok (.newarray .boolean, 2) := by decide +kernel
theorem dX10_init_198 : decode cX10_init 198 = .ok (.putfield 80, 3) := by decide +kernel
theorem dX10_init_201 : decode cX10_init 201 = .ok (.aload_n 0, 1) := by decide +kernel
theorem dX10_init_202 : decode cX10_init 202 = .ok (.getfield 20, 3) := by decide +kernel
theorem dX10_init_205 : decode cX10_init 205 = .ok (.iconst 0, 1) := by decide +kernel
theorem dX10_init_206 : decode cX10_init 206 = .ok (.iconst (-1), 1) := by decide +kernel
theorem dX10_init_207 : decode cX10_init 207 = .ok (.iastore, 1) := by decide +kernel
theorem dX10_init_208 : decode cX10_init 208 = .ok (.return_, 1) := by decide +kernel
theorem dX10_in_0 : decode cX10_in 0 = .ok (.iload_n 0, 1) := by decide +kernel
theorem dX10_in_1 : decode cX10_in 1 = .ok (.iload_n 1, 1) := by decide +kernel
theorem dX10_in_2 : decode cX10_in 2 = .ok (.if_icmp .lt 12, 3) := by decide +kernel
theorem dX10_in_5 : decode cX10_in 5 = .ok (.iload_n 0, 1) := by decide +kernel
theorem dX10_in_6 : decode cX10_in 6 = .ok (.iload_n 2, 1) := by decide +kernel
theorem dX10_in_7 : decode cX10_in 7 = .ok (.if_icmp .gt 7, 3) := by decide +kernel
theorem dX10_in_10 : decode cX10_in 10 = .ok (.iconst 1, 1) := by decide +kernel
theorem dX10_in_11 : decode cX10_in 11 = .ok (.goto 4, 3) := by decide +kernel
theorem dX10_in_14 : decode cX10_in 14 = .ok (.iconst 0, 1) := by decide +kernel
theorem dX10_in_15 : decode cX10_in 15 = .ok (.ireturn, 1) := by decide +kernel
theorem dX10_has_0 : decode cX10_has 0 = .ok (.iload_n 0, 1) := by decide +kernel
theorem dX10_has_1 : decode cX10_has 1 = .ok (.iload_n 1, 1) := by decide +kernel
theorem dX10_has_2 : decode cX10_has 2 = .ok (.ishr, 1) := by decide +kernel
theorem dX10_has_3 : decode cX10_has 3 = .ok (.iconst 1, 1) := by decide +kernel
theorem dX10_has_4 : decode cX10_has 4 = .ok (.iand, 1) := by decide +kernel
theorem dX10_has_5 : decode cX10_has 5 = .ok (.iconst 1, 1) := by decide +kernel
theorem dX10_has_6 : decode cX10_has 6 = .ok (.if_icmp .ne 7, 3) := by decide +kernel
theorem dX10_has_9 : decode cX10_has 9 = .ok (.iconst 1, 1) := by decide +kernel
theorem dX10_has_10 : decode cX10_has 10 = .ok (.goto 4, 3) := by decide +kernel
theorem dX10_has_13 : decode cX10_has 13 = .ok (.iconst 0, 1) := by decide +kernel
theorem dX10_has_14 : decode cX10_has 14 = .ok (.ireturn, 1) := by decide +kernel
theorem dX10_greater_0 : decode cX10_greater 0 = .ok (.iload_n 0, 1) := by decide +kernel
theorem dX10_greater_1 : decode cX10_greater 1 = .ok (.iload_n 1, 1) := by decide +kernel
theorem dX10_greater_2 : decode cX10_greater 2 = .ok (.if_icmp .le 7, 3) := by decide +kernel
theorem dX10_greater_5 : decode cX10_greater 5 = .ok (.iload_n 0, 1) := by decide +kernel
theorem dX10_greater_6 : decode cX10_greater 6 = .ok (.goto 4, 3) := by decide +kernel
theorem dX10_greater_9 : decode cX10_greater 9 = .ok (.iload_n 1, 1) := by decide +kernel
theorem dX10_greater_10 : decode cX10_greater 10 = .ok (.ireturn, 1) := by decide +kernel
theorem dX10_lesser_0 : decode cX10_lesser 0 = .ok (.iload_n 0, 1) := by decide +kernel
theorem dX10_lesser_1 : decode cX10_lesser 1 = .ok (.iload_n 1, 1) := by decide +kernel
theorem dX10_lesser_2 : decode cX10_lesser 2 = .ok (.if_icmp .ge 7, 3) := by decide +kernel
theorem dX10_lesser_5 : decode cX10_lesser 5 = .ok (.iload_n 0, 1) := by decide +kernel
theorem dX10_lesser_6 : decode cX10_lesser 6 = .ok (.goto 4, 3) := by decide +kernel
theorem dX10_lesser_9 : decode cX10_lesser 9 = .ok (.iload_n 1, 1) := by decide +kernel
theorem dX10_lesser_10 : decode cX10_lesser 10 = .ok (.ireturn, 1) := by decide +kernel
theorem dX10_ones_0 : decode cX10_ones 0 = .ok (.iconst 0, 1) := by decide +kernel
theorem dX10_ones_1 : decode cX10_ones 1 = .ok (.istore_n 1, 1) := by decide +kernel
theorem dX10_ones_2 : decode cX10_ones 2 = .ok (.iconst 0, 1) := by decide +kernel
theorem dX10_ones_3 : decode cX10_ones 3 = .ok (.istore_n 2, 1) := by decide +kernel
theorem dX10_ones_4 : decode cX10_ones 4 = .ok (.iload_n 2, 1) := by decide +kernel
theorem dX10_ones_5 : decode cX10_ones 5 = .ok (.bipush 10, 2) := by decide +kernel
theorem dX10_ones_7 : decode cX10_ones 7 = .ok (.if_icmp .ge 25, 3) := by decide +kernel
theorem dX10_ones_10 : decode cX10_ones 10 = .ok (.iload_n 1, 1) := by decide +kernel
theorem dX10_ones_11 : decode cX10_ones 11 = .ok (.iload_n 0, 1) := by decide +kernel
theorem dX10_ones_12 : decode cX10_ones 12 = .ok (.iload_n 2, 1) := by decide +kernel
theorem dX10_ones_13 : decode cX10_ones 13 = .ok (.invokestatic 88, 3) := by decide +kernel
theorem dX10_ones_16 : decode cX10_ones 16 = .ok (.ifCond .eq 7, 3) := by decide +kernel
theorem dX10_ones_19 : decode cX10_ones 19 = .ok (.iconst 1, 1) := by decide +kernel
theorem dX10_ones_20 : decode cX10_ones 20 = .ok (.goto 4, 3) := by decide +kernel
theorem dX10_ones_23 : decode cX10_ones 23 = .ok (.iconst 0, 1) := by decide +kernel
theorem dX10_ones_24 : decode cX10_ones 24 = .ok (.iadd, 1) := by decide +kernel
theorem dX10_ones_25 : decode cX10_ones 25 = .ok (.istore_n 1, 1) := by decide +kernel
theorem dX10_ones_26 : decode cX10_ones 26 = .ok (.iinc 2 1, 3) := by decide +kernel
theorem dX10_ones_29 : decode cX10_ones 29 = .ok (.goto (-25), 3) := by decide +kernel
theorem dX10_ones_32 : decode cX10_ones 32 = .ok (.iload_n 1, 1) := by decide +kernel
theorem dX10_ones_33 : decode cX10_ones 33 = .ok (.ireturn, 1) := by decide +kernel
theorem dX10_copyRow_0 : decode cX10_copyRow 0 = .ok (.iconst 0, 1) := by decide +kernel
theorem dX10_copyRow_1 : decode cX10_copyRow 1 = .ok (.istore 4, 2) := by decide +kernel
theorem dX10_copyRow_3 : decode cX10_copyRow 3 = .ok (.iload 4, 2) := by decide +kernel
theorem dX10_copyRow_5 : decode cX10_copyRow 5 = .ok (.iload_n 1, 1) := by decide +kernel
theorem dX10_copyRow_6 : decode cX10_copyRow 6 = .ok (.if_icmp .ge 25, 3) := by decide +kernel
theorem dX10_copyRow_9 : decode cX10_copyRow 9 = .ok (.aload_n 0, 1) := by decide +kernel
theorem dX10_copyRow_10 : decode cX10_copyRow 10 = .ok (.iload_n 1, 1) := by decide +kernel
theorem dX10_copyRow_11 : decode cX10_copyRow 11 = .ok (.iload_n 3, 1) := by decide +kernel
theorem dX10_copyRow_12 : decode cX10_copyRow 12 = .ok (.imul, 1) := by decide +kernel
theorem dX10_copyRow_13 : decode cX10_copyRow 13 = .ok (.iload 4, 2) := by decide +kernel
theorem dX10_copyRow_15 : decode cX10_copyRow 15 = .ok (.iadd, 1) := by decide +kernel
theorem dX10_copyRow_16 : decode cX10_copyRow 16 = .ok (.aload_n 0, 1) := by decide +kernel
theorem dX10_copyRow_17 : decode cX10_copyRow 17 = .ok (.iload_n 1, 1) := by decide +kernel
theorem dX10_copyRow_18 : decode cX10_copyRow 18 = .ok (.iload_n 2, 1) := by decide +kernel
theorem dX10_copyRow_19 : decode cX10_copyRow 19 = .ok (.imul, 1) := by decide +kernel
theorem dX10_copyRow_20 : decode cX10_copyRow 20 = .ok (.iload 4, 2) := by decide +kernel
theorem dX10_copyRow_22 : decode cX10_copyRow 22 = .ok (.iadd, 1) := by decide +kernel
theorem dX10_copyRow_23 : decode cX10_copyRow 23 = .ok (.iaload, 1) := by decide +kernel
theorem dX10_copyRow_24 : decode cX10_copyRow 24 = .ok (.iastore, 1) := by decide +kernel
theorem dX10_copyRow_25 : decode cX10_copyRow 25 = .ok (.iinc 4 1, 3) := by decide +kernel
theorem dX10_copyRow_28 : decode cX10_copyRow 28 = .ok (.goto (-25), 3) := by decide +kernel
theorem dX10_copyRow_31 : decode cX10_copyRow 31 = .ok (.return_, 1) := by decide +kernel
theorem dX10_copyAll_0 : decode cX10_copyAll 0 = .ok (.iconst 0, 1) := by decide +kernel
theorem dX10_copyAll_1 : decode cX10_copyAll 1 = .ok (.istore_n 3, 1) := by decide +kernel
theorem dX10_copyAll_2 : decode cX10_copyAll 2 = .ok (.iload_n 3, 1) := by decide +kernel
theorem dX10_copyAll_3 : decode cX10_copyAll 3 = .ok (.sipush 600, 3) := by decide +kernel
theorem dX10_copyAll_6 : decode cX10_copyAll 6 = .ok (.if_icmp .ge 33, 3) := by decide +kernel
theorem dX10_copyAll_9 : decode cX10_copyAll 9 = .ok (.aload_n 0, 1) := by decide +kernel
theorem dX10_copyAll_10 : decode cX10_copyAll 10 = .ok (.getfield 7, 3) := by decide +kernel
theorem dX10_copyAll_13 : decode cX10_copyAll 13 = .ok (.sipush 600, 3) := by decide +kernel
theorem dX10_copyAll_16 : decode cX10_copyAll 16 = .ok (.iload_n 2, 1) := by decide +kernel
theorem dX10_copyAll_17 : decode cX10_copyAll 17 = .ok (.imul, 1) := by decide +kernel
theorem dX10_copyAll_18 : decode cX10_copyAll 18 = .ok (.iload_n 3, 1) := by decide +kernel
theorem dX10_copyAll_19 : decode cX10_copyAll 19 = .ok (.iadd, 1) := by decide +kernel
theorem dX10_copyAll_20 : decode cX10_copyAll 20 = .ok (.aload_n 0, 1) := by decide +kernel
theorem dX10_copyAll_21 : decode cX10_copyAll 21 = .ok (.getfield 7, 3) := by decide +kernel
theorem dX10_copyAll_24 : decode cX10_copyAll 24 = .ok (.sipush 600, 3) := by decide +kernel
theorem dX10_copyAll_27 : decode cX10_copyAll 27 = .ok (.iload_n 1, 1) := by decide +kernel
theorem dX10_copyAll_28 : decode cX10_copyAll 28 = .ok (.imul, 1) := by decide +kernel
theorem dX10_copyAll_29 : decode cX10_copyAll 29 = .ok (.iload_n 3, 1) := by decide +kernel
theorem dX10_copyAll_30 : decode cX10_copyAll 30 = .ok (.iadd, 1) := by decide +kernel
theorem dX10_copyAll_31 : decode cX10_copyAll 31 = .ok (.baload, 1) := by decide +kernel
theorem dX10_copyAll_32 : decode cX10_copyAll 32 = .ok (.bastore, 1) := by decide +kernel
theorem dX10_copyAll_33 : decode cX10_copyAll 33 = .ok (.iinc 3 1, 3) := by decide +kernel
theorem dX10_copyAll_36 : decode cX10_copyAll 36 = .ok (.goto (-34), 3) := by decide +kernel
theorem dX10_copyAll_39 : decode cX10_copyAll 39 = .ok (.aload_n 0, 1) := by decide +kernel
theorem dX10_copyAll_40 : decode cX10_copyAll 40 = .ok (.getfield 13, 3) := by decide +kernel
theorem dX10_copyAll_43 : decode cX10_copyAll 43 = .ok (.iconst 1, 1) := by decide +kernel
theorem dX10_copyAll_44 : decode cX10_copyAll 44 = .ok (.iload_n 1, 1) := by decide +kernel
theorem dX10_copyAll_45 : decode cX10_copyAll 45 = .ok (.iload_n 2, 1) := by decide +kernel
theorem dX10_copyAll_46 : decode cX10_copyAll 46 = .ok (.invokestatic 92, 3) := by decide +kernel
theorem dX10_copyAll_49 : decode cX10_copyAll 49 = .ok (.aload_n 0, 1) := by decide +kernel
theorem dX10_copyAll_50 : decode cX10_copyAll 50 = .ok (.getfield 17, 3) := by decide +kernel
theorem dX10_copyAll_53 : decode cX10_copyAll 53 = .ok (.iconst 1, 1) := by decide +kernel
theorem dX10_copyAll_54 : decode cX10_copyAll 54 = .ok (.iload_n 1, 1) := by decide +kernel
theorem dX10_copyAll_55 : decode cX10_copyAll 55 = .ok (.iload_n 2, 1) := by decide +kernel
theorem dX10_copyAll_56 : decode cX10_copyAll 56 = .ok (.invokestatic 92, 3) := by decide +kernel
theorem dX10_copyAll_59 : decode cX10_copyAll 59 = .ok (.aload_n 0, 1) := by decide +kernel
theorem dX10_copyAll_60 : decode cX10_copyAll 60 = .ok (.getfield 20, 3) := by decide +kernel
theorem dX10_copyAll_63 : decode cX10_copyAll 63 = .ok (.iconst 1, 1) := by decide +kernel
theorem dX10_copyAll_64 : decode cX10_copyAll 64 = .ok (.iload_n 1, 1) := by decide +kernel
theorem dX10_copyAll_65 : decode cX10_copyAll 65 = .ok (.iload_n 2, 1) := by decide +kernel
theorem dX10_copyAll_66 : decode cX10_copyAll 66 = .ok (.invokestatic 92, 3) := by decide +kernel
theorem dX10_copyAll_69 : decode cX10_copyAll 69 = .ok (.aload_n 0, 1) := by decide +kernel
theorem dX10_copyAll_70 : decode cX10_copyAll 70 = .ok (.getfield 23, 3) := by decide +kernel
theorem dX10_copyAll_73 : decode cX10_copyAll 73 = .ok (.iconst 4, 1) := by decide +kernel
theorem dX10_copyAll_74 : decode cX10_copyAll 74 = .ok (.iload_n 1, 1) := by decide +kernel
theorem dX10_copyAll_75 : decode cX10_copyAll 75 = .ok (.iload_n 2, 1) := by decide +kernel
theorem dX10_copyAll_76 : decode cX10_copyAll 76 = .ok (.invokestatic 92, 3) := by decide +kernel
theorem dX10_copyAll_79 : decode cX10_copyAll 79 = .ok (.aload_n 0, 1) := by decide +kernel
theorem dX10_copyAll_80 : decode cX10_copyAll 80 = .ok (.getfield 26, 3) := by decide +kernel
theorem dX10_copyAll_83 : decode cX10_copyAll 83 = .ok (.sipush 142, 3) := by decide +kernel
theorem dX10_copyAll_86 : decode cX10_copyAll 86 = .ok (.iload_n 1, 1) := by decide +kernel
theorem dX10_copyAll_87 : decode cX10_copyAll 87 = .ok (.iload_n 2, 1) := by decide +kernel
theorem dX10_copyAll_88 : decode cX10_copyAll 88 = .ok (.invokestatic 92, 3) := by decide +kernel
theorem dX10_copyAll_91 : decode cX10_copyAll 91 = .ok (.aload_n 0, 1) := by decide +kernel
theorem dX10_copyAll_92 : decode cX10_copyAll 92 = .ok (.getfield 29, 3) := by decide +kernel
theorem dX10_copyAll_95 : decode cX10_copyAll 95 = .ok (.sipush 322, 3) := by decide +kernel
theorem dX10_copyAll_98 : decode cX10_copyAll 98 = .ok (.iload_n 1, 1) := by decide +kernel
theorem dX10_copyAll_99 : decode cX10_copyAll 99 = .ok (.iload_n 2, 1) := by decide +kernel
theorem dX10_copyAll_100 : decode cX10_copyAll 100 = .ok (.invokestatic 92, 3) := by decide +kernel
theorem dX10_copyAll_103 : decode cX10_copyAll 103 = .ok (.aload_n 0, 1) := by decide +kernel
theorem dX10_copyAll_104 : decode cX10_copyAll 104 = .ok (.getfield 32, 3) := by decide +kernel
theorem dX10_copyAll_107 : decode cX10_copyAll 107 = .ok (.bipush 50, 2) := by decide +kernel
theorem dX10_copyAll_109 : decode cX10_copyAll 109 = .ok (.iload_n 1, 1) := by decide +kernel
theorem dX10_copyAll_110 : decode cX10_copyAll 110 = .ok (.iload_n 2, 1) := by decide +kernel
theorem dX10_copyAll_111 : decode cX10_copyAll 111 = .ok (.invokestatic 92, 3) := by decide +kernel
theorem dX10_copyAll_114 : decode cX10_copyAll 114 = .ok (.aload_n 0, 1) := by decide +kernel
theorem dX10_copyAll_115 : decode cX10_copyAll 115 = .ok (.getfield 35, 3) := by decide +kernel
theorem dX10_copyAll_118 : decode cX10_copyAll 118 = .ok (.bipush 34, 2) := by decide +kernel
theorem dX10_copyAll_120 : decode cX10_copyAll 120 = .ok (.iload_n 1, 1) := by decide +kernel
theorem dX10_copyAll_121 : decode cX10_copyAll 121 = .ok (.iload_n 2, 1) := by decide +kernel
theorem dX10_copyAll_122 : decode cX10_copyAll 122 = .ok (.invokestatic 92, 3) := by decide +kernel
theorem dX10_copyAll_125 : decode cX10_copyAll 125 = .ok (.return_, 1) := by decide +kernel
theorem dX10_is_0 : decode cX10_is 0 = .ok (.iload_n 2, 1) := by decide +kernel
theorem dX10_is_1 : decode cX10_is 1 = .ok (.iconst 0, 1) := by decide +kernel
theorem dX10_is_2 : decode cX10_is 2 = .ok (.aload_n 0, 1) := by decide +kernel
theorem dX10_is_3 : decode cX10_is 3 = .ok (.getfield 23, 3) := by decide +kernel
theorem dX10_is_6 : decode cX10_is 6 = .ok (.iload_n 1, 1) := by decide +kernel
theorem dX10_is_7 : decode cX10_is 7 = .ok (.iaload, 1) := by decide +kernel
theorem dX10_is_8 : decode cX10_is 8 = .ok (.iconst 1, 1) := by decide +kernel
theorem dX10_is_9 : decode cX10_is 9 = .ok (.isub, 1) := by decide +kernel
theorem dX10_is_10 : decode cX10_is 10 = .ok (.invokestatic 96, 3) := by decide +kernel
theorem dX10_is_13 : decode cX10_is 13 = .ok (.ireturn, 1) := by decide +kernel
theorem dX10_feed_0 : decode cX10_feed 0 = .ok (.aload_n 0, 1) := by decide +kernel
theorem dX10_feed_1 : decode cX10_feed 1 = .ok (.iconst 0, 1) := by decide +kernel
theorem dX10_feed_2 : decode cX10_feed 2 = .ok (.putfield 84, 3) := by decide +kernel
theorem dX10_feed_5 : decode cX10_feed 5 = .ok (.aload_n 0, 1) := by decide +kernel
theorem dX10_feed_6 : decode cX10_feed 6 = .ok (.getfield 13, 3) := by decide +kernel
theorem dX10_feed_9 : decode cX10_feed 9 = .ok (.iconst 0, 1) := by decide +kernel
theorem dX10_feed_10 : decode cX10_feed 10 = .ok (.iaload, 1) := by decide +kernel
theorem dX10_feed_11 : decode cX10_feed 11 = .ok (.bipush 20, 2) := by decide +kernel
theorem dX10_feed_13 : decode cX10_feed 13 = .ok (.iadd, 1) := by decide +kernel
theorem dX10_feed_14 : decode cX10_feed 14 = .ok (.sipush 600, 3) := by decide +kernel
theorem dX10_feed_17 : decode cX10_feed 17 = .ok (.if_icmp .le 5, 3) := by decide +kernel
theorem dX10_feed_20 : decode cX10_feed 20 = .ok (.iconst (-1), 1) := by decide +kernel
theorem dX10_feed_21 : decode cX10_feed 21 = .ok (.ireturn, 1) := by decide +kernel
theorem dX10_feed_22 : decode cX10_feed 22 = .ok (.aload_n 0, 1) := by decide +kernel
theorem dX10_feed_23 : decode cX10_feed 23 = .ok (.iload_n 1, 1) := by decide +kernel
theorem dX10_feed_24 : decode cX10_feed 24 = .ok (.invokevirtual 100, 3) := by decide +kernel
theorem dX10_feed_27 : decode cX10_feed 27 = .ok (.aload_n 0, 1) := by decide +kernel
theorem dX10_feed_28 : decode cX10_feed 28 = .ok (.iload_n 2, 1) := by decide +kernel
theorem dX10_feed_29 : decode cX10_feed 29 = .ok (.invokevirtual 100, 3) := by decide +kernel
theorem dX10_feed_32 : decode cX10_feed 32 = .ok (.aload_n 0, 1) := by decide +kernel
theorem dX10_feed_33 : decode cX10_feed 33 = .ok (.iload_n 3, 1) := by decide +kernel
theorem dX10_feed_34 : decode cX10_feed 34 = .ok (.invokevirtual 100, 3) := by decide +kernel
theorem dX10_feed_37 : decode cX10_feed 37 = .ok (.aload_n 0, 1) := by decide +kernel
theorem dX10_feed_38 : decode cX10_feed 38 = .ok (.iload 4, 2) := by decide +kernel
theorem dX10_feed_40 : decode cX10_feed 40 = .ok (.invokevirtual 100, 3) := by decide +kernel
theorem dX10_feed_43 : decode cX10_feed 43 = .ok (.aload_n 0, 1) := by decide +kernel
theorem dX10_feed_44 : decode cX10_feed 44 = .ok (.iload 5, 2) := by decide +kernel
theorem dX10_feed_46 : decode cX10_feed 46 = .ok (.invokevirtual 100, 3) := by decide +kernel
theorem dX10_feed_49 : decode cX10_feed 49 = .ok (.aload_n 0, 1) := by decide +kernel
theorem dX10_feed_50 : decode cX10_feed 50 = .ok (.getfield 13, 3) := by decide +kernel
theorem dX10_feed_53 : decode cX10_feed 53 = .ok (.iconst 0, 1) := by decide +kernel
theorem dX10_feed_54 : decode cX10_feed 54 = .ok (.iaload, 1) := by decide +kernel
theorem dX10_feed_55 : decode cX10_feed 55 = .ok (.ireturn, 1) := by decide +kernel
theorem dX10_four_0 : decode cX10_four 0 = .ok (.bipush 24, 2) := by decide +kernel
theorem dX10_four_2 : decode cX10_four 2 = .ok (.istore_n 2, 1) := by decide +kernel
theorem dX10_four_3 : decode cX10_four 3 = .ok (.iload_n 2, 1) := by decide +kernel
theorem dX10_four_4 : decode cX10_four 4 = .ok (.ifCond .lt 34, 3) := by decide +kernel
theorem dX10_four_7 : decode cX10_four 7 = .ok (.aload_n 0, 1) := by decide +kernel
theorem dX10_four_8 : decode cX10_four 8 = .ok (.getfield 7, 3) := by decide +kernel
theorem dX10_four_11 : decode cX10_four 11 = .ok (.aload_n 0, 1) := by decide +kernel
theorem dX10_four_12 : decode cX10_four 12 = .ok (.getfield 13, 3) := by decide +kernel
theorem dX10_four_15 : decode cX10_four 15 = .ok (.iconst 0, 1) := by decide +kernel
theorem dX10_four_16 : decode cX10_four 16 = .ok (.iaload, 1) := by decide +kernel
theorem dX10_four_17 : decode cX10_four 17 = .ok (.iload_n 1, 1) := by decide +kernel
theorem dX10_four_18 : decode cX10_four 18 = .ok (.iload_n 2, 1) := by decide +kernel
theorem dX10_four_19 : decode cX10_four 19 = .ok (.ishr, 1) := by decide +kernel
theorem dX10_four_20 : decode cX10_four 20 = .ok (.i2b, 1) := by decide +kernel
theorem dX10_four_21 : decode cX10_four 21 = .ok (.bastore, 1) := by decide +kernel
theorem dX10_four_22 : decode cX10_four 22 = .ok (.aload_n 0, 1) := by decide +kernel
theorem dX10_four_23 : decode cX10_four 23 = .ok (.getfield 13, 3) := by decide +kernel
theorem dX10_four_26 : decode cX10_four 26 = .ok (.iconst 0, 1) := by decide +kernel
theorem dX10_four_27 : decode cX10_four 27 = .ok (.dup2, 1) := by decide +kernel
theorem dX10_four_28 : decode cX10_four 28 = .ok (.iaload, 1) := by decide +kernel
theorem dX10_four_29 : decode cX10_four 29 = .ok (.iconst 1, 1) := by decide +kernel
theorem dX10_four_30 : decode cX10_four 30 = .ok (.iadd, 1) := by decide +kernel
theorem dX10_four_31 : decode cX10_four 31 = .ok (.iastore, 1) := by decide +kernel
theorem dX10_four_32 : decode cX10_four 32 = .ok (.iinc 2 (-8), 3) := by decide +kernel
theorem dX10_four_35 : decode cX10_four 35 = .ok (.goto (-32), 3) := by decide +kernel
theorem dX10_four_38 : decode cX10_four 38 = .ok (.return_, 1) := by decide +kernel
theorem dX10_end_0 : decode cX10_end 0 = .ok (.aload_n 0, 1) := by decide +kernel
theorem dX10_end_1 : decode cX10_end 1 = .ok (.iconst 0, 1) := by decide +kernel
theorem dX10_end_2 : decode cX10_end 2 = .ok (.putfield 84, 3) := by decide +kernel
theorem dX10_end_5 : decode cX10_end 5 = .ok (.iload_n 1, 1) := by decide +kernel
theorem dX10_end_6 : decode cX10_end 6 = .ok (.iconst 0, 1) := by decide +kernel
theorem dX10_end_7 : decode cX10_end 7 = .ok (.aload_n 0, 1) := by decide +kernel
theorem dX10_end_8 : decode cX10_end 8 = .ok (.getfield 13, 3) := by decide +kernel
theorem dX10_end_11 : decode cX10_end 11 = .ok (.iconst 0, 1) := by decide +kernel
theorem dX10_end_12 : decode cX10_end 12 = .ok (.iaload, 1) := by decide +kernel
theorem dX10_end_13 : decode cX10_end 13 = .ok (.invokestatic 96, 3) := by decide +kernel
theorem dX10_end_16 : decode cX10_end 16 = .ok (.ifCond .ne 5, 3) := by decide +kernel
theorem dX10_end_19 : decode cX10_end 19 = .ok (.iconst (-1), 1) := by decide +kernel
theorem dX10_end_20 : decode cX10_end 20 = .ok (.ireturn, 1) := by decide +kernel
theorem dX10_end_21 : decode cX10_end 21 = .ok (.aload_n 0, 1) := by decide +kernel
theorem dX10_end_22 : decode cX10_end 22 = .ok (.getfield 13, 3) := by decide +kernel
theorem dX10_end_25 : decode cX10_end 25 = .ok (.iconst 0, 1) := by decide +kernel
theorem dX10_end_26 : decode cX10_end 26 = .ok (.iload_n 1, 1) := by decide +kernel
theorem dX10_end_27 : decode cX10_end 27 = .ok (.iastore, 1) := by decide +kernel
theorem dX10_end_28 : decode cX10_end 28 = .ok (.iload_n 1, 1) := by decide +kernel
theorem dX10_end_29 : decode cX10_end 29 = .ok (.ireturn, 1) := by decide +kernel
theorem dX10_see_0 : decode cX10_see 0 = .ok (.aload_n 0, 1) := by decide +kernel
theorem dX10_see_1 : decode cX10_see 1 = .ok (.getfield 104, 3) := by decide +kernel
theorem dX10_see_4 : decode cX10_see 4 = .ok (.aload_n 0, 1) := by decide +kernel
theorem dX10_see_5 : decode cX10_see 5 = .ok (.getfield 107, 3) := by decide +kernel
theorem dX10_see_8 : decode cX10_see 8 = .ok (.if_icmp .ge 19, 3) := by decide +kernel
theorem dX10_see_11 : decode cX10_see 11 = .ok (.aload_n 0, 1) := by decide +kernel
theorem dX10_see_12 : decode cX10_see 12 = .ok (.getfield 7, 3) := by decide +kernel
theorem dX10_see_15 : decode cX10_see 15 = .ok (.aload_n 0, 1) := by decide +kernel
theorem dX10_see_16 : decode cX10_see 16 = .ok (.getfield 104, 3) := by decide +kernel
theorem dX10_see_19 : decode cX10_see 19 = .ok (.baload, 1) := by decide +kernel
theorem dX10_see_20 : decode cX10_see 20 = .ok (.sipush 255, 3) := by decide +kernel
theorem dX10_see_23 : decode cX10_see 23 = .ok (.iand, 1) := by decide +kernel
theorem dX10_see_24 : decode cX10_see 24 = .ok (.goto 4, 3) := by decide +kernel
theorem dX10_see_27 : decode cX10_see 27 = .ok (.iconst (-1), 1) := by decide +kernel
theorem dX10_see_28 : decode cX10_see 28 = .ok (.ireturn, 1) := by decide +kernel
theorem dX10_token_0 : decode cX10_token 0 = .ok (.aload_n 0, 1) := by decide +kernel
theorem dX10_token_1 : decode cX10_token 1 = .ok (.invokevirtual 110, 3) := by decide +kernel
theorem dX10_token_4 : decode cX10_token 4 = .ok (.bipush 10, 2) := by decide +kernel
theorem dX10_token_6 : decode cX10_token 6 = .ok (.if_icmp .eq 12, 3) := by decide +kernel
theorem dX10_token_9 : decode cX10_token 9 = .ok (.aload_n 0, 1) := by decide +kernel
theorem dX10_token_10 : decode cX10_token 10 = .ok (.invokevirtual 110, 3) := by decide +kernel
theorem dX10_token_13 : decode cX10_token 13 = .ok (.bipush 32, 2) := by decide +kernel
theorem dX10_token_15 : decode cX10_token 15 = .ok (.if_icmp .ne 16, 3) := by decide +kernel
theorem dX10_token_18 : decode cX10_token 18 = .ok (.aload_n 0, 1) := by decide +kernel
theorem dX10_token_19 : decode cX10_token 19 = .ok (.dup, 1) := by decide +kernel
theorem dX10_token_20 : decode cX10_token 20 = .ok (.getfield 104, 3) := by decide +kernel
theorem dX10_token_23 : decode cX10_token 23 = .ok (.iconst 1, 1) := by decide +kernel
theorem dX10_token_24 : decode cX10_token 24 = .ok (.iadd, 1) := by decide +kernel
theorem dX10_token_25 : decode cX10_token 25 = .ok (.putfield 104, 3) := by decide +kernel
theorem dX10_token_28 : decode cX10_token 28 = .ok (.goto (-28), 3) := by decide +kernel
theorem dX10_token_31 : decode cX10_token 31 = .ok (.aload_n 0, 1) := by decide +kernel
theorem dX10_token_32 : decode cX10_token 32 = .ok (.aload_n 0, 1) := by decide +kernel
theorem dX10_token_33 : decode cX10_token 33 = .ok (.getfield 104, 3) := by decide +kernel
theorem dX10_token_36 : decode cX10_token 36 = .ok (.putfield 114, 3) := by decide +kernel
theorem dX10_token_39 : decode cX10_token 39 = .ok (.aload_n 0, 1) := by decide +kernel
theorem dX10_token_40 : decode cX10_token 40 = .ok (.invokevirtual 110, 3) := by decide +kernel
theorem dX10_token_43 : decode cX10_token 43 = .ok (.istore_n 1, 1) := by decide +kernel
theorem dX10_token_44 : decode cX10_token 44 = .ok (.aload_n 0, 1) := by decide +kernel
theorem dX10_token_45 : decode cX10_token 45 = .ok (.lconst 0, 1) := by decide +kernel
theorem dX10_token_46 : decode cX10_token 46 = .ok (.putfield 117, 3) := by decide +kernel
theorem dX10_token_49 : decode cX10_token 49 = .ok (.iconst 0, 1) := by decide +kernel
theorem dX10_token_50 : decode cX10_token 50 = .ok (.istore_n 2, 1) := by decide +kernel
theorem dX10_token_51 : decode cX10_token 51 = .ok (.iload_n 1, 1) := by decide +kernel
theorem dX10_token_52 : decode cX10_token 52 = .ok (.ifCond .ge 11, 3) := by decide +kernel
theorem dX10_token_55 : decode cX10_token 55 = .ok (.aload_n 0, 1) := by decide +kernel
theorem dX10_token_56 : decode cX10_token 56 = .ok (.iconst 0, 1) := by decide +kernel
theorem dX10_token_57 : decode cX10_token 57 = .ok (.putfield 121, 3) := by decide +kernel
theorem dX10_token_60 : decode cX10_token 60 = .ok (.goto 206, 3) := by decide +kernel
theorem dX10_token_63 : decode cX10_token 63 = .ok (.iload_n 1, 1) := by decide +kernel
theorem dX10_token_64 : decode cX10_token 64 = .ok (.bipush 97, 2) := by decide +kernel
theorem dX10_token_66 : decode cX10_token 66 = .ok (.bipush 122, 2) := by decide +kernel
theorem dX10_token_68 : decode cX10_token 68 = .ok (.invokestatic 96, 3) := by decide +kernel
theorem dX10_token_71 : decode cX10_token 71 = .ok (.ifCond .eq 76, 3) := by decide +kernel
theorem dX10_token_74 : decode cX10_token 74 = .ok (.aload_n 0, 1) := by decide +kernel
theorem dX10_token_75 : decode cX10_token 75 = .ok (.invokevirtual 110, 3) := by decide +kernel
theorem dX10_token_78 : decode cX10_token 78 = .ok (.bipush 97, 2) := by decide +kernel
theorem dX10_token_80 : decode cX10_token 80 = .ok (.bipush 122, 2) := by decide +kernel
theorem dX10_token_82 : decode cX10_token 82 = .ok (.invokestatic 96, 3) := by decide +kernel
theorem dX10_token_85 : decode cX10_token 85 = .ok (.ifCond .eq 36, 3) := by decide +kernel
theorem dX10_token_88 : decode cX10_token 88 = .ok (.aload_n 0, 1) := by decide +kernel
theorem dX10_token_89 : decode cX10_token 89 = .ok (.aload_n 0, 1) := by decide +kernel
theorem dX10_token_90 : decode cX10_token 90 = .ok (.getfield 117, 3) := by decide +kernel
theorem dX10_token_93 : decode cX10_token 93 = .ok (.bipush 8, 2) := by decide +kernel
theorem dX10_token_95 : decode cX10_token 95 = .ok (.lshl, 1) := by decide +kernel
theorem dX10_token_96 : decode cX10_token 96 = .ok (.aload_n 0, 1) := by decide +kernel
theorem dX10_token_97 : decode cX10_token 97 = .ok (.invokevirtual 110, 3) := by decide +kernel
theorem dX10_token_100 : decode cX10_token 100 = .ok (.i2l, 1) := by decide +kernel
theorem dX10_token_101 : decode cX10_token 101 = .ok (.lor, 1) := by decide +kernel
theorem dX10_token_102 : decode cX10_token 102 = .ok (.putfield 117, 3) := by decide +kernel
theorem dX10_token_105 : decode cX10_token 105 = .ok (.aload_n 0, 1) := by decide +kernel
theorem dX10_token_106 : decode cX10_token 106 = .ok (.dup, 1) := by decide +kernel
theorem dX10_token_107 : decode cX10_token 107 = .ok (.getfield 104, 3) := by decide +kernel
theorem dX10_token_110 : decode cX10_token 110 = .ok (.iconst 1, 1) := by decide +kernel
theorem dX10_token_111 : decode cX10_token 111 = .ok (.iadd, 1) := by decide +kernel
theorem dX10_token_112 : decode cX10_token 112 = .ok (.putfield 104, 3) := by decide +kernel
theorem dX10_token_115 : decode cX10_token 115 = .ok (.iinc 2 1, 3) := by decide +kernel
theorem dX10_token_118 : decode cX10_token 118 = .ok (.goto (-44), 3) := by decide +kernel
theorem dX10_token_121 : decode cX10_token 121 = .ok (.aload_n 0, 1) := by decide +kernel
theorem dX10_token_122 : decode cX10_token 122 = .ok (.iload_n 2, 1) := by decide +kernel
theorem dX10_token_123 : decode cX10_token 123 = .ok (.bipush 8, 2) := by decide +kernel
theorem dX10_token_125 : decode cX10_token 125 = .ok (.if_icmp .le 7, 3) := by decide +kernel
theorem dX10_token_128 : decode cX10_token 128 = .ok (.lconst 0, 1) := by decide +kernel
theorem dX10_token_129 : decode cX10_token 129 = .ok (.goto 7, 3) := by decide +kernel
theorem dX10_token_132 : decode cX10_token 132 = .ok (.aload_n 0, 1) := by decide +kernel
theorem dX10_token_133 : decode cX10_token 133 = .ok (.getfield 117, 3) := by decide +kernel
theorem dX10_token_136 : decode cX10_token 136 = .ok (.putfield 117, 3) := by decide +kernel
theorem dX10_token_139 : decode cX10_token 139 = .ok (.aload_n 0, 1) := by decide +kernel
theorem dX10_token_140 : decode cX10_token 140 = .ok (.iconst 2, 1) := by decide +kernel
theorem dX10_token_141 : decode cX10_token 141 = .ok (.putfield 121, 3) := by decide +kernel
theorem dX10_token_144 : decode cX10_token 144 = .ok (.goto 122, 3) := by decide +kernel
theorem dX10_token_147 : decode cX10_token 147 = .ok (.iload_n 1, 1) := by decide +kernel
theorem dX10_token_148 : decode cX10_token 148 = .ok (.bipush 48, 2) := by decide +kernel
theorem dX10_token_150 : decode cX10_token 150 = .ok (.bipush 57, 2) := by decide +kernel
theorem dX10_token_152 : decode cX10_token 152 = .ok (.invokestatic 96, 3) := by decide +kernel
theorem dX10_token_155 : decode cX10_token 155 = .ok (.ifCond .eq 86, 3) := by decide +kernel
theorem dX10_token_158 : decode cX10_token 158 = .ok (.aload_n 0, 1) := by decide +kernel
theorem dX10_token_159 : decode cX10_token 159 = .ok (.iconst 0, 1) := by decide +kernel
theorem dX10_token_160 : decode cX10_token 160 = .ok (.putfield 124, 3) := by decide +kernel
theorem dX10_token_163 : decode cX10_token 163 = .ok (.aload_n 0, 1) := by decide +kernel
theorem dX10_token_164 : decode cX10_token 164 = .ok (.invokevirtual 110, 3) := by decide +kernel
theorem dX10_token_167 : decode cX10_token 167 = .ok (.bipush 48, 2) := by decide +kernel
theorem dX10_token_169 : decode cX10_token 169 = .ok (.bipush 57, 2) := by decide +kernel
theorem dX10_token_171 : decode cX10_token 171 = .ok (.invokestatic 96, 3) := by decide +kernel
theorem dX10_token_174 : decode cX10_token 174 = .ok (.ifCond .eq 50, 3) := by decide +kernel
theorem dX10_token_177 : decode cX10_token 177 = .ok (.aload_n 0, 1) := by decide +kernel
theorem dX10_token_178 : decode cX10_token 178 = .ok (.iload_n 2, 1) := by decide +kernel
theorem dX10_token_179 : decode cX10_token 179 = .ok (.iconst 2, 1) := by decide +kernel
theorem dX10_token_180 : decode cX10_token 180 = .ok (.if_icmp .ge 21, 3) := by decide +kernel
theorem dX10_token_183 : decode cX10_token 183 = .ok (.bipush 10, 2) := by decide +kernel
theorem dX10_token_185 : decode cX10_token 185 = .ok (.aload_n 0, 1) := by decide +kernel
theorem dX10_token_186 : decode cX10_token 186 = .ok (.getfield 124, 3) := by decide +kernel
theorem dX10_token_189 : decode cX10_token 189 = .ok (.imul, 1) := by decide +kernel
theorem dX10_token_190 : decode cX10_token 190 = .ok (.aload_n 0, 1) := by decide +kernel
theorem dX10_token_191 : decode cX10_token 191 = .ok (.invokevirtual 110, 3) := by decide +kernel
theorem dX10_token_194 : decode cX10_token 194 = .ok (.iadd, 1) := by decide +kernel
theorem dX10_token_195 : decode cX10_token 195 = .ok (.bipush 48, 2) := by decide +kernel
theorem dX10_token_197 : decode cX10_token 197 = .ok (.isub, 1) := by decide +kernel
theorem dX10_token_198 : decode cX10_token 198 = .ok (.goto 7, 3) := by decide +kernel
theorem dX10_token_201 : decode cX10_token 201 = .ok (.aload_n 0, 1) := by decide +kernel
theorem dX10_token_202 : decode cX10_token 202 = .ok (.getfield 124, 3) := by decide +kernel
theorem dX10_token_205 : decode cX10_token 205 = .ok (.putfield 124, 3) := by decide +kernel
theorem dX10_token_208 : decode cX10_token 208 = .ok (.aload_n 0, 1) := by decide +kernel
theorem dX10_token_209 : decode cX10_token 209 = .ok (.dup, 1) := by decide +kernel
theorem dX10_token_210 : decode cX10_token 210 = .ok (.getfield 104, 3) := by decide +kernel
theorem dX10_token_213 : decode cX10_token 213 = .ok (.iconst 1, 1) := by decide +kernel
theorem dX10_token_214 : decode cX10_token 214 = .ok (.iadd, 1) := by decide +kernel
theorem dX10_token_215 : decode cX10_token 215 = .ok (.putfield 104, 3) := by decide +kernel
theorem dX10_token_218 : decode cX10_token 218 = .ok (.iinc 2 1, 3) := by decide +kernel
theorem dX10_token_221 : decode cX10_token 221 = .ok (.goto (-58), 3) := by decide +kernel
theorem dX10_token_224 : decode cX10_token 224 = .ok (.aload_n 0, 1) := by decide +kernel
theorem dX10_token_225 : decode cX10_token 225 = .ok (.iload_n 2, 1) := by decide +kernel
theorem dX10_token_226 : decode cX10_token 226 = .ok (.iconst 2, 1) := by decide +kernel
theorem dX10_token_227 : decode cX10_token 227 = .ok (.if_icmp .le 7, 3) := by decide +kernel
theorem dX10_token_230 : decode cX10_token 230 = .ok (.iconst 1, 1) := by decide +kernel
theorem dX10_token_231 : decode cX10_token 231 = .ok (.goto 4, 3) := by decide +kernel
theorem dX10_token_234 : decode cX10_token 234 = .ok (.iconst 3, 1) := by decide +kernel
theorem dX10_token_235 : decode cX10_token 235 = .ok (.putfield 121, 3) := by decide +kernel
theorem dX10_token_238 : decode cX10_token 238 = .ok (.goto 28, 3) := by decide +kernel
theorem dX10_token_241 : decode cX10_token 241 = .ok (.aload_n 0, 1) := by decide +kernel
theorem dX10_token_242 : decode cX10_token 242 = .ok (.dup, 1) := by decide +kernel
theorem dX10_token_243 : decode cX10_token 243 = .ok (.getfield 104, 3) := by decide +kernel
theorem dX10_token_246 : decode cX10_token 246 = .ok (.iconst 1, 1) := by decide +kernel
theorem dX10_token_247 : decode cX10_token 247 = .ok (.iadd, 1) := by decide +kernel
theorem dX10_token_248 : decode cX10_token 248 = .ok (.putfield 104, 3) := by decide +kernel
theorem dX10_token_251 : decode cX10_token 251 = .ok (.aload_n 0, 1) := by decide +kernel
theorem dX10_token_252 : decode cX10_token 252 = .ok (.iload_n 1, 1) := by decide +kernel
theorem dX10_token_253 : decode cX10_token 253 = .ok (.bipush 59, 2) := by decide +kernel
theorem dX10_token_255 : decode cX10_token 255 = .ok (.if_icmp .ne 7, 3) := by decide +kernel
theorem dX10_token_258 : decode cX10_token 258 = .ok (.iconst 4, 1) := by decide +kernel
theorem dX10_token_259 : decode cX10_token 259 = .ok (.goto 4, 3) := by decide +kernel
theorem dX10_token_262 : decode cX10_token 262 = .ok (.iconst 1, 1) := by decide +kernel
theorem dX10_token_263 : decode cX10_token 263 = .ok (.putfield 121, 3) := by decide +kernel
theorem dX10_token_266 : decode cX10_token 266 = .ok (.return_, 1) := by decide +kernel
theorem dX10_fails_0 : decode cX10_fails 0 = .ok (.aload_n 0, 1) := by decide +kernel
theorem dX10_fails_1 : decode cX10_fails 1 = .ok (.aload_n 0, 1) := by decide +kernel
theorem dX10_fails_2 : decode cX10_fails 2 = .ok (.getfield 114, 3) := by decide +kernel
theorem dX10_fails_5 : decode cX10_fails 5 = .ok (.putfield 127, 3) := by decide +kernel
theorem dX10_fails_8 : decode cX10_fails 8 = .ok (.iconst 0, 1) := by decide +kernel
theorem dX10_fails_9 : decode cX10_fails 9 = .ok (.ireturn, 1) := by decide +kernel
theorem dX10_later_0 : decode cX10_later 0 = .ok (.aload_n 0, 1) := by decide +kernel
theorem dX10_later_1 : decode cX10_later 1 = .ok (.getfield 130, 3) := by decide +kernel
theorem dX10_later_4 : decode cX10_later 4 = .ok (.ifCond .eq 27, 3) := by decide +kernel
theorem dX10_later_7 : decode cX10_later 7 = .ok (.iload_n 2, 1) := by decide +kernel
theorem dX10_later_8 : decode cX10_later 8 = .ok (.aload_n 0, 1) := by decide +kernel
theorem dX10_later_9 : decode cX10_later 9 = .ok (.getfield 133, 3) := by decide +kernel
theorem dX10_later_12 : decode cX10_later 12 = .ok (.if_icmp .lt 19, 3) := by decide +kernel
theorem dX10_later_15 : decode cX10_later 15 = .ok (.iload_n 2, 1) := by decide +kernel
theorem dX10_later_16 : decode cX10_later 16 = .ok (.aload_n 0, 1) := by decide +kernel
theorem dX10_later_17 : decode cX10_later 17 = .ok (.getfield 133, 3) := by decide +kernel
theorem dX10_later_20 : decode cX10_later 20 = .ok (.if_icmp .ne 21, 3) := by decide +kernel
theorem dX10_later_23 : decode cX10_later 23 = .ok (.iload_n 1, 1) := by decide +kernel
theorem dX10_later_24 : decode cX10_later 24 = .ok (.aload_n 0, 1) := by decide +kernel
theorem dX10_later_25 : decode cX10_later 25 = .ok (.getfield 130, 3) := by decide +kernel
theorem dX10_later_28 : decode cX10_later 28 = .ok (.if_icmp .ge 13, 3) := by decide +kernel
theorem dX10_later_31 : decode cX10_later 31 = .ok (.aload_n 0, 1) := by decide +kernel
theorem dX10_later_32 : decode cX10_later 32 = .ok (.iload_n 1, 1) := by decide +kernel
theorem dX10_later_33 : decode cX10_later 33 = .ok (.putfield 130, 3) := by decide +kernel
theorem dX10_later_36 : decode cX10_later 36 = .ok (.aload_n 0, 1) := by decide +kernel
theorem dX10_later_37 : decode cX10_later 37 = .ok (.iload_n 2, 1) := by decide +kernel
theorem dX10_later_38 : decode cX10_later 38 = .ok (.putfield 133, 3) := by decide +kernel
theorem dX10_later_41 : decode cX10_later 41 = .ok (.return_, 1) := by decide +kernel
theorem dX10_takeBut_0 : decode cX10_takeBut 0 = .ok (.aload_n 0, 1) := by decide +kernel
theorem dX10_takeBut_1 : decode cX10_takeBut 1 = .ok (.getfield 121, 3) := by decide +kernel
theorem dX10_takeBut_4 : decode cX10_takeBut 4 = .ok (.iconst 3, 1) := by decide +kernel
theorem dX10_takeBut_5 : decode cX10_takeBut 5 = .ok (.if_icmp .eq 8, 3) := by decide +kernel
theorem dX10_takeBut_8 : decode cX10_takeBut 8 = .ok (.aload_n 0, 1) := by decide +kernel
theorem dX10_takeBut_9 : decode cX10_takeBut 9 = .ok (.invokevirtual 136, 3) := by decide +kernel
theorem dX10_takeBut_12 : decode cX10_takeBut 12 = .ok (.ireturn, 1) := by decide +kernel
theorem dX10_takeBut_13 : decode cX10_takeBut 13 = .ok (.aload_n 0, 1) := by decide +kernel
theorem dX10_takeBut_14 : decode cX10_takeBut 14 = .ok (.getfield 41, 3) := by decide +kernel
theorem dX10_takeBut_17 : decode cX10_takeBut 17 = .ok (.iload_n 1, 1) := by decide +kernel
theorem dX10_takeBut_18 : decode cX10_takeBut 18 = .ok (.aload_n 0, 1) := by decide +kernel
theorem dX10_takeBut_19 : decode cX10_takeBut 19 = .ok (.getfield 124, 3) := by decide +kernel
theorem dX10_takeBut_22 : decode cX10_takeBut 22 = .ok (.iastore, 1) := by decide +kernel
theorem dX10_takeBut_23 : decode cX10_takeBut 23 = .ok (.aload_n 0, 1) := by decide +kernel
theorem dX10_takeBut_24 : decode cX10_takeBut 24 = .ok (.getfield 124, 3) := by decide +kernel
theorem dX10_takeBut_27 : decode cX10_takeBut 27 = .ok (.iload_n 2, 1) := by decide +kernel
theorem dX10_takeBut_28 : decode cX10_takeBut 28 = .ok (.iload_n 3, 1) := by decide +kernel
theorem dX10_takeBut_29 : decode cX10_takeBut 29 = .ok (.invokestatic 96, 3) := by decide +kernel
theorem dX10_takeBut_32 : decode cX10_takeBut 32 = .ok (.ifCond .eq 21, 3) := by decide +kernel
theorem dX10_takeBut_35 : decode cX10_takeBut 35 = .ok (.aload_n 0, 1) := by decide +kernel
theorem dX10_takeBut_36 : decode cX10_takeBut 36 = .ok (.getfield 124, 3) := by decide +kernel
theorem dX10_takeBut_39 : decode cX10_takeBut 39 = .ok (.iload 4, 2) := by decide +kernel
theorem dX10_takeBut_41 : decode cX10_takeBut 41 = .ok (.if_icmp .eq 12, 3) := by decide +kernel
theorem dX10_takeBut_44 : decode cX10_takeBut 44 = .ok (.aload_n 0, 1) := by decide +kernel
theorem dX10_takeBut_45 : decode cX10_takeBut 45 = .ok (.getfield 124, 3) := by decide +kernel
theorem dX10_takeBut_48 : decode cX10_takeBut 48 = .ok (.iload 5, 2) := by decide +kernel
theorem dX10_takeBut_50 : decode cX10_takeBut 50 = .ok (.if_icmp .ne 17, 3) := by decide +kernel
theorem dX10_takeBut_53 : decode cX10_takeBut 53 = .ok (.aload_n 0, 1) := by decide +kernel
theorem dX10_takeBut_54 : decode cX10_takeBut 54 = .ok (.iconst 2, 1) := by decide +kernel
theorem dX10_takeBut_55 : decode cX10_takeBut 55 = .ok (.aload_n 0, 1) := by decide +kernel
theorem dX10_takeBut_56 : decode cX10_takeBut 56 = .ok (.getfield 114, 3) := by decide +kernel
theorem dX10_takeBut_59 : decode cX10_takeBut 59 = .ok (.invokevirtual 140, 3) := by decide +kernel
theorem dX10_takeBut_62 : decode cX10_takeBut 62 = .ok (.aload_n 0, 1) := by decide +kernel
theorem dX10_takeBut_63 : decode cX10_takeBut 63 = .ok (.iconst 0, 1) := by decide +kernel
theorem dX10_takeBut_64 : decode cX10_takeBut 64 = .ok (.putfield 144, 3) := by decide +kernel
theorem dX10_takeBut_67 : decode cX10_takeBut 67 = .ok (.aload_n 0, 1) := by decide +kernel
theorem dX10_takeBut_68 : decode cX10_takeBut 68 = .ok (.invokevirtual 148, 3) := by decide +kernel
theorem dX10_takeBut_71 : decode cX10_takeBut 71 = .ok (.iconst 1, 1) := by decide +kernel
theorem dX10_takeBut_72 : decode cX10_takeBut 72 = .ok (.ireturn, 1) := by decide +kernel
