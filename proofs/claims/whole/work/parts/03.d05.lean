theorem dX10_play_0 : decode cX10_play 0 = .ok (.aload_n 0, 1) := by decide +kernel
theorem dX10_play_1 : decode cX10_play 1 = .ok (.invokevirtual 346, 3) := by decide +kernel
theorem dX10_play_4 : decode cX10_play 4 = .ok (.iconst 0, 1) := by decide +kernel
theorem dX10_play_5 : decode cX10_play 5 = .ok (.istore_n 2, 1) := by decide +kernel
theorem dX10_play_6 : decode cX10_play 6 = .ok (.iload_n 2, 1) := by decide +kernel
theorem dX10_play_7 : decode cX10_play 7 = .ok (.iload_n 1, 1) := by decide +kernel
theorem dX10_play_8 : decode cX10_play 8 = .ok (.if_icmp .ge 17, 3) := by decide +kernel
theorem dX10_play_11 : decode cX10_play 11 = .ok (.aload_n 0, 1) := by decide +kernel
theorem dX10_play_12 : decode cX10_play 12 = .ok (.iload_n 2, 1) := by decide +kernel
theorem dX10_play_13 : decode cX10_play 13 = .ok (.invokevirtual 349, 3) := by decide +kernel
theorem dX10_play_16 : decode cX10_play 16 = .ok (.ifCond .eq 9, 3) := by decide +kernel
theorem dX10_play_19 : decode cX10_play 19 = .ok (.iinc 2 1, 3) := by decide +kernel
theorem dX10_play_22 : decode cX10_play 22 = .ok (.goto (-16), 3) := by decide +kernel
theorem dX10_play_25 : decode cX10_play 25 = .ok (.iload_n 2, 1) := by decide +kernel
theorem dX10_play_26 : decode cX10_play 26 = .ok (.ireturn, 1) := by decide +kernel
theorem dX10_layAll_0 : decode cX10_layAll 0 = .ok (.aload_n 0, 1) := by decide +kernel
theorem dX10_layAll_1 : decode cX10_layAll 1 = .ok (.iload_n 2, 1) := by decide +kernel
theorem dX10_layAll_2 : decode cX10_layAll 2 = .ok (.invokevirtual 302, 3) := by decide +kernel
theorem dX10_layAll_5 : decode cX10_layAll 5 = .ok (.ifCond .eq 15, 3) := by decide +kernel
theorem dX10_layAll_8 : decode cX10_layAll 8 = .ok (.aload_n 0, 1) := by decide +kernel
theorem dX10_layAll_9 : decode cX10_layAll 9 = .ok (.iload_n 1, 1) := by decide +kernel
theorem dX10_layAll_10 : decode cX10_layAll 10 = .ok (.invokevirtual 287, 3) := by decide +kernel
theorem dX10_layAll_13 : decode cX10_layAll 13 = .ok (.ifCond .eq 7, 3) := by decide +kernel
theorem dX10_layAll_16 : decode cX10_layAll 16 = .ok (.iconst 1, 1) := by decide +kernel
theorem dX10_layAll_17 : decode cX10_layAll 17 = .ok (.goto 4, 3) := by decide +kernel
theorem dX10_layAll_20 : decode cX10_layAll 20 = .ok (.iconst 0, 1) := by decide +kernel
theorem dX10_layAll_21 : decode cX10_layAll 21 = .ok (.ireturn, 1) := by decide +kernel
theorem dX10_till_0 : decode cX10_till 0 = .ok (.aload_n 0, 1) := by decide +kernel
theorem dX10_till_1 : decode cX10_till 1 = .ok (.iconst 0, 1) := by decide +kernel
theorem dX10_till_2 : decode cX10_till 2 = .ok (.putfield 84, 3) := by decide +kernel
theorem dX10_till_5 : decode cX10_till 5 = .ok (.aload_n 0, 1) := by decide +kernel
theorem dX10_till_6 : decode cX10_till 6 = .ok (.iload_n 1, 1) := by decide +kernel
theorem dX10_till_7 : decode cX10_till 7 = .ok (.iload_n 2, 1) := by decide +kernel
theorem dX10_till_8 : decode cX10_till 8 = .ok (.invokevirtual 352, 3) := by decide +kernel
theorem dX10_till_11 : decode cX10_till 11 = .ok (.ifCond .eq 14, 3) := by decide +kernel
theorem dX10_till_14 : decode cX10_till 14 = .ok (.aload_n 0, 1) := by decide +kernel
theorem dX10_till_15 : decode cX10_till 15 = .ok (.aload_n 0, 1) := by decide +kernel
theorem dX10_till_16 : decode cX10_till 16 = .ok (.invokevirtual 305, 3) := by decide +kernel
theorem dX10_till_19 : decode cX10_till 19 = .ok (.invokevirtual 355, 3) := by decide +kernel
theorem dX10_till_22 : decode cX10_till 22 = .ok (.goto 4, 3) := by decide +kernel
theorem dX10_till_25 : decode cX10_till 25 = .ok (.iconst (-1), 1) := by decide +kernel
theorem dX10_till_26 : decode cX10_till 26 = .ok (.ireturn, 1) := by decide +kernel
theorem dX10_bright_0 : decode cX10_bright 0 = .ok (.iconst (-1), 1) := by decide +kernel
theorem dX10_bright_1 : decode cX10_bright 1 = .ok (.istore_n 1, 1) := by decide +kernel
theorem dX10_bright_2 : decode cX10_bright 2 = .ok (.iconst 0, 1) := by decide +kernel
theorem dX10_bright_3 : decode cX10_bright 3 = .ok (.istore_n 2, 1) := by decide +kernel
theorem dX10_bright_4 : decode cX10_bright 4 = .ok (.iload_n 2, 1) := by decide +kernel
theorem dX10_bright_5 : decode cX10_bright 5 = .ok (.aload_n 0, 1) := by decide +kernel
theorem dX10_bright_6 : decode cX10_bright 6 = .ok (.getfield 275, 3) := by decide +kernel
theorem dX10_bright_9 : decode cX10_bright 9 = .ok (.if_icmp .ge 53, 3) := by decide +kernel
theorem dX10_bright_12 : decode cX10_bright 12 = .ok (.aload_n 0, 1) := by decide +kernel
theorem dX10_bright_13 : decode cX10_bright 13 = .ok (.getfield 47, 3) := by decide +kernel
theorem dX10_bright_16 : decode cX10_bright 16 = .ok (.iload_n 2, 1) := by decide +kernel
theorem dX10_bright_17 : decode cX10_bright 17 = .ok (.iaload, 1) := by decide +kernel
theorem dX10_bright_18 : decode cX10_bright 18 = .ok (.aload_n 0, 1) := by decide +kernel
theorem dX10_bright_19 : decode cX10_bright 19 = .ok (.getfield 50, 3) := by decide +kernel
theorem dX10_bright_22 : decode cX10_bright 22 = .ok (.iload_n 2, 1) := by decide +kernel
theorem dX10_bright_23 : decode cX10_bright 23 = .ok (.iaload, 1) := by decide +kernel
theorem dX10_bright_24 : decode cX10_bright 24 = .ok (.iadd, 1) := by decide +kernel
theorem dX10_bright_25 : decode cX10_bright 25 = .ok (.iload_n 1, 1) := by decide +kernel
theorem dX10_bright_26 : decode cX10_bright 26 = .ok (.iconst (-1), 1) := by decide +kernel
theorem dX10_bright_27 : decode cX10_bright 27 = .ok (.if_icmp .ne 7, 3) := by decide +kernel
theorem dX10_bright_30 : decode cX10_bright 30 = .ok (.iconst 0, 1) := by decide +kernel
theorem dX10_bright_31 : decode cX10_bright 31 = .ok (.goto 16, 3) := by decide +kernel
theorem dX10_bright_34 : decode cX10_bright 34 = .ok (.aload_n 0, 1) := by decide +kernel
theorem dX10_bright_35 : decode cX10_bright 35 = .ok (.getfield 47, 3) := by decide +kernel
theorem dX10_bright_38 : decode cX10_bright 38 = .ok (.iload_n 1, 1) := by decide +kernel
theorem dX10_bright_39 : decode cX10_bright 39 = .ok (.iaload, 1) := by decide +kernel
theorem dX10_bright_40 : decode cX10_bright 40 = .ok (.aload_n 0, 1) := by decide +kernel
theorem dX10_bright_41 : decode cX10_bright 41 = .ok (.getfield 50, 3) := by decide +kernel
theorem dX10_bright_44 : decode cX10_bright 44 = .ok (.iload_n 1, 1) := by decide +kernel
theorem dX10_bright_45 : decode cX10_bright 45 = .ok (.iaload, 1) := by decide +kernel
theorem dX10_bright_46 : decode cX10_bright 46 = .ok (.iadd, 1) := by decide +kernel
theorem dX10_bright_47 : decode cX10_bright 47 = .ok (.if_icmp .le 7, 3) := by decide +kernel
theorem dX10_bright_50 : decode cX10_bright 50 = .ok (.iload_n 2, 1) := by decide +kernel
theorem dX10_bright_51 : decode cX10_bright 51 = .ok (.goto 4, 3) := by decide +kernel
theorem dX10_bright_54 : decode cX10_bright 54 = .ok (.iload_n 1, 1) := by decide +kernel
theorem dX10_bright_55 : decode cX10_bright 55 = .ok (.istore_n 1, 1) := by decide +kernel
theorem dX10_bright_56 : decode cX10_bright 56 = .ok (.iinc 2 1, 3) := by decide +kernel
theorem dX10_bright_59 : decode cX10_bright 59 = .ok (.goto (-55), 3) := by decide +kernel
theorem dX10_bright_62 : decode cX10_bright 62 = .ok (.iload_n 1, 1) := by decide +kernel
theorem dX10_bright_63 : decode cX10_bright 63 = .ok (.ireturn, 1) := by decide +kernel
theorem dX10_isDusk_0 : decode cX10_isDusk 0 = .ok (.iconst 0, 1) := by decide +kernel
theorem dX10_isDusk_1 : decode cX10_isDusk 1 = .ok (.istore_n 1, 1) := by decide +kernel
theorem dX10_isDusk_2 : decode cX10_isDusk 2 = .ok (.iconst 0, 1) := by decide +kernel
theorem dX10_isDusk_3 : decode cX10_isDusk 3 = .ok (.istore_n 2, 1) := by decide +kernel
theorem dX10_isDusk_4 : decode cX10_isDusk 4 = .ok (.iload_n 2, 1) := by decide +kernel
theorem dX10_isDusk_5 : decode cX10_isDusk 5 = .ok (.aload_n 0, 1) := by decide +kernel
theorem dX10_isDusk_6 : decode cX10_isDusk 6 = .ok (.getfield 275, 3) := by decide +kernel
theorem dX10_isDusk_9 : decode cX10_isDusk 9 = .ok (.if_icmp .ge 33, 3) := by decide +kernel
theorem dX10_isDusk_12 : decode cX10_isDusk 12 = .ok (.iload_n 1, 1) := by decide +kernel
theorem dX10_isDusk_13 : decode cX10_isDusk 13 = .ok (.aload_n 0, 1) := by decide +kernel
theorem dX10_isDusk_14 : decode cX10_isDusk 14 = .ok (.getfield 47, 3) := by decide +kernel
theorem dX10_isDusk_17 : decode cX10_isDusk 17 = .ok (.iload_n 2, 1) := by decide +kernel
theorem dX10_isDusk_18 : decode cX10_isDusk 18 = .ok (.iaload, 1) := by decide +kernel
theorem dX10_isDusk_19 : decode cX10_isDusk 19 = .ok (.aload_n 0, 1) := by decide +kernel
theorem dX10_isDusk_20 : decode cX10_isDusk 20 = .ok (.getfield 50, 3) := by decide +kernel
theorem dX10_isDusk_23 : decode cX10_isDusk 23 = .ok (.iload_n 2, 1) := by decide +kernel
theorem dX10_isDusk_24 : decode cX10_isDusk 24 = .ok (.iaload, 1) := by decide +kernel
theorem dX10_isDusk_25 : decode cX10_isDusk 25 = .ok (.iadd, 1) := by decide +kernel
theorem dX10_isDusk_26 : decode cX10_isDusk 26 = .ok (.ifCond .le 7, 3) := by decide +kernel
theorem dX10_isDusk_29 : decode cX10_isDusk 29 = .ok (.iconst 1, 1) := by decide +kernel
theorem dX10_isDusk_30 : decode cX10_isDusk 30 = .ok (.goto 4, 3) := by decide +kernel
theorem dX10_isDusk_33 : decode cX10_isDusk 33 = .ok (.iconst 0, 1) := by decide +kernel
theorem dX10_isDusk_34 : decode cX10_isDusk 34 = .ok (.iadd, 1) := by decide +kernel
theorem dX10_isDusk_35 : decode cX10_isDusk 35 = .ok (.istore_n 1, 1) := by decide +kernel
theorem dX10_isDusk_36 : decode cX10_isDusk 36 = .ok (.iinc 2 1, 3) := by decide +kernel
theorem dX10_isDusk_39 : decode cX10_isDusk 39 = .ok (.goto (-35), 3) := by decide +kernel
theorem dX10_isDusk_42 : decode cX10_isDusk 42 = .ok (.iload_n 1, 1) := by decide +kernel
theorem dX10_isDusk_43 : decode cX10_isDusk 43 = .ok (.iconst 1, 1) := by decide +kernel
theorem dX10_isDusk_44 : decode cX10_isDusk 44 = .ok (.if_icmp .le 7, 3) := by decide +kernel
theorem dX10_isDusk_47 : decode cX10_isDusk 47 = .ok (.iconst 1, 1) := by decide +kernel
theorem dX10_isDusk_48 : decode cX10_isDusk 48 = .ok (.goto 4, 3) := by decide +kernel
theorem dX10_isDusk_51 : decode cX10_isDusk 51 = .ok (.iconst 0, 1) := by decide +kernel
theorem dX10_isDusk_52 : decode cX10_isDusk 52 = .ok (.ireturn, 1) := by decide +kernel
theorem dX10_ofState_0 : decode cX10_ofState 0 = .ok (.iload_n 1, 1) := by decide +kernel
theorem dX10_ofState_1 : decode cX10_ofState 1 = .ok (.bipush 10, 2) := by decide +kernel
theorem dX10_ofState_3 : decode cX10_ofState 3 = .ok (.bipush 39, 2) := by decide +kernel
theorem dX10_ofState_5 : decode cX10_ofState 5 = .ok (.invokestatic 96, 3) := by decide +kernel
theorem dX10_ofState_8 : decode cX10_ofState 8 = .ok (.ifCond .eq 58, 3) := by decide +kernel
theorem dX10_ofState_11 : decode cX10_ofState 11 = .ok (.iload_n 1, 1) := by decide +kernel
theorem dX10_ofState_12 : decode cX10_ofState 12 = .ok (.bipush 10, 2) := by decide +kernel
theorem dX10_ofState_14 : decode cX10_ofState 14 = .ok (.irem, 1) := by decide +kernel
theorem dX10_ofState_15 : decode cX10_ofState 15 = .ok (.istore_n 2, 1) := by decide +kernel
theorem dX10_ofState_16 : decode cX10_ofState 16 = .ok (.iload_n 2, 1) := by decide +kernel
theorem dX10_ofState_17 : decode cX10_ofState 17 = .ok (.aload_n 0, 1) := by decide +kernel
theorem dX10_ofState_18 : decode cX10_ofState 18 = .ok (.getfield 275, 3) := by decide +kernel
theorem dX10_ofState_21 : decode cX10_ofState 21 = .ok (.if_icmp .lt 8, 3) := by decide +kernel
theorem dX10_ofState_24 : decode cX10_ofState 24 = .ok (.bipush (-2), 2) := by decide +kernel
theorem dX10_ofState_26 : decode cX10_ofState 26 = .ok (.goto 39, 3) := by decide +kernel
theorem dX10_ofState_29 : decode cX10_ofState 29 = .ok (.iload_n 1, 1) := by decide +kernel
theorem dX10_ofState_30 : decode cX10_ofState 30 = .ok (.bipush 20, 2) := by decide +kernel
theorem dX10_ofState_32 : decode cX10_ofState 32 = .ok (.if_icmp .ge 12, 3) := by decide +kernel
theorem dX10_ofState_35 : decode cX10_ofState 35 = .ok (.aload_n 0, 1) := by decide +kernel
theorem dX10_ofState_36 : decode cX10_ofState 36 = .ok (.getfield 47, 3) := by decide +kernel
theorem dX10_ofState_39 : decode cX10_ofState 39 = .ok (.iload_n 2, 1) := by decide +kernel
theorem dX10_ofState_40 : decode cX10_ofState 40 = .ok (.iaload, 1) := by decide +kernel
theorem dX10_ofState_41 : decode cX10_ofState 41 = .ok (.goto 24, 3) := by decide +kernel
theorem dX10_ofState_44 : decode cX10_ofState 44 = .ok (.iload_n 1, 1) := by decide +kernel
theorem dX10_ofState_45 : decode cX10_ofState 45 = .ok (.bipush 30, 2) := by decide +kernel
theorem dX10_ofState_47 : decode cX10_ofState 47 = .ok (.if_icmp .ge 12, 3) := by decide +kernel
theorem dX10_ofState_50 : decode cX10_ofState 50 = .ok (.aload_n 0, 1) := by decide +kernel
theorem dX10_ofState_51 : decode cX10_ofState 51 = .ok (.getfield 50, 3) := by decide +kernel
theorem dX10_ofState_54 : decode cX10_ofState 54 = .ok (.iload_n 2, 1) := by decide +kernel
theorem dX10_ofState_55 : decode cX10_ofState 55 = .ok (.iaload, 1) := by decide +kernel
theorem dX10_ofState_56 : decode cX10_ofState 56 = .ok (.goto 9, 3) := by decide +kernel
theorem dX10_ofState_59 : decode cX10_ofState 59 = .ok (.aload_n 0, 1) := by decide +kernel
theorem dX10_ofState_60 : decode cX10_ofState 60 = .ok (.getfield 44, 3) := by decide +kernel
theorem dX10_ofState_63 : decode cX10_ofState 63 = .ok (.iload_n 2, 1) := by decide +kernel
theorem dX10_ofState_64 : decode cX10_ofState 64 = .ok (.iaload, 1) := by decide +kernel
theorem dX10_ofState_65 : decode cX10_ofState 65 = .ok (.ireturn, 1) := by decide +kernel
theorem dX10_ofState_66 : decode cX10_ofState 66 = .ok (.iload_n 1, 1) := by decide +kernel
theorem dX10_ofState_67 : decode cX10_ofState 67 = .ok (.tableswitch 66 0 4 #[33, 38, 43, 56, 61], 33) := by decide +kernel
theorem dX10_ofState_100 : decode cX10_ofState 100 = .ok (.aload_n 0, 1) := by decide +kernel
theorem dX10_ofState_101 : decode cX10_ofState 101 = .ok (.getfield 311, 3) := by decide +kernel
theorem dX10_ofState_104 : decode cX10_ofState 104 = .ok (.ireturn, 1) := by decide +kernel
theorem dX10_ofState_105 : decode cX10_ofState 105 = .ok (.aload_n 0, 1) := by decide +kernel
theorem dX10_ofState_106 : decode cX10_ofState 106 = .ok (.invokevirtual 358, 3) := by decide +kernel
theorem dX10_ofState_109 : decode cX10_ofState 109 = .ok (.ireturn, 1) := by decide +kernel
theorem dX10_ofState_110 : decode cX10_ofState 110 = .ok (.aload_n 0, 1) := by decide +kernel
theorem dX10_ofState_111 : decode cX10_ofState 111 = .ok (.invokevirtual 361, 3) := by decide +kernel
theorem dX10_ofState_114 : decode cX10_ofState 114 = .ok (.ifCond .eq 7, 3) := by decide +kernel
theorem dX10_ofState_117 : decode cX10_ofState 117 = .ok (.iconst 1, 1) := by decide +kernel
theorem dX10_ofState_118 : decode cX10_ofState 118 = .ok (.goto 4, 3) := by decide +kernel
theorem dX10_ofState_121 : decode cX10_ofState 121 = .ok (.iconst 0, 1) := by decide +kernel
theorem dX10_ofState_122 : decode cX10_ofState 122 = .ok (.ireturn, 1) := by decide +kernel
theorem dX10_ofState_123 : decode cX10_ofState 123 = .ok (.aload_n 0, 1) := by decide +kernel
theorem dX10_ofState_124 : decode cX10_ofState 124 = .ok (.getfield 314, 3) := by decide +kernel
theorem dX10_ofState_127 : decode cX10_ofState 127 = .ok (.ireturn, 1) := by decide +kernel
theorem dX10_ofState_128 : decode cX10_ofState 128 = .ok (.aload_n 0, 1) := by decide +kernel
theorem dX10_ofState_129 : decode cX10_ofState 129 = .ok (.getfield 317, 3) := by decide +kernel
theorem dX10_ofState_132 : decode cX10_ofState 132 = .ok (.ireturn, 1) := by decide +kernel
theorem dX10_ofState_133 : decode cX10_ofState 133 = .ok (.bipush (-2), 2) := by decide +kernel
theorem dX10_ofState_135 : decode cX10_ofState 135 = .ok (.ireturn, 1) := by decide +kernel
theorem dX10_state_0 : decode cX10_state 0 = .ok (.aload_n 0, 1) := by decide +kernel
theorem dX10_state_1 : decode cX10_state 1 = .ok (.iconst 0, 1) := by decide +kernel
theorem dX10_state_2 : decode cX10_state 2 = .ok (.putfield 84, 3) := by decide +kernel
theorem dX10_state_5 : decode cX10_state 5 = .ok (.aload_n 0, 1) := by decide +kernel
theorem dX10_state_6 : decode cX10_state 6 = .ok (.iload_n 1, 1) := by decide +kernel
theorem dX10_state_7 : decode cX10_state 7 = .ok (.iload_n 2, 1) := by decide +kernel
theorem dX10_state_8 : decode cX10_state 8 = .ok (.invokevirtual 352, 3) := by decide +kernel
theorem dX10_state_11 : decode cX10_state 11 = .ok (.ifCond .eq 33, 3) := by decide +kernel
theorem dX10_state_14 : decode cX10_state 14 = .ok (.iload_n 3, 1) := by decide +kernel
theorem dX10_state_15 : decode cX10_state 15 = .ok (.iconst 0, 1) := by decide +kernel
theorem dX10_state_16 : decode cX10_state 16 = .ok (.aload_n 0, 1) := by decide +kernel
theorem dX10_state_17 : decode cX10_state 17 = .ok (.invokevirtual 305, 3) := by decide +kernel
theorem dX10_state_20 : decode cX10_state 20 = .ok (.invokestatic 96, 3) := by decide +kernel
theorem dX10_state_23 : decode cX10_state 23 = .ok (.ifCond .eq 21, 3) := by decide +kernel
theorem dX10_state_26 : decode cX10_state 26 = .ok (.aload_n 0, 1) := by decide +kernel
theorem dX10_state_27 : decode cX10_state 27 = .ok (.iload_n 3, 1) := by decide +kernel
theorem dX10_state_28 : decode cX10_state 28 = .ok (.invokevirtual 355, 3) := by decide +kernel
theorem dX10_state_31 : decode cX10_state 31 = .ok (.iload_n 3, 1) := by decide +kernel
theorem dX10_state_32 : decode cX10_state 32 = .ok (.if_icmp .ne 12, 3) := by decide +kernel
theorem dX10_state_35 : decode cX10_state 35 = .ok (.aload_n 0, 1) := by decide +kernel
theorem dX10_state_36 : decode cX10_state 36 = .ok (.iload 4, 2) := by decide +kernel
theorem dX10_state_38 : decode cX10_state 38 = .ok (.invokevirtual 364, 3) := by decide +kernel
theorem dX10_state_41 : decode cX10_state 41 = .ok (.goto 5, 3) := by decide +kernel
theorem dX10_state_44 : decode cX10_state 44 = .ok (.bipush (-2), 2) := by decide +kernel
theorem dX10_state_46 : decode cX10_state 46 = .ok (.ireturn, 1) := by decide +kernel
theorem dX10_dinners_0 : decode cX10_dinners 0 = .ok (.aload_n 0, 1) := by decide +kernel
theorem dX10_dinners_1 : decode cX10_dinners 1 = .ok (.getfield 32, 3) := by decide +kernel
theorem dX10_dinners_4 : decode cX10_dinners 4 = .ok (.bipush 25, 2) := by decide +kernel
theorem dX10_dinners_6 : decode cX10_dinners 6 = .ok (.aload_n 0, 1) := by decide +kernel
theorem dX10_dinners_7 : decode cX10_dinners 7 = .ok (.getfield 367, 3) := by decide +kernel
theorem dX10_dinners_10 : decode cX10_dinners 10 = .ok (.imul, 1) := by decide +kernel
theorem dX10_dinners_11 : decode cX10_dinners 11 = .ok (.iaload, 1) := by decide +kernel
theorem dX10_dinners_12 : decode cX10_dinners 12 = .ok (.ireturn, 1) := by decide +kernel
theorem dX10_dinnerOf_0 : decode cX10_dinnerOf 0 = .ok (.aload_n 0, 1) := by decide +kernel
theorem dX10_dinnerOf_1 : decode cX10_dinnerOf 1 = .ok (.getfield 32, 3) := by decide +kernel
theorem dX10_dinnerOf_4 : decode cX10_dinnerOf 4 = .ok (.bipush 25, 2) := by decide +kernel
theorem dX10_dinnerOf_6 : decode cX10_dinnerOf 6 = .ok (.aload_n 0, 1) := by decide +kernel
theorem dX10_dinnerOf_7 : decode cX10_dinnerOf 7 = .ok (.getfield 367, 3) := by decide +kernel
theorem dX10_dinnerOf_10 : decode cX10_dinnerOf 10 = .ok (.imul, 1) := by decide +kernel
theorem dX10_dinnerOf_11 : decode cX10_dinnerOf 11 = .ok (.iconst 1, 1) := by decide +kernel
theorem dX10_dinnerOf_12 : decode cX10_dinnerOf 12 = .ok (.iadd, 1) := by decide +kernel
theorem dX10_dinnerOf_13 : decode cX10_dinnerOf 13 = .ok (.iconst 3, 1) := by decide +kernel
theorem dX10_dinnerOf_14 : decode cX10_dinnerOf 14 = .ok (.iload_n 1, 1) := by decide +kernel
theorem dX10_dinnerOf_15 : decode cX10_dinnerOf 15 = .ok (.imul, 1) := by decide +kernel
theorem dX10_dinnerOf_16 : decode cX10_dinnerOf 16 = .ok (.iadd, 1) := by decide +kernel
theorem dX10_dinnerOf_17 : decode cX10_dinnerOf 17 = .ok (.iload_n 2, 1) := by decide +kernel
theorem dX10_dinnerOf_18 : decode cX10_dinnerOf 18 = .ok (.iadd, 1) := by decide +kernel
theorem dX10_dinnerOf_19 : decode cX10_dinnerOf 19 = .ok (.iaload, 1) := by decide +kernel
theorem dX10_dinnerOf_20 : decode cX10_dinnerOf 20 = .ok (.ireturn, 1) := by decide +kernel
theorem dX10_hasTable_0 : decode cX10_hasTable 0 = .ok (.aload_n 0, 1) := by decide +kernel
theorem dX10_hasTable_1 : decode cX10_hasTable 1 = .ok (.iload_n 1, 1) := by decide +kernel
theorem dX10_hasTable_2 : decode cX10_hasTable 2 = .ok (.putfield 367, 3) := by decide +kernel
theorem dX10_hasTable_5 : decode cX10_hasTable 5 = .ok (.aload_n 0, 1) := by decide +kernel
theorem dX10_hasTable_6 : decode cX10_hasTable 6 = .ok (.iconst 2, 1) := by decide +kernel
theorem dX10_hasTable_7 : decode cX10_hasTable 7 = .ok (.iload_n 1, 1) := by decide +kernel
theorem dX10_hasTable_8 : decode cX10_hasTable 8 = .ok (.invokevirtual 259, 3) := by decide +kernel
theorem dX10_hasTable_11 : decode cX10_hasTable 11 = .ok (.ireturn, 1) := by decide +kernel
theorem dX10_dinner_0 : decode cX10_dinner 0 = .ok (.aload_n 0, 1) := by decide +kernel
theorem dX10_dinner_1 : decode cX10_dinner 1 = .ok (.iconst 0, 1) := by decide +kernel
theorem dX10_dinner_2 : decode cX10_dinner 2 = .ok (.putfield 84, 3) := by decide +kernel
theorem dX10_dinner_5 : decode cX10_dinner 5 = .ok (.aload_n 0, 1) := by decide +kernel
theorem dX10_dinner_6 : decode cX10_dinner 6 = .ok (.iload_n 1, 1) := by decide +kernel
theorem dX10_dinner_7 : decode cX10_dinner 7 = .ok (.invokevirtual 370, 3) := by decide +kernel
theorem dX10_dinner_10 : decode cX10_dinner 10 = .ok (.ifCond .ne 6, 3) := by decide +kernel
theorem dX10_dinner_13 : decode cX10_dinner 13 = .ok (.bipush (-2), 2) := by decide +kernel
theorem dX10_dinner_15 : decode cX10_dinner 15 = .ok (.ireturn, 1) := by decide +kernel
theorem dX10_dinner_16 : decode cX10_dinner 16 = .ok (.iload_n 2, 1) := by decide +kernel
theorem dX10_dinner_17 : decode cX10_dinner 17 = .ok (.iconst (-1), 1) := by decide +kernel
theorem dX10_dinner_18 : decode cX10_dinner 18 = .ok (.if_icmp .ne 17, 3) := by decide +kernel
theorem dX10_dinner_21 : decode cX10_dinner 21 = .ok (.iload_n 3, 1) := by decide +kernel
theorem dX10_dinner_22 : decode cX10_dinner 22 = .ok (.ifCond .ne 10, 3) := by decide +kernel
theorem dX10_dinner_25 : decode cX10_dinner 25 = .ok (.aload_n 0, 1) := by decide +kernel
theorem dX10_dinner_26 : decode cX10_dinner 26 = .ok (.invokevirtual 373, 3) := by decide +kernel
theorem dX10_dinner_29 : decode cX10_dinner 29 = .ok (.goto 5, 3) := by decide +kernel
theorem dX10_dinner_32 : decode cX10_dinner 32 = .ok (.bipush (-2), 2) := by decide +kernel
theorem dX10_dinner_34 : decode cX10_dinner 34 = .ok (.ireturn, 1) := by decide +kernel
theorem dX10_dinner_35 : decode cX10_dinner 35 = .ok (.iload_n 2, 1) := by decide +kernel
theorem dX10_dinner_36 : decode cX10_dinner 36 = .ok (.iconst 0, 1) := by decide +kernel
theorem dX10_dinner_37 : decode cX10_dinner 37 = .ok (.aload_n 0, 1) := by decide +kernel
theorem dX10_dinner_38 : decode cX10_dinner 38 = .ok (.invokevirtual 373, 3) := by decide +kernel
theorem dX10_dinner_41 : decode cX10_dinner 41 = .ok (.iconst 1, 1) := by decide +kernel
theorem dX10_dinner_42 : decode cX10_dinner 42 = .ok (.isub, 1) := by decide +kernel
theorem dX10_dinner_43 : decode cX10_dinner 43 = .ok (.invokestatic 96, 3) := by decide +kernel
theorem dX10_dinner_46 : decode cX10_dinner 46 = .ok (.ifCond .eq 21, 3) := by decide +kernel
theorem dX10_dinner_49 : decode cX10_dinner 49 = .ok (.iload_n 3, 1) := by decide +kernel
theorem dX10_dinner_50 : decode cX10_dinner 50 = .ok (.iconst 0, 1) := by decide +kernel
theorem dX10_dinner_51 : decode cX10_dinner 51 = .ok (.iconst 2, 1) := by decide +kernel
theorem dX10_dinner_52 : decode cX10_dinner 52 = .ok (.invokestatic 96, 3) := by decide +kernel
theorem dX10_dinner_55 : decode cX10_dinner 55 = .ok (.ifCond .eq 12, 3) := by decide +kernel
theorem dX10_dinner_58 : decode cX10_dinner 58 = .ok (.aload_n 0, 1) := by decide +kernel
theorem dX10_dinner_59 : decode cX10_dinner 59 = .ok (.iload_n 2, 1) := by decide +kernel
theorem dX10_dinner_60 : decode cX10_dinner 60 = .ok (.iload_n 3, 1) := by decide +kernel
theorem dX10_dinner_61 : decode cX10_dinner 61 = .ok (.invokevirtual 376, 3) := by decide +kernel
theorem dX10_dinner_64 : decode cX10_dinner 64 = .ok (.goto 5, 3) := by decide +kernel
theorem dX10_dinner_67 : decode cX10_dinner 67 = .ok (.bipush (-2), 2) := by decide +kernel
theorem dX10_dinner_69 : decode cX10_dinner 69 = .ok (.ireturn, 1) := by decide +kernel
theorem dX10_serves_0 : decode cX10_serves 0 = .ok (.aload_n 0, 1) := by decide +kernel
theorem dX10_serves_1 : decode cX10_serves 1 = .ok (.iload_n 2, 1) := by decide +kernel
theorem dX10_serves_2 : decode cX10_serves 2 = .ok (.iconst 1, 1) := by decide +kernel
theorem dX10_serves_3 : decode cX10_serves 3 = .ok (.invokevirtual 376, 3) := by decide +kernel
theorem dX10_serves_6 : decode cX10_serves 6 = .ok (.istore 4, 2) := by decide +kernel
theorem dX10_serves_8 : decode cX10_serves 8 = .ok (.iload_n 2, 1) := by decide +kernel
theorem dX10_serves_9 : decode cX10_serves 9 = .ok (.istore 5, 2) := by decide +kernel
theorem dX10_serves_11 : decode cX10_serves 11 = .ok (.iload 5, 2) := by decide +kernel
theorem dX10_serves_13 : decode cX10_serves 13 = .ok (.iload_n 3, 1) := by decide +kernel
theorem dX10_serves_14 : decode cX10_serves 14 = .ok (.if_icmp .gt 66, 3) := by decide +kernel
theorem dX10_serves_17 : decode cX10_serves 17 = .ok (.aload_n 0, 1) := by decide +kernel
theorem dX10_serves_18 : decode cX10_serves 18 = .ok (.iload_n 1, 1) := by decide +kernel
theorem dX10_serves_19 : decode cX10_serves 19 = .ok (.iload 4, 2) := by decide +kernel
theorem dX10_serves_21 : decode cX10_serves 21 = .ok (.invokevirtual 296, 3) := by decide +kernel
theorem dX10_serves_24 : decode cX10_serves 24 = .ok (.aload_n 0, 1) := by decide +kernel
theorem dX10_serves_25 : decode cX10_serves 25 = .ok (.iload 4, 2) := by decide +kernel
theorem dX10_serves_27 : decode cX10_serves 27 = .ok (.invokevirtual 323, 3) := by decide +kernel
theorem dX10_serves_30 : decode cX10_serves 30 = .ok (.aload_n 0, 1) := by decide +kernel
theorem dX10_serves_31 : decode cX10_serves 31 = .ok (.iload 5, 2) := by decide +kernel
theorem dX10_serves_33 : decode cX10_serves 33 = .ok (.iconst 0, 1) := by decide +kernel
theorem dX10_serves_34 : decode cX10_serves 34 = .ok (.invokevirtual 376, 3) := by decide +kernel
theorem dX10_serves_37 : decode cX10_serves 37 = .ok (.aload_n 0, 1) := by decide +kernel
theorem dX10_serves_38 : decode cX10_serves 38 = .ok (.iload_n 2, 1) := by decide +kernel
theorem dX10_serves_39 : decode cX10_serves 39 = .ok (.iconst 0, 1) := by decide +kernel
theorem dX10_serves_40 : decode cX10_serves 40 = .ok (.invokevirtual 376, 3) := by decide +kernel
theorem dX10_serves_43 : decode cX10_serves 43 = .ok (.isub, 1) := by decide +kernel
theorem dX10_serves_44 : decode cX10_serves 44 = .ok (.imul, 1) := by decide +kernel
theorem dX10_serves_45 : decode cX10_serves 45 = .ok (.isub, 1) := by decide +kernel
theorem dX10_serves_46 : decode cX10_serves 46 = .ok (.istore 6, 2) := by decide +kernel
theorem dX10_serves_48 : decode cX10_serves 48 = .ok (.aload_n 0, 1) := by decide +kernel
theorem dX10_serves_49 : decode cX10_serves 49 = .ok (.iload 5, 2) := by decide +kernel
theorem dX10_serves_51 : decode cX10_serves 51 = .ok (.iconst 1, 1) := by decide +kernel
theorem dX10_serves_52 : decode cX10_serves 52 = .ok (.invokevirtual 376, 3) := by decide +kernel
theorem dX10_serves_55 : decode cX10_serves 55 = .ok (.iload 4, 2) := by decide +kernel
theorem dX10_serves_57 : decode cX10_serves 57 = .ok (.if_icmp .ne 15, 3) := by decide +kernel
theorem dX10_serves_60 : decode cX10_serves 60 = .ok (.iload 6, 2) := by decide +kernel
theorem dX10_serves_62 : decode cX10_serves 62 = .ok (.aload_n 0, 1) := by decide +kernel
theorem dX10_serves_63 : decode cX10_serves 63 = .ok (.iload 5, 2) := by decide +kernel
theorem dX10_serves_65 : decode cX10_serves 65 = .ok (.iconst 2, 1) := by decide +kernel
theorem dX10_serves_66 : decode cX10_serves 66 = .ok (.invokevirtual 376, 3) := by decide +kernel
theorem dX10_serves_69 : decode cX10_serves 69 = .ok (.if_icmp .ge 5, 3) := by decide +kernel
theorem dX10_serves_72 : decode cX10_serves 72 = .ok (.iconst 0, 1) := by decide +kernel
theorem dX10_serves_73 : decode cX10_serves 73 = .ok (.ireturn, 1) := by decide +kernel
theorem dX10_serves_74 : decode cX10_serves 74 = .ok (.iinc 5 1, 3) := by decide +kernel
theorem dX10_serves_77 : decode cX10_serves 77 = .ok (.goto (-66), 3) := by decide +kernel
theorem dX10_serves_80 : decode cX10_serves 80 = .ok (.iconst 1, 1) := by decide +kernel
theorem dX10_serves_81 : decode cX10_serves 81 = .ok (.ireturn, 1) := by decide +kernel
theorem dX10_findTellings_0 : decode cX10_findTellings 0 = .ok (.aload_n 0, 1) := by decide +kernel
theorem dX10_findTellings_1 : decode cX10_findTellings 1 = .ok (.invokevirtual 373, 3) := by decide +kernel
theorem dX10_findTellings_4 : decode cX10_findTellings 4 = .ok (.istore_n 1, 1) := by decide +kernel
theorem dX10_findTellings_5 : decode cX10_findTellings 5 = .ok (.iload_n 1, 1) := by decide +kernel
theorem dX10_findTellings_6 : decode cX10_findTellings 6 = .ok (.istore_n 2, 1) := by decide +kernel
theorem dX10_findTellings_7 : decode cX10_findTellings 7 = .ok (.iload_n 2, 1) := by decide +kernel
theorem dX10_findTellings_8 : decode cX10_findTellings 8 = .ok (.ifCond .lt 184, 3) := by decide +kernel
theorem dX10_findTellings_11 : decode cX10_findTellings 11 = .ok (.iconst 0, 1) := by decide +kernel
theorem dX10_findTellings_12 : decode cX10_findTellings 12 = .ok (.istore_n 3, 1) := by decide +kernel
theorem dX10_findTellings_13 : decode cX10_findTellings 13 = .ok (.iload_n 3, 1) := by decide +kernel
theorem dX10_findTellings_14 : decode cX10_findTellings 14 = .ok (.iconst 1, 1) := by decide +kernel
theorem dX10_findTellings_15 : decode cX10_findTellings 15 = .ok (.aload_n 0, 1) := by decide +kernel
theorem dX10_findTellings_16 : decode cX10_findTellings 16 = .ok (.getfield 278, 3) := by decide +kernel
theorem dX10_findTellings_19 : decode cX10_findTellings 19 = .ok (.ishl, 1) := by decide +kernel
theorem dX10_findTellings_20 : decode cX10_findTellings 20 = .ok (.if_icmp .ge 166, 3) := by decide +kernel
theorem dX10_findTellings_23 : decode cX10_findTellings 23 = .ok (.iload_n 2, 1) := by decide +kernel
theorem dX10_findTellings_24 : decode cX10_findTellings 24 = .ok (.iload_n 1, 1) := by decide +kernel
theorem dX10_findTellings_25 : decode cX10_findTellings 25 = .ok (.if_icmp .ne 7, 3) := by decide +kernel
theorem dX10_findTellings_28 : decode cX10_findTellings 28 = .ok (.iconst 0, 1) := by decide +kernel
theorem dX10_findTellings_29 : decode cX10_findTellings 29 = .ok (.goto 6, 3) := by decide +kernel
theorem dX10_findTellings_32 : decode cX10_findTellings 32 = .ok (.ldc_w 379, 3) := by decide +kernel
theorem dX10_findTellings_35 : decode cX10_findTellings 35 = .ok (.istore 4, 2) := by decide +kernel
theorem dX10_findTellings_37 : decode cX10_findTellings 37 = .ok (.iload_n 2, 1) := by decide +kernel
theorem dX10_findTellings_38 : decode cX10_findTellings 38 = .ok (.istore 5, 2) := by decide +kernel
theorem dX10_findTellings_40 : decode cX10_findTellings 40 = .ok (.iconst 0, 1) := by decide +kernel
theorem dX10_findTellings_41 : decode cX10_findTellings 41 = .ok (.istore 6, 2) := by decide +kernel
theorem dX10_findTellings_43 : decode cX10_findTellings 43 = .ok (.iload 6, 2) := by decide +kernel
theorem dX10_findTellings_45 : decode cX10_findTellings 45 = .ok (.aload_n 0, 1) := by decide +kernel
theorem dX10_findTellings_46 : decode cX10_findTellings 46 = .ok (.getfield 278, 3) := by decide +kernel
theorem dX10_findTellings_49 : decode cX10_findTellings 49 = .ok (.if_icmp .ge 97, 3) := by decide +kernel
theorem dX10_findTellings_52 : decode cX10_findTellings 52 = .ok (.iload_n 2, 1) := by decide +kernel
theorem dX10_findTellings_53 : decode cX10_findTellings 53 = .ok (.iload_n 1, 1) := by decide +kernel
theorem dX10_findTellings_54 : decode cX10_findTellings 54 = .ok (.if_icmp .ge 92, 3) := by decide +kernel
theorem dX10_findTellings_57 : decode cX10_findTellings 57 = .ok (.iload_n 2, 1) := by decide +kernel
theorem dX10_findTellings_58 : decode cX10_findTellings 58 = .ok (.istore 7, 2) := by decide +kernel
theorem dX10_findTellings_60 : decode cX10_findTellings 60 = .ok (.iload 7, 2) := by decide +kernel
theorem dX10_findTellings_62 : decode cX10_findTellings 62 = .ok (.iload_n 1, 1) := by decide +kernel
theorem dX10_findTellings_63 : decode cX10_findTellings 63 = .ok (.if_icmp .ge 77, 3) := by decide +kernel
theorem dX10_findTellings_66 : decode cX10_findTellings 66 = .ok (.iload_n 3, 1) := by decide +kernel
theorem dX10_findTellings_67 : decode cX10_findTellings 67 = .ok (.iload 6, 2) := by decide +kernel
theorem dX10_findTellings_69 : decode cX10_findTellings 69 = .ok (.invokestatic 88, 3) := by decide +kernel
theorem dX10_findTellings_72 : decode cX10_findTellings 72 = .ok (.ifCond .ne 68, 3) := by decide +kernel
theorem dX10_findTellings_75 : decode cX10_findTellings 75 = .ok (.aload_n 0, 1) := by decide +kernel
theorem dX10_findTellings_76 : decode cX10_findTellings 76 = .ok (.iload 6, 2) := by decide +kernel
theorem dX10_findTellings_78 : decode cX10_findTellings 78 = .ok (.iload_n 2, 1) := by decide +kernel
theorem dX10_findTellings_79 : decode cX10_findTellings 79 = .ok (.iload 7, 2) := by decide +kernel
theorem dX10_findTellings_81 : decode cX10_findTellings 81 = .ok (.invokevirtual 380, 3) := by decide +kernel
theorem dX10_findTellings_84 : decode cX10_findTellings 84 = .ok (.ifCond .eq 56, 3) := by decide +kernel
theorem dX10_findTellings_87 : decode cX10_findTellings 87 = .ok (.sipush 1024, 3) := by decide +kernel
theorem dX10_findTellings_90 : decode cX10_findTellings 90 = .ok (.iload 7, 2) := by decide +kernel
theorem dX10_findTellings_92 : decode cX10_findTellings 92 = .ok (.iconst 1, 1) := by decide +kernel
theorem dX10_findTellings_93 : decode cX10_findTellings 93 = .ok (.iadd, 1) := by decide +kernel
theorem dX10_findTellings_94 : decode cX10_findTellings 94 = .ok (.imul, 1) := by decide +kernel
theorem dX10_findTellings_95 : decode cX10_findTellings 95 = .ok (.iload_n 3, 1) := by decide +kernel
theorem dX10_findTellings_96 : decode cX10_findTellings 96 = .ok (.iconst 1, 1) := by decide +kernel
theorem dX10_findTellings_97 : decode cX10_findTellings 97 = .ok (.iload 6, 2) := by decide +kernel
theorem dX10_findTellings_99 : decode cX10_findTellings 99 = .ok (.ishl, 1) := by decide +kernel
theorem dX10_findTellings_100 : decode cX10_findTellings 100 = .ok (.ior, 1) := by decide +kernel
theorem dX10_findTellings_101 : decode cX10_findTellings 101 = .ok (.iadd, 1) := by decide +kernel
theorem dX10_findTellings_102 : decode cX10_findTellings 102 = .ok (.istore 8, 2) := by decide +kernel
theorem dX10_findTellings_104 : decode cX10_findTellings 104 = .ok (.iload 4, 2) := by decide +kernel
theorem dX10_findTellings_106 : decode cX10_findTellings 106 = .ok (.iconst 1, 1) := by decide +kernel
theorem dX10_findTellings_107 : decode cX10_findTellings 107 = .ok (.aload_n 0, 1) := by decide +kernel
theorem dX10_findTellings_108 : decode cX10_findTellings 108 = .ok (.getfield 53, 3) := by decide +kernel
theorem dX10_findTellings_111 : decode cX10_findTellings 111 = .ok (.iload 8, 2) := by decide +kernel
theorem dX10_findTellings_113 : decode cX10_findTellings 113 = .ok (.iaload, 1) := by decide +kernel
theorem dX10_findTellings_114 : decode cX10_findTellings 114 = .ok (.iadd, 1) := by decide +kernel
theorem dX10_findTellings_115 : decode cX10_findTellings 115 = .ok (.invokestatic 284, 3) := by decide +kernel
theorem dX10_findTellings_118 : decode cX10_findTellings 118 = .ok (.istore 4, 2) := by decide +kernel
theorem dX10_findTellings_120 : decode cX10_findTellings 120 = .ok (.iload 5, 2) := by decide +kernel
theorem dX10_findTellings_122 : decode cX10_findTellings 122 = .ok (.aload_n 0, 1) := by decide +kernel
theorem dX10_findTellings_123 : decode cX10_findTellings 123 = .ok (.getfield 56, 3) := by decide +kernel
theorem dX10_findTellings_126 : decode cX10_findTellings 126 = .ok (.iload 8, 2) := by decide +kernel
theorem dX10_findTellings_128 : decode cX10_findTellings 128 = .ok (.iaload, 1) := by decide +kernel
theorem dX10_findTellings_129 : decode cX10_findTellings 129 = .ok (.invokestatic 158, 3) := by decide +kernel
theorem dX10_findTellings_132 : decode cX10_findTellings 132 = .ok (.istore 5, 2) := by decide +kernel
theorem dX10_findTellings_134 : decode cX10_findTellings 134 = .ok (.iinc 7 1, 3) := by decide +kernel
theorem dX10_findTellings_137 : decode cX10_findTellings 137 = .ok (.goto (-77), 3) := by decide +kernel
theorem dX10_findTellings_140 : decode cX10_findTellings 140 = .ok (.iinc 6 1, 3) := by decide +kernel
theorem dX10_findTellings_143 : decode cX10_findTellings 143 = .ok (.goto (-100), 3) := by decide +kernel
theorem dX10_findTellings_146 : decode cX10_findTellings 146 = .ok (.aload_n 0, 1) := by decide +kernel
theorem dX10_findTellings_147 : decode cX10_findTellings 147 = .ok (.getfield 53, 3) := by decide +kernel
theorem dX10_findTellings_150 : decode cX10_findTellings 150 = .ok (.sipush 1024, 3) := by decide +kernel
theorem dX10_findTellings_153 : decode cX10_findTellings 153 = .ok (.iload_n 2, 1) := by decide +kernel
theorem dX10_findTellings_154 : decode cX10_findTellings 154 = .ok (.imul, 1) := by decide +kernel
theorem dX10_findTellings_155 : decode cX10_findTellings 155 = .ok (.iload_n 3, 1) := by decide +kernel
theorem dX10_findTellings_156 : decode cX10_findTellings 156 = .ok (.iadd, 1) := by decide +kernel
theorem dX10_findTellings_157 : decode cX10_findTellings 157 = .ok (.iload 4, 2) := by decide +kernel
theorem dX10_findTellings_159 : decode cX10_findTellings 159 = .ok (.ldc_w 379, 3) := by decide +kernel
theorem dX10_findTellings_162 : decode cX10_findTellings 162 = .ok (.invokestatic 284, 3) := by decide +kernel
theorem dX10_findTellings_165 : decode cX10_findTellings 165 = .ok (.iastore, 1) := by decide +kernel
theorem dX10_findTellings_166 : decode cX10_findTellings 166 = .ok (.aload_n 0, 1) := by decide +kernel
theorem dX10_findTellings_167 : decode cX10_findTellings 167 = .ok (.getfield 56, 3) := by decide +kernel
theorem dX10_findTellings_170 : decode cX10_findTellings 170 = .ok (.sipush 1024, 3) := by decide +kernel
theorem dX10_findTellings_173 : decode cX10_findTellings 173 = .ok (.iload_n 2, 1) := by decide +kernel
theorem dX10_findTellings_174 : decode cX10_findTellings 174 = .ok (.imul, 1) := by decide +kernel
theorem dX10_findTellings_175 : decode cX10_findTellings 175 = .ok (.iload_n 3, 1) := by decide +kernel
theorem dX10_findTellings_176 : decode cX10_findTellings 176 = .ok (.iadd, 1) := by decide +kernel
theorem dX10_findTellings_177 : decode cX10_findTellings 177 = .ok (.iload 5, 2) := by decide +kernel
theorem dX10_findTellings_179 : decode cX10_findTellings 179 = .ok (.iastore, 1) := by decide +kernel
theorem dX10_findTellings_180 : decode cX10_findTellings 180 = .ok (.iinc 3 1, 3) := by decide +kernel
theorem dX10_findTellings_183 : decode cX10_findTellings 183 = .ok (.goto (-170), 3) := by decide +kernel
theorem dX10_findTellings_186 : decode cX10_findTellings 186 = .ok (.iinc 2 (-1), 3) := by decide +kernel
theorem dX10_findTellings_189 : decode cX10_findTellings 189 = .ok (.goto (-182), 3) := by decide +kernel
theorem dX10_findTellings_192 : decode cX10_findTellings 192 = .ok (.return_, 1) := by decide +kernel
theorem dX10_toldAhead_0 : decode cX10_toldAhead 0 = .ok (.iconst 0, 1) := by decide +kernel
theorem dX10_toldAhead_1 : decode cX10_toldAhead 1 = .ok (.istore_n 2, 1) := by decide +kernel
theorem dX10_toldAhead_2 : decode cX10_toldAhead 2 = .ok (.iconst 0, 1) := by decide +kernel
theorem dX10_toldAhead_3 : decode cX10_toldAhead 3 = .ok (.istore_n 3, 1) := by decide +kernel
theorem dX10_toldAhead_4 : decode cX10_toldAhead 4 = .ok (.iconst (-1), 1) := by decide +kernel
theorem dX10_toldAhead_5 : decode cX10_toldAhead 5 = .ok (.istore 4, 2) := by decide +kernel
theorem dX10_toldAhead_7 : decode cX10_toldAhead 7 = .ok (.iload_n 3, 1) := by decide +kernel
theorem dX10_toldAhead_8 : decode cX10_toldAhead 8 = .ok (.iload_n 1, 1) := by decide +kernel
theorem dX10_toldAhead_9 : decode cX10_toldAhead 9 = .ok (.if_icmp .gt 183, 3) := by decide +kernel
theorem dX10_toldAhead_12 : decode cX10_toldAhead 12 = .ok (.aload_n 0, 1) := by decide +kernel
theorem dX10_toldAhead_13 : decode cX10_toldAhead 13 = .ok (.getfield 53, 3) := by decide +kernel
theorem dX10_toldAhead_16 : decode cX10_toldAhead 16 = .ok (.sipush 1024, 3) := by decide +kernel
theorem dX10_toldAhead_19 : decode cX10_toldAhead 19 = .ok (.iload_n 3, 1) := by decide +kernel
theorem dX10_toldAhead_20 : decode cX10_toldAhead 20 = .ok (.imul, 1) := by decide +kernel
theorem dX10_toldAhead_21 : decode cX10_toldAhead 21 = .ok (.iload_n 2, 1) := by decide +kernel
theorem dX10_toldAhead_22 : decode cX10_toldAhead 22 = .ok (.iadd, 1) := by decide +kernel
theorem dX10_toldAhead_23 : decode cX10_toldAhead 23 = .ok (.iaload, 1) := by decide +kernel
theorem dX10_toldAhead_24 : decode cX10_toldAhead 24 = .ok (.istore 5, 2) := by decide +kernel
theorem dX10_toldAhead_26 : decode cX10_toldAhead 26 = .ok (.iconst (-1), 1) := by decide +kernel
theorem dX10_toldAhead_27 : decode cX10_toldAhead 27 = .ok (.istore 6, 2) := by decide +kernel
theorem dX10_toldAhead_29 : decode cX10_toldAhead 29 = .ok (.iconst (-1), 1) := by decide +kernel
theorem dX10_toldAhead_30 : decode cX10_toldAhead 30 = .ok (.istore 4, 2) := by decide +kernel
theorem dX10_toldAhead_32 : decode cX10_toldAhead 32 = .ok (.iconst 0, 1) := by decide +kernel
theorem dX10_toldAhead_33 : decode cX10_toldAhead 33 = .ok (.istore 7, 2) := by decide +kernel
theorem dX10_toldAhead_35 : decode cX10_toldAhead 35 = .ok (.iload 7, 2) := by decide +kernel
theorem dX10_toldAhead_37 : decode cX10_toldAhead 37 = .ok (.aload_n 0, 1) := by decide +kernel
theorem dX10_toldAhead_38 : decode cX10_toldAhead 38 = .ok (.getfield 278, 3) := by decide +kernel
theorem dX10_toldAhead_41 : decode cX10_toldAhead 41 = .ok (.if_icmp .ge 122, 3) := by decide +kernel
theorem dX10_toldAhead_44 : decode cX10_toldAhead 44 = .ok (.iload 4, 2) := by decide +kernel
theorem dX10_toldAhead_46 : decode cX10_toldAhead 46 = .ok (.iconst (-1), 1) := by decide +kernel
theorem dX10_toldAhead_47 : decode cX10_toldAhead 47 = .ok (.if_icmp .ne 116, 3) := by decide +kernel
theorem dX10_toldAhead_50 : decode cX10_toldAhead 50 = .ok (.iload_n 3, 1) := by decide +kernel
theorem dX10_toldAhead_51 : decode cX10_toldAhead 51 = .ok (.istore 8, 2) := by decide +kernel
theorem dX10_toldAhead_53 : decode cX10_toldAhead 53 = .ok (.iload 8, 2) := by decide +kernel
theorem dX10_toldAhead_55 : decode cX10_toldAhead 55 = .ok (.aload_n 0, 1) := by decide +kernel
theorem dX10_toldAhead_56 : decode cX10_toldAhead 56 = .ok (.invokevirtual 373, 3) := by decide +kernel
theorem dX10_toldAhead_59 : decode cX10_toldAhead 59 = .ok (.if_icmp .ge 98, 3) := by decide +kernel
theorem dX10_toldAhead_62 : decode cX10_toldAhead 62 = .ok (.iload 4, 2) := by decide +kernel
theorem dX10_toldAhead_64 : decode cX10_toldAhead 64 = .ok (.iconst (-1), 1) := by decide +kernel
theorem dX10_toldAhead_65 : decode cX10_toldAhead 65 = .ok (.if_icmp .ne 92, 3) := by decide +kernel
theorem dX10_toldAhead_68 : decode cX10_toldAhead 68 = .ok (.iload_n 2, 1) := by decide +kernel
theorem dX10_toldAhead_69 : decode cX10_toldAhead 69 = .ok (.iload 7, 2) := by decide +kernel
theorem dX10_toldAhead_71 : decode cX10_toldAhead 71 = .ok (.invokestatic 88, 3) := by decide +kernel
theorem dX10_toldAhead_74 : decode cX10_toldAhead 74 = .ok (.ifCond .ne 83, 3) := by decide +kernel
theorem dX10_toldAhead_77 : decode cX10_toldAhead 77 = .ok (.aload_n 0, 1) := by decide +kernel
theorem dX10_toldAhead_78 : decode cX10_toldAhead 78 = .ok (.iload 7, 2) := by decide +kernel
theorem dX10_toldAhead_80 : decode cX10_toldAhead 80 = .ok (.iload_n 3, 1) := by decide +kernel
theorem dX10_toldAhead_81 : decode cX10_toldAhead 81 = .ok (.iload 8, 2) := by decide +kernel
theorem dX10_toldAhead_83 : decode cX10_toldAhead 83 = .ok (.invokevirtual 380, 3) := by decide +kernel
theorem dX10_toldAhead_86 : decode cX10_toldAhead 86 = .ok (.ifCond .eq 71, 3) := by decide +kernel
theorem dX10_toldAhead_89 : decode cX10_toldAhead 89 = .ok (.iconst 1, 1) := by decide +kernel
theorem dX10_toldAhead_90 : decode cX10_toldAhead 90 = .ok (.aload_n 0, 1) := by decide +kernel
theorem dX10_toldAhead_91 : decode cX10_toldAhead 91 = .ok (.getfield 53, 3) := by decide +kernel
theorem dX10_toldAhead_94 : decode cX10_toldAhead 94 = .ok (.sipush 1024, 3) := by decide +kernel
theorem dX10_toldAhead_97 : decode cX10_toldAhead 97 = .ok (.iload 8, 2) := by decide +kernel
theorem dX10_toldAhead_99 : decode cX10_toldAhead 99 = .ok (.iconst 1, 1) := by decide +kernel
theorem dX10_toldAhead_100 : decode cX10_toldAhead 100 = .ok (.iadd, 1) := by decide +kernel
theorem dX10_toldAhead_101 : decode cX10_toldAhead 101 = .ok (.imul, 1) := by decide +kernel
theorem dX10_toldAhead_102 : decode cX10_toldAhead 102 = .ok (.iload_n 2, 1) := by decide +kernel
theorem dX10_toldAhead_103 : decode cX10_toldAhead 103 = .ok (.iconst 1, 1) := by decide +kernel
theorem dX10_toldAhead_104 : decode cX10_toldAhead 104 = .ok (.iload 7, 2) := by decide +kernel
theorem dX10_toldAhead_106 : decode cX10_toldAhead 106 = .ok (.ishl, 1) := by decide +kernel
theorem dX10_toldAhead_107 : decode cX10_toldAhead 107 = .ok (.ior, 1) := by decide +kernel
theorem dX10_toldAhead_108 : decode cX10_toldAhead 108 = .ok (.iadd, 1) := by decide +kernel
theorem dX10_toldAhead_109 : decode cX10_toldAhead 109 = .ok (.iaload, 1) := by decide +kernel
theorem dX10_toldAhead_110 : decode cX10_toldAhead 110 = .ok (.iadd, 1) := by decide +kernel
theorem dX10_toldAhead_111 : decode cX10_toldAhead 111 = .ok (.iload 5, 2) := by decide +kernel
theorem dX10_toldAhead_113 : decode cX10_toldAhead 113 = .ok (.if_icmp .ne 7, 3) := by decide +kernel
theorem dX10_toldAhead_116 : decode cX10_toldAhead 116 = .ok (.iconst 1, 1) := by decide +kernel
theorem dX10_toldAhead_117 : decode cX10_toldAhead 117 = .ok (.goto 4, 3) := by decide +kernel
theorem dX10_toldAhead_120 : decode cX10_toldAhead 120 = .ok (.iconst 0, 1) := by decide +kernel
theorem dX10_toldAhead_121 : decode cX10_toldAhead 121 = .ok (.istore 9, 2) := by decide +kernel
theorem dX10_toldAhead_123 : decode cX10_toldAhead 123 = .ok (.iload 9, 2) := by decide +kernel
theorem dX10_toldAhead_125 : decode cX10_toldAhead 125 = .ok (.ifCond .eq 8, 3) := by decide +kernel
theorem dX10_toldAhead_128 : decode cX10_toldAhead 128 = .ok (.iload 7, 2) := by decide +kernel
theorem dX10_toldAhead_130 : decode cX10_toldAhead 130 = .ok (.goto 5, 3) := by decide +kernel
theorem dX10_toldAhead_133 : decode cX10_toldAhead 133 = .ok (.iload 4, 2) := by decide +kernel
theorem dX10_toldAhead_135 : decode cX10_toldAhead 135 = .ok (.istore 4, 2) := by decide +kernel
theorem dX10_toldAhead_137 : decode cX10_toldAhead 137 = .ok (.iload 9, 2) := by decide +kernel
theorem dX10_toldAhead_139 : decode cX10_toldAhead 139 = .ok (.ifCond .eq 8, 3) := by decide +kernel
theorem dX10_toldAhead_142 : decode cX10_toldAhead 142 = .ok (.iload 8, 2) := by decide +kernel
theorem dX10_toldAhead_144 : decode cX10_toldAhead 144 = .ok (.goto 5, 3) := by decide +kernel
theorem dX10_toldAhead_147 : decode cX10_toldAhead 147 = .ok (.iload 6, 2) := by decide +kernel
theorem dX10_toldAhead_149 : decode cX10_toldAhead 149 = .ok (.istore 6, 2) := by decide +kernel
theorem dX10_toldAhead_151 : decode cX10_toldAhead 151 = .ok (.iinc 8 1, 3) := by decide +kernel
theorem dX10_toldAhead_154 : decode cX10_toldAhead 154 = .ok (.goto (-101), 3) := by decide +kernel
theorem dX10_toldAhead_157 : decode cX10_toldAhead 157 = .ok (.iinc 7 1, 3) := by decide +kernel
theorem dX10_toldAhead_160 : decode cX10_toldAhead 160 = .ok (.goto (-125), 3) := by decide +kernel
theorem dX10_toldAhead_163 : decode cX10_toldAhead 163 = .ok (.iload_n 1, 1) := by decide +kernel
theorem dX10_toldAhead_164 : decode cX10_toldAhead 164 = .ok (.iload_n 3, 1) := by decide +kernel
theorem dX10_toldAhead_165 : decode cX10_toldAhead 165 = .ok (.if_icmp .le 12, 3) := by decide +kernel
theorem dX10_toldAhead_168 : decode cX10_toldAhead 168 = .ok (.iload_n 1, 1) := by decide +kernel
theorem dX10_toldAhead_169 : decode cX10_toldAhead 169 = .ok (.iload 6, 2) := by decide +kernel
theorem dX10_toldAhead_171 : decode cX10_toldAhead 171 = .ok (.if_icmp .gt 6, 3) := by decide +kernel
theorem dX10_toldAhead_174 : decode cX10_toldAhead 174 = .ok (.bipush 10, 2) := by decide +kernel
theorem dX10_toldAhead_176 : decode cX10_toldAhead 176 = .ok (.ireturn, 1) := by decide +kernel
theorem dX10_toldAhead_177 : decode cX10_toldAhead 177 = .ok (.iload_n 2, 1) := by decide +kernel
theorem dX10_toldAhead_178 : decode cX10_toldAhead 178 = .ok (.iconst 1, 1) := by decide +kernel
theorem dX10_toldAhead_179 : decode cX10_toldAhead 179 = .ok (.iload 4, 2) := by decide +kernel
theorem dX10_toldAhead_181 : decode cX10_toldAhead 181 = .ok (.ishl, 1) := by decide +kernel
theorem dX10_toldAhead_182 : decode cX10_toldAhead 182 = .ok (.ior, 1) := by decide +kernel
theorem dX10_toldAhead_183 : decode cX10_toldAhead 183 = .ok (.istore_n 2, 1) := by decide +kernel
theorem dX10_toldAhead_184 : decode cX10_toldAhead 184 = .ok (.iload 6, 2) := by decide +kernel
theorem dX10_toldAhead_186 : decode cX10_toldAhead 186 = .ok (.iconst 1, 1) := by decide +kernel
theorem dX10_toldAhead_187 : decode cX10_toldAhead 187 = .ok (.iadd, 1) := by decide +kernel
theorem dX10_toldAhead_188 : decode cX10_toldAhead 188 = .ok (.istore_n 3, 1) := by decide +kernel
theorem dX10_toldAhead_189 : decode cX10_toldAhead 189 = .ok (.goto (-182), 3) := by decide +kernel
theorem dX10_toldAhead_192 : decode cX10_toldAhead 192 = .ok (.iload 4, 2) := by decide +kernel
theorem dX10_toldAhead_194 : decode cX10_toldAhead 194 = .ok (.ireturn, 1) := by decide +kernel
theorem dX10_served_0 : decode cX10_served 0 = .ok (.aload_n 0, 1) := by decide +kernel
theorem dX10_served_1 : decode cX10_served 1 = .ok (.iconst 0, 1) := by decide +kernel
theorem dX10_served_2 : decode cX10_served 2 = .ok (.putfield 84, 3) := by decide +kernel
theorem dX10_served_5 : decode cX10_served 5 = .ok (.aload_n 0, 1) := by decide +kernel
theorem dX10_served_6 : decode cX10_served 6 = .ok (.iload_n 2, 1) := by decide +kernel
theorem dX10_served_7 : decode cX10_served 7 = .ok (.invokevirtual 370, 3) := by decide +kernel
theorem dX10_served_10 : decode cX10_served 10 = .ok (.ifCond .eq 26, 3) := by decide +kernel
theorem dX10_served_13 : decode cX10_served 13 = .ok (.aload_n 0, 1) := by decide +kernel
theorem dX10_served_14 : decode cX10_served 14 = .ok (.iload_n 1, 1) := by decide +kernel
theorem dX10_served_15 : decode cX10_served 15 = .ok (.invokevirtual 287, 3) := by decide +kernel
theorem dX10_served_18 : decode cX10_served 18 = .ok (.ifCond .eq 18, 3) := by decide +kernel
theorem dX10_served_21 : decode cX10_served 21 = .ok (.iload_n 3, 1) := by decide +kernel
theorem dX10_served_22 : decode cX10_served 22 = .ok (.bipush (-2), 2) := by decide +kernel
theorem dX10_served_24 : decode cX10_served 24 = .ok (.aload_n 0, 1) := by decide +kernel
theorem dX10_served_25 : decode cX10_served 25 = .ok (.invokevirtual 373, 3) := by decide +kernel
theorem dX10_served_28 : decode cX10_served 28 = .ok (.iconst 1, 1) := by decide +kernel
theorem dX10_served_29 : decode cX10_served 29 = .ok (.isub, 1) := by decide +kernel
theorem dX10_served_30 : decode cX10_served 30 = .ok (.invokestatic 96, 3) := by decide +kernel
theorem dX10_served_33 : decode cX10_served 33 = .ok (.ifCond .ne 5, 3) := by decide +kernel
theorem dX10_served_36 : decode cX10_served 36 = .ok (.iconst (-1), 1) := by decide +kernel
theorem dX10_served_37 : decode cX10_served 37 = .ok (.ireturn, 1) := by decide +kernel
theorem dX10_served_38 : decode cX10_served 38 = .ok (.iconst 0, 1) := by decide +kernel
theorem dX10_served_39 : decode cX10_served 39 = .ok (.istore 4, 2) := by decide +kernel
theorem dX10_served_41 : decode cX10_served 41 = .ok (.iload 4, 2) := by decide +kernel
theorem dX10_served_43 : decode cX10_served 43 = .ok (.aload_n 0, 1) := by decide +kernel
theorem dX10_served_44 : decode cX10_served 44 = .ok (.invokevirtual 373, 3) := by decide +kernel
theorem dX10_served_47 : decode cX10_served 47 = .ok (.if_icmp .ge 25, 3) := by decide +kernel
theorem dX10_served_50 : decode cX10_served 50 = .ok (.aload_n 0, 1) := by decide +kernel
theorem dX10_served_51 : decode cX10_served 51 = .ok (.aload_n 0, 1) := by decide +kernel
theorem dX10_served_52 : decode cX10_served 52 = .ok (.iload 4, 2) := by decide +kernel
theorem dX10_served_54 : decode cX10_served 54 = .ok (.iconst 1, 1) := by decide +kernel
theorem dX10_served_55 : decode cX10_served 55 = .ok (.invokevirtual 376, 3) := by decide +kernel
theorem dX10_served_58 : decode cX10_served 58 = .ok (.invokevirtual 293, 3) := by decide +kernel
theorem dX10_served_61 : decode cX10_served 61 = .ok (.ifCond .ne 5, 3) := by decide +kernel
theorem dX10_served_64 : decode cX10_served 64 = .ok (.iconst (-1), 1) := by decide +kernel
theorem dX10_served_65 : decode cX10_served 65 = .ok (.ireturn, 1) := by decide +kernel
theorem dX10_served_66 : decode cX10_served 66 = .ok (.iinc 4 1, 3) := by decide +kernel
theorem dX10_served_69 : decode cX10_served 69 = .ok (.goto (-28), 3) := by decide +kernel
theorem dX10_served_72 : decode cX10_served 72 = .ok (.aload_n 0, 1) := by decide +kernel
theorem dX10_served_73 : decode cX10_served 73 = .ok (.invokevirtual 383, 3) := by decide +kernel
theorem dX10_served_76 : decode cX10_served 76 = .ok (.iload_n 3, 1) := by decide +kernel
theorem dX10_served_77 : decode cX10_served 77 = .ok (.bipush (-2), 2) := by decide +kernel
theorem dX10_served_79 : decode cX10_served 79 = .ok (.if_icmp .ne 10, 3) := by decide +kernel
theorem dX10_served_82 : decode cX10_served 82 = .ok (.aload_n 0, 1) := by decide +kernel
theorem dX10_served_83 : decode cX10_served 83 = .ok (.getfield 56, 3) := by decide +kernel
theorem dX10_served_86 : decode cX10_served 86 = .ok (.iconst 0, 1) := by decide +kernel
theorem dX10_served_87 : decode cX10_served 87 = .ok (.iaload, 1) := by decide +kernel
theorem dX10_served_88 : decode cX10_served 88 = .ok (.ireturn, 1) := by decide +kernel
theorem dX10_served_89 : decode cX10_served 89 = .ok (.aload_n 0, 1) := by decide +kernel
theorem dX10_served_90 : decode cX10_served 90 = .ok (.getfield 53, 3) := by decide +kernel
theorem dX10_served_93 : decode cX10_served 93 = .ok (.iconst 0, 1) := by decide +kernel
theorem dX10_served_94 : decode cX10_served 94 = .ok (.iaload, 1) := by decide +kernel
theorem dX10_served_95 : decode cX10_served 95 = .ok (.ldc_w 379, 3) := by decide +kernel
theorem dX10_served_98 : decode cX10_served 98 = .ok (.if_icmp .lt 7, 3) := by decide +kernel
theorem dX10_served_101 : decode cX10_served 101 = .ok (.iconst (-1), 1) := by decide +kernel
theorem dX10_served_102 : decode cX10_served 102 = .ok (.goto 22, 3) := by decide +kernel
theorem dX10_served_105 : decode cX10_served 105 = .ok (.iload_n 3, 1) := by decide +kernel
theorem dX10_served_106 : decode cX10_served 106 = .ok (.iconst (-1), 1) := by decide +kernel
theorem dX10_served_107 : decode cX10_served 107 = .ok (.if_icmp .ne 12, 3) := by decide +kernel
theorem dX10_served_110 : decode cX10_served 110 = .ok (.aload_n 0, 1) := by decide +kernel
theorem dX10_served_111 : decode cX10_served 111 = .ok (.getfield 53, 3) := by decide +kernel
theorem dX10_served_114 : decode cX10_served 114 = .ok (.iconst 0, 1) := by decide +kernel
theorem dX10_served_115 : decode cX10_served 115 = .ok (.iaload, 1) := by decide +kernel
theorem dX10_served_116 : decode cX10_served 116 = .ok (.goto 8, 3) := by decide +kernel
theorem dX10_served_119 : decode cX10_served 119 = .ok (.aload_n 0, 1) := by decide +kernel
theorem dX10_served_120 : decode cX10_served 120 = .ok (.iload_n 3, 1) := by decide +kernel
theorem dX10_served_121 : decode cX10_served 121 = .ok (.invokevirtual 386, 3) := by decide +kernel
theorem dX10_served_124 : decode cX10_served 124 = .ok (.ireturn, 1) := by decide +kernel
theorem dX10_linkOf_0 : decode cX10_linkOf 0 = .ok (.aload_n 0, 1) := by decide +kernel
theorem dX10_linkOf_1 : decode cX10_linkOf 1 = .ok (.bipush 47, 2) := by decide +kernel
theorem dX10_linkOf_3 : decode cX10_linkOf 3 = .ok (.bipush 8, 2) := by decide +kernel
theorem dX10_linkOf_5 : decode cX10_linkOf 5 = .ok (.iload_n 2, 1) := by decide +kernel
theorem dX10_linkOf_6 : decode cX10_linkOf 6 = .ok (.imul, 1) := by decide +kernel
theorem dX10_linkOf_7 : decode cX10_linkOf 7 = .ok (.iadd, 1) := by decide +kernel
theorem dX10_linkOf_8 : decode cX10_linkOf 8 = .ok (.iload_n 1, 1) := by decide +kernel
theorem dX10_linkOf_9 : decode cX10_linkOf 9 = .ok (.iadd, 1) := by decide +kernel
theorem dX10_linkOf_10 : decode cX10_linkOf 10 = .ok (.invokevirtual 271, 3) := by decide +kernel
theorem dX10_linkOf_13 : decode cX10_linkOf 13 = .ok (.ireturn, 1) := by decide +kernel
theorem dX10_makes_0 : decode cX10_makes 0 = .ok (.iload_n 2, 1) := by decide +kernel
theorem dX10_makes_1 : decode cX10_makes 1 = .ok (.aload_n 0, 1) := by decide +kernel
theorem dX10_makes_2 : decode cX10_makes 2 = .ok (.iload_n 1, 1) := by decide +kernel
theorem dX10_makes_3 : decode cX10_makes 3 = .ok (.iconst 0, 1) := by decide +kernel
theorem dX10_makes_4 : decode cX10_makes 4 = .ok (.invokevirtual 389, 3) := by decide +kernel
theorem dX10_makes_7 : decode cX10_makes 7 = .ok (.invokestatic 88, 3) := by decide +kernel
theorem dX10_makes_10 : decode cX10_makes 10 = .ok (.ifCond .eq 20, 3) := by decide +kernel
theorem dX10_makes_13 : decode cX10_makes 13 = .ok (.iload_n 2, 1) := by decide +kernel
theorem dX10_makes_14 : decode cX10_makes 14 = .ok (.aload_n 0, 1) := by decide +kernel
theorem dX10_makes_15 : decode cX10_makes 15 = .ok (.iload_n 1, 1) := by decide +kernel
theorem dX10_makes_16 : decode cX10_makes 16 = .ok (.iconst 1, 1) := by decide +kernel
theorem dX10_makes_17 : decode cX10_makes 17 = .ok (.invokevirtual 389, 3) := by decide +kernel
theorem dX10_makes_20 : decode cX10_makes 20 = .ok (.invokestatic 88, 3) := by decide +kernel
theorem dX10_makes_23 : decode cX10_makes 23 = .ok (.ifCond .eq 7, 3) := by decide +kernel
theorem dX10_makes_26 : decode cX10_makes 26 = .ok (.iconst 1, 1) := by decide +kernel
theorem dX10_makes_27 : decode cX10_makes 27 = .ok (.goto 4, 3) := by decide +kernel
theorem dX10_makes_30 : decode cX10_makes 30 = .ok (.iconst 0, 1) := by decide +kernel
theorem dX10_makes_31 : decode cX10_makes 31 = .ok (.ireturn, 1) := by decide +kernel
theorem dX10_round_0 : decode cX10_round 0 = .ok (.iload_n 1, 1) := by decide +kernel
theorem dX10_round_1 : decode cX10_round 1 = .ok (.istore_n 3, 1) := by decide +kernel
theorem dX10_round_2 : decode cX10_round 2 = .ok (.iconst 0, 1) := by decide +kernel
theorem dX10_round_3 : decode cX10_round 3 = .ok (.istore 4, 2) := by decide +kernel
theorem dX10_round_5 : decode cX10_round 5 = .ok (.iload 4, 2) := by decide +kernel
theorem dX10_round_7 : decode cX10_round 7 = .ok (.aload_n 0, 1) := by decide +kernel
theorem dX10_round_8 : decode cX10_round 8 = .ok (.iconst 2, 1) := by decide +kernel
theorem dX10_round_9 : decode cX10_round 9 = .ok (.invokevirtual 271, 3) := by decide +kernel
theorem dX10_round_12 : decode cX10_round 12 = .ok (.if_icmp .ge 41, 3) := by decide +kernel
theorem dX10_round_15 : decode cX10_round 15 = .ok (.iload_n 3, 1) := by decide +kernel
theorem dX10_round_16 : decode cX10_round 16 = .ok (.iload 4, 2) := by decide +kernel
theorem dX10_round_18 : decode cX10_round 18 = .ok (.iload_n 2, 1) := by decide +kernel
theorem dX10_round_19 : decode cX10_round 19 = .ok (.if_icmp .eq 25, 3) := by decide +kernel
theorem dX10_round_22 : decode cX10_round 22 = .ok (.aload_n 0, 1) := by decide +kernel
theorem dX10_round_23 : decode cX10_round 23 = .ok (.iload 4, 2) := by decide +kernel
theorem dX10_round_25 : decode cX10_round 25 = .ok (.iload_n 1, 1) := by decide +kernel
theorem dX10_round_26 : decode cX10_round 26 = .ok (.invokevirtual 392, 3) := by decide +kernel
theorem dX10_round_29 : decode cX10_round 29 = .ok (.ifCond .eq 15, 3) := by decide +kernel
theorem dX10_round_32 : decode cX10_round 32 = .ok (.iconst 1, 1) := by decide +kernel
theorem dX10_round_33 : decode cX10_round 33 = .ok (.aload_n 0, 1) := by decide +kernel
theorem dX10_round_34 : decode cX10_round 34 = .ok (.iload 4, 2) := by decide +kernel
theorem dX10_round_36 : decode cX10_round 36 = .ok (.iconst 2, 1) := by decide +kernel
theorem dX10_round_37 : decode cX10_round 37 = .ok (.invokevirtual 389, 3) := by decide +kernel
theorem dX10_round_40 : decode cX10_round 40 = .ok (.ishl, 1) := by decide +kernel
theorem dX10_round_41 : decode cX10_round 41 = .ok (.goto 4, 3) := by decide +kernel
theorem dX10_round_44 : decode cX10_round 44 = .ok (.iconst 0, 1) := by decide +kernel
theorem dX10_round_45 : decode cX10_round 45 = .ok (.ior, 1) := by decide +kernel
theorem dX10_round_46 : decode cX10_round 46 = .ok (.istore_n 3, 1) := by decide +kernel
theorem dX10_round_47 : decode cX10_round 47 = .ok (.iinc 4 1, 3) := by decide +kernel
theorem dX10_round_50 : decode cX10_round 50 = .ok (.goto (-45), 3) := by decide +kernel
theorem dX10_round_53 : decode cX10_round 53 = .ok (.iload_n 3, 1) := by decide +kernel
theorem dX10_round_54 : decode cX10_round 54 = .ok (.ireturn, 1) := by decide +kernel
theorem dX10_comesOf_0 : decode cX10_comesOf 0 = .ok (.iconst (-1), 1) := by decide +kernel
theorem dX10_comesOf_1 : decode cX10_comesOf 1 = .ok (.istore_n 3, 1) := by decide +kernel
theorem dX10_comesOf_2 : decode cX10_comesOf 2 = .ok (.iload_n 1, 1) := by decide +kernel
theorem dX10_comesOf_3 : decode cX10_comesOf 3 = .ok (.istore 4, 2) := by decide +kernel
theorem dX10_comesOf_5 : decode cX10_comesOf 5 = .ok (.iload 4, 2) := by decide +kernel
theorem dX10_comesOf_7 : decode cX10_comesOf 7 = .ok (.iload_n 3, 1) := by decide +kernel
theorem dX10_comesOf_8 : decode cX10_comesOf 8 = .ok (.if_icmp .eq 17, 3) := by decide +kernel
theorem dX10_comesOf_11 : decode cX10_comesOf 11 = .ok (.iload 4, 2) := by decide +kernel
theorem dX10_comesOf_13 : decode cX10_comesOf 13 = .ok (.istore_n 3, 1) := by decide +kernel
theorem dX10_comesOf_14 : decode cX10_comesOf 14 = .ok (.aload_n 0, 1) := by decide +kernel
theorem dX10_comesOf_15 : decode cX10_comesOf 15 = .ok (.iload_n 3, 1) := by decide +kernel
theorem dX10_comesOf_16 : decode cX10_comesOf 16 = .ok (.iload_n 2, 1) := by decide +kernel
theorem dX10_comesOf_17 : decode cX10_comesOf 17 = .ok (.invokevirtual 395, 3) := by decide +kernel
theorem dX10_comesOf_20 : decode cX10_comesOf 20 = .ok (.istore 4, 2) := by decide +kernel
theorem dX10_comesOf_22 : decode cX10_comesOf 22 = .ok (.goto (-17), 3) := by decide +kernel
theorem dX10_comesOf_25 : decode cX10_comesOf 25 = .ok (.iload 4, 2) := by decide +kernel
theorem dX10_comesOf_27 : decode cX10_comesOf 27 = .ok (.ireturn, 1) := by decide +kernel
theorem dX10_everything_0 : decode cX10_everything 0 = .ok (.iconst 1, 1) := by decide +kernel
theorem dX10_everything_1 : decode cX10_everything 1 = .ok (.aload_n 0, 1) := by decide +kernel
theorem dX10_everything_2 : decode cX10_everything 2 = .ok (.getfield 278, 3) := by decide +kernel
theorem dX10_everything_5 : decode cX10_everything 5 = .ok (.ishl, 1) := by decide +kernel
theorem dX10_everything_6 : decode cX10_everything 6 = .ok (.iconst 1, 1) := by decide +kernel
theorem dX10_everything_7 : decode cX10_everything 7 = .ok (.isub, 1) := by decide +kernel
theorem dX10_everything_8 : decode cX10_everything 8 = .ok (.ireturn, 1) := by decide +kernel
theorem dX10_weightOf_0 : decode cX10_weightOf 0 = .ok (.iconst 0, 1) := by decide +kernel
theorem dX10_weightOf_1 : decode cX10_weightOf 1 = .ok (.istore_n 2, 1) := by decide +kernel
theorem dX10_weightOf_2 : decode cX10_weightOf 2 = .ok (.iconst 0, 1) := by decide +kernel
theorem dX10_weightOf_3 : decode cX10_weightOf 3 = .ok (.istore_n 3, 1) := by decide +kernel
theorem dX10_weightOf_4 : decode cX10_weightOf 4 = .ok (.iload_n 3, 1) := by decide +kernel
theorem dX10_weightOf_5 : decode cX10_weightOf 5 = .ok (.aload_n 0, 1) := by decide +kernel
theorem dX10_weightOf_6 : decode cX10_weightOf 6 = .ok (.getfield 278, 3) := by decide +kernel
theorem dX10_weightOf_9 : decode cX10_weightOf 9 = .ok (.if_icmp .ge 32, 3) := by decide +kernel
theorem dX10_weightOf_12 : decode cX10_weightOf 12 = .ok (.iload_n 2, 1) := by decide +kernel
theorem dX10_weightOf_13 : decode cX10_weightOf 13 = .ok (.iload_n 1, 1) := by decide +kernel
theorem dX10_weightOf_14 : decode cX10_weightOf 14 = .ok (.iload_n 3, 1) := by decide +kernel
theorem dX10_weightOf_15 : decode cX10_weightOf 15 = .ok (.invokestatic 88, 3) := by decide +kernel
theorem dX10_weightOf_18 : decode cX10_weightOf 18 = .ok (.ifCond .eq 14, 3) := by decide +kernel
theorem dX10_weightOf_21 : decode cX10_weightOf 21 = .ok (.aload_n 0, 1) := by decide +kernel
theorem dX10_weightOf_22 : decode cX10_weightOf 22 = .ok (.bipush 37, 2) := by decide +kernel
theorem dX10_weightOf_24 : decode cX10_weightOf 24 = .ok (.iload_n 3, 1) := by decide +kernel
theorem dX10_weightOf_25 : decode cX10_weightOf 25 = .ok (.iadd, 1) := by decide +kernel
theorem dX10_weightOf_26 : decode cX10_weightOf 26 = .ok (.invokevirtual 271, 3) := by decide +kernel
theorem dX10_weightOf_29 : decode cX10_weightOf 29 = .ok (.goto 4, 3) := by decide +kernel
theorem dX10_weightOf_32 : decode cX10_weightOf 32 = .ok (.iconst 0, 1) := by decide +kernel
theorem dX10_weightOf_33 : decode cX10_weightOf 33 = .ok (.iadd, 1) := by decide +kernel
theorem dX10_weightOf_34 : decode cX10_weightOf 34 = .ok (.istore_n 2, 1) := by decide +kernel
theorem dX10_weightOf_35 : decode cX10_weightOf 35 = .ok (.iinc 3 1, 3) := by decide +kernel
theorem dX10_weightOf_38 : decode cX10_weightOf 38 = .ok (.goto (-34), 3) := by decide +kernel
theorem dX10_weightOf_41 : decode cX10_weightOf 41 = .ok (.iload_n 2, 1) := by decide +kernel
theorem dX10_weightOf_42 : decode cX10_weightOf 42 = .ok (.ireturn, 1) := by decide +kernel
theorem dX10_comes_0 : decode cX10_comes 0 = .ok (.aload_n 0, 1) := by decide +kernel
theorem dX10_comes_1 : decode cX10_comes 1 = .ok (.iconst 0, 1) := by decide +kernel
theorem dX10_comes_2 : decode cX10_comes 2 = .ok (.putfield 84, 3) := by decide +kernel
theorem dX10_comes_5 : decode cX10_comes 5 = .ok (.aload_n 0, 1) := by decide +kernel
theorem dX10_comes_6 : decode cX10_comes 6 = .ok (.iload_n 1, 1) := by decide +kernel
theorem dX10_comes_7 : decode cX10_comes 7 = .ok (.invokevirtual 287, 3) := by decide +kernel
theorem dX10_comes_10 : decode cX10_comes 10 = .ok (.ifCond .eq 24, 3) := by decide +kernel
theorem dX10_comes_13 : decode cX10_comes 13 = .ok (.iload_n 2, 1) := by decide +kernel
theorem dX10_comes_14 : decode cX10_comes 14 = .ok (.iconst 0, 1) := by decide +kernel
theorem dX10_comes_15 : decode cX10_comes 15 = .ok (.aload_n 0, 1) := by decide +kernel
theorem dX10_comes_16 : decode cX10_comes 16 = .ok (.invokevirtual 398, 3) := by decide +kernel
theorem dX10_comes_19 : decode cX10_comes 19 = .ok (.invokestatic 96, 3) := by decide +kernel
theorem dX10_comes_22 : decode cX10_comes 22 = .ok (.ifCond .eq 12, 3) := by decide +kernel
theorem dX10_comes_25 : decode cX10_comes 25 = .ok (.aload_n 0, 1) := by decide +kernel
theorem dX10_comes_26 : decode cX10_comes 26 = .ok (.iload_n 2, 1) := by decide +kernel
theorem dX10_comes_27 : decode cX10_comes 27 = .ok (.iconst (-1), 1) := by decide +kernel
theorem dX10_comes_28 : decode cX10_comes 28 = .ok (.invokevirtual 401, 3) := by decide +kernel
theorem dX10_comes_31 : decode cX10_comes 31 = .ok (.goto 4, 3) := by decide +kernel
theorem dX10_comes_34 : decode cX10_comes 34 = .ok (.iconst (-1), 1) := by decide +kernel
theorem dX10_comes_35 : decode cX10_comes 35 = .ok (.ireturn, 1) := by decide +kernel
theorem dX10_keep__0 : decode cX10_keep_ 0 = .ok (.aload_n 0, 1) := by decide +kernel
theorem dX10_keep__1 : decode cX10_keep_ 1 = .ok (.iconst 0, 1) := by decide +kernel
theorem dX10_keep__2 : decode cX10_keep_ 2 = .ok (.putfield 84, 3) := by decide +kernel
theorem dX10_keep__5 : decode cX10_keep_ 5 = .ok (.aload_n 0, 1) := by decide +kernel
theorem dX10_keep__6 : decode cX10_keep_ 6 = .ok (.iload_n 1, 1) := by decide +kernel
theorem dX10_keep__7 : decode cX10_keep_ 7 = .ok (.invokevirtual 287, 3) := by decide +kernel
theorem dX10_keep__10 : decode cX10_keep_ 10 = .ok (.ifCond .eq 11, 3) := by decide +kernel
theorem dX10_keep__13 : decode cX10_keep_ 13 = .ok (.aload_n 0, 1) := by decide +kernel
theorem dX10_keep__14 : decode cX10_keep_ 14 = .ok (.iload_n 2, 1) := by decide +kernel
theorem dX10_keep__15 : decode cX10_keep_ 15 = .ok (.invokevirtual 290, 3) := by decide +kernel
theorem dX10_keep__18 : decode cX10_keep_ 18 = .ok (.ifCond .ne 5, 3) := by decide +kernel
theorem dX10_keep__21 : decode cX10_keep_ 21 = .ok (.iconst (-1), 1) := by decide +kernel
theorem dX10_keep__22 : decode cX10_keep_ 22 = .ok (.ireturn, 1) := by decide +kernel
theorem dX10_keep__23 : decode cX10_keep_ 23 = .ok (.iconst (-1), 1) := by decide +kernel
theorem dX10_keep__24 : decode cX10_keep_ 24 = .ok (.istore 4, 2) := by decide +kernel
theorem dX10_keep__26 : decode cX10_keep_ 26 = .ok (.iconst 0, 1) := by decide +kernel
theorem dX10_keep__27 : decode cX10_keep_ 27 = .ok (.istore 5, 2) := by decide +kernel
theorem dX10_keep__29 : decode cX10_keep_ 29 = .ok (.iload 5, 2) := by decide +kernel
theorem dX10_keep__31 : decode cX10_keep_ 31 = .ok (.aload_n 0, 1) := by decide +kernel
theorem dX10_keep__32 : decode cX10_keep_ 32 = .ok (.invokevirtual 398, 3) := by decide +kernel
theorem dX10_keep__35 : decode cX10_keep_ 35 = .ok (.if_icmp .gt 85, 3) := by decide +kernel
theorem dX10_keep__38 : decode cX10_keep_ 38 = .ok (.iload 5, 2) := by decide +kernel
theorem dX10_keep__40 : decode cX10_keep_ 40 = .ok (.iload_n 2, 1) := by decide +kernel
theorem dX10_keep__41 : decode cX10_keep_ 41 = .ok (.invokestatic 88, 3) := by decide +kernel
theorem dX10_keep__44 : decode cX10_keep_ 44 = .ok (.iload_n 3, 1) := by decide +kernel
theorem dX10_keep__45 : decode cX10_keep_ 45 = .ok (.if_icmp .eq 26, 3) := by decide +kernel
theorem dX10_keep__48 : decode cX10_keep_ 48 = .ok (.iload 4, 2) := by decide +kernel
theorem dX10_keep__50 : decode cX10_keep_ 50 = .ok (.iconst (-1), 1) := by decide +kernel
theorem dX10_keep__51 : decode cX10_keep_ 51 = .ok (.if_icmp .eq 16, 3) := by decide +kernel
theorem dX10_keep__54 : decode cX10_keep_ 54 = .ok (.iload 5, 2) := by decide +kernel
theorem dX10_keep__56 : decode cX10_keep_ 56 = .ok (.invokestatic 404, 3) := by decide +kernel
theorem dX10_keep__59 : decode cX10_keep_ 59 = .ok (.iload 4, 2) := by decide +kernel
theorem dX10_keep__61 : decode cX10_keep_ 61 = .ok (.invokestatic 404, 3) := by decide +kernel
theorem dX10_keep__64 : decode cX10_keep_ 64 = .ok (.if_icmp .ge 7, 3) := by decide +kernel
theorem dX10_keep__67 : decode cX10_keep_ 67 = .ok (.iconst 1, 1) := by decide +kernel
theorem dX10_keep__68 : decode cX10_keep_ 68 = .ok (.goto 4, 3) := by decide +kernel
theorem dX10_keep__71 : decode cX10_keep_ 71 = .ok (.iconst 0, 1) := by decide +kernel
theorem dX10_keep__72 : decode cX10_keep_ 72 = .ok (.istore 6, 2) := by decide +kernel
theorem dX10_keep__74 : decode cX10_keep_ 74 = .ok (.iload 6, 2) := by decide +kernel
theorem dX10_keep__76 : decode cX10_keep_ 76 = .ok (.ifCond .eq 38, 3) := by decide +kernel
theorem dX10_keep__79 : decode cX10_keep_ 79 = .ok (.aload_n 0, 1) := by decide +kernel
theorem dX10_keep__80 : decode cX10_keep_ 80 = .ok (.iload_n 3, 1) := by decide +kernel
theorem dX10_keep__81 : decode cX10_keep_ 81 = .ok (.ifCond .eq 8, 3) := by decide +kernel
theorem dX10_keep__84 : decode cX10_keep_ 84 = .ok (.iload 5, 2) := by decide +kernel
theorem dX10_keep__86 : decode cX10_keep_ 86 = .ok (.goto 12, 3) := by decide +kernel
theorem dX10_keep__89 : decode cX10_keep_ 89 = .ok (.aload_n 0, 1) := by decide +kernel
theorem dX10_keep__90 : decode cX10_keep_ 90 = .ok (.invokevirtual 398, 3) := by decide +kernel
theorem dX10_keep__93 : decode cX10_keep_ 93 = .ok (.iload 5, 2) := by decide +kernel
theorem dX10_keep__95 : decode cX10_keep_ 95 = .ok (.iconst (-1), 1) := by decide +kernel
theorem dX10_keep__96 : decode cX10_keep_ 96 = .ok (.ixor, 1) := by decide +kernel
theorem dX10_keep__97 : decode cX10_keep_ 97 = .ok (.iand, 1) := by decide +kernel
theorem dX10_keep__98 : decode cX10_keep_ 98 = .ok (.iconst (-1), 1) := by decide +kernel
theorem dX10_keep__99 : decode cX10_keep_ 99 = .ok (.invokevirtual 401, 3) := by decide +kernel
theorem dX10_keep__102 : decode cX10_keep_ 102 = .ok (.iload_n 2, 1) := by decide +kernel
theorem dX10_keep__103 : decode cX10_keep_ 103 = .ok (.invokestatic 88, 3) := by decide +kernel
theorem dX10_keep__106 : decode cX10_keep_ 106 = .ok (.iload_n 3, 1) := by decide +kernel
theorem dX10_keep__107 : decode cX10_keep_ 107 = .ok (.if_icmp .ne 7, 3) := by decide +kernel
theorem dX10_keep__110 : decode cX10_keep_ 110 = .ok (.iload 5, 2) := by decide +kernel
theorem dX10_keep__112 : decode cX10_keep_ 112 = .ok (.istore 4, 2) := by decide +kernel
theorem dX10_keep__114 : decode cX10_keep_ 114 = .ok (.iinc 5 1, 3) := by decide +kernel
theorem dX10_keep__117 : decode cX10_keep_ 117 = .ok (.goto (-88), 3) := by decide +kernel
theorem dX10_keep__120 : decode cX10_keep_ 120 = .ok (.iload 4, 2) := by decide +kernel
theorem dX10_keep__122 : decode cX10_keep_ 122 = .ok (.ireturn, 1) := by decide +kernel
theorem dX10_findLoot_0 : decode cX10_findLoot 0 = .ok (.iconst 0, 1) := by decide +kernel
theorem dX10_findLoot_1 : decode cX10_findLoot 1 = .ok (.istore_n 1, 1) := by decide +kernel
theorem dX10_findLoot_2 : decode cX10_findLoot 2 = .ok (.iload_n 1, 1) := by decide +kernel
theorem dX10_findLoot_3 : decode cX10_findLoot 3 = .ok (.iconst 1, 1) := by decide +kernel
theorem dX10_findLoot_4 : decode cX10_findLoot 4 = .ok (.aload_n 0, 1) := by decide +kernel
theorem dX10_findLoot_5 : decode cX10_findLoot 5 = .ok (.getfield 275, 3) := by decide +kernel
theorem dX10_findLoot_8 : decode cX10_findLoot 8 = .ok (.ishl, 1) := by decide +kernel
theorem dX10_findLoot_9 : decode cX10_findLoot 9 = .ok (.if_icmp .ge 64, 3) := by decide +kernel
theorem dX10_findLoot_12 : decode cX10_findLoot 12 = .ok (.iconst 0, 1) := by decide +kernel
theorem dX10_findLoot_13 : decode cX10_findLoot 13 = .ok (.istore_n 2, 1) := by decide +kernel
theorem dX10_findLoot_14 : decode cX10_findLoot 14 = .ok (.iconst 0, 1) := by decide +kernel
theorem dX10_findLoot_15 : decode cX10_findLoot 15 = .ok (.istore_n 3, 1) := by decide +kernel
theorem dX10_findLoot_16 : decode cX10_findLoot 16 = .ok (.iload_n 3, 1) := by decide +kernel
theorem dX10_findLoot_17 : decode cX10_findLoot 17 = .ok (.aload_n 0, 1) := by decide +kernel
theorem dX10_findLoot_18 : decode cX10_findLoot 18 = .ok (.getfield 275, 3) := by decide +kernel
theorem dX10_findLoot_21 : decode cX10_findLoot 21 = .ok (.if_icmp .ge 30, 3) := by decide +kernel
theorem dX10_findLoot_24 : decode cX10_findLoot 24 = .ok (.iload_n 2, 1) := by decide +kernel
theorem dX10_findLoot_25 : decode cX10_findLoot 25 = .ok (.iload_n 1, 1) := by decide +kernel
theorem dX10_findLoot_26 : decode cX10_findLoot 26 = .ok (.iload_n 3, 1) := by decide +kernel
theorem dX10_findLoot_27 : decode cX10_findLoot 27 = .ok (.invokestatic 88, 3) := by decide +kernel
theorem dX10_findLoot_30 : decode cX10_findLoot 30 = .ok (.ifCond .eq 12, 3) := by decide +kernel
theorem dX10_findLoot_33 : decode cX10_findLoot 33 = .ok (.aload_n 0, 1) := by decide +kernel
theorem dX10_findLoot_34 : decode cX10_findLoot 34 = .ok (.getfield 44, 3) := by decide +kernel
theorem dX10_findLoot_37 : decode cX10_findLoot 37 = .ok (.iload_n 3, 1) := by decide +kernel
theorem dX10_findLoot_38 : decode cX10_findLoot 38 = .ok (.iaload, 1) := by decide +kernel
theorem dX10_findLoot_39 : decode cX10_findLoot 39 = .ok (.goto 4, 3) := by decide +kernel
theorem dX10_findLoot_42 : decode cX10_findLoot 42 = .ok (.iconst 0, 1) := by decide +kernel
theorem dX10_findLoot_43 : decode cX10_findLoot 43 = .ok (.ior, 1) := by decide +kernel
theorem dX10_findLoot_44 : decode cX10_findLoot 44 = .ok (.istore_n 2, 1) := by decide +kernel
theorem dX10_findLoot_45 : decode cX10_findLoot 45 = .ok (.iinc 3 1, 3) := by decide +kernel
theorem dX10_findLoot_48 : decode cX10_findLoot 48 = .ok (.goto (-32), 3) := by decide +kernel
theorem dX10_findLoot_51 : decode cX10_findLoot 51 = .ok (.aload_n 0, 1) := by decide +kernel
theorem dX10_findLoot_52 : decode cX10_findLoot 52 = .ok (.getfield 59, 3) := by decide +kernel
theorem dX10_findLoot_55 : decode cX10_findLoot 55 = .ok (.iload_n 1, 1) := by decide +kernel
theorem dX10_findLoot_56 : decode cX10_findLoot 56 = .ok (.aload_n 0, 1) := by decide +kernel
theorem dX10_findLoot_57 : decode cX10_findLoot 57 = .ok (.aload_n 0, 1) := by decide +kernel
theorem dX10_findLoot_58 : decode cX10_findLoot 58 = .ok (.iload_n 2, 1) := by decide +kernel
theorem dX10_findLoot_59 : decode cX10_findLoot 59 = .ok (.iconst (-1), 1) := by decide +kernel
theorem dX10_findLoot_60 : decode cX10_findLoot 60 = .ok (.invokevirtual 401, 3) := by decide +kernel
theorem dX10_findLoot_63 : decode cX10_findLoot 63 = .ok (.invokevirtual 407, 3) := by decide +kernel
theorem dX10_findLoot_66 : decode cX10_findLoot 66 = .ok (.iastore, 1) := by decide +kernel
theorem dX10_findLoot_67 : decode cX10_findLoot 67 = .ok (.iinc 1 1, 3) := by decide +kernel
theorem dX10_findLoot_70 : decode cX10_findLoot 70 = .ok (.goto (-68), 3) := by decide +kernel
theorem dX10_findLoot_73 : decode cX10_findLoot 73 = .ok (.return_, 1) := by decide +kernel
theorem dX10_bestLoot_0 : decode cX10_bestLoot 0 = .ok (.iconst 0, 1) := by decide +kernel
theorem dX10_bestLoot_1 : decode cX10_bestLoot 1 = .ok (.istore_n 3, 1) := by decide +kernel
theorem dX10_bestLoot_2 : decode cX10_bestLoot 2 = .ok (.iconst 1, 1) := by decide +kernel
theorem dX10_bestLoot_3 : decode cX10_bestLoot 3 = .ok (.istore 4, 2) := by decide +kernel
theorem dX10_bestLoot_5 : decode cX10_bestLoot 5 = .ok (.iload 4, 2) := by decide +kernel
theorem dX10_bestLoot_7 : decode cX10_bestLoot 7 = .ok (.iconst 1, 1) := by decide +kernel
theorem dX10_bestLoot_8 : decode cX10_bestLoot 8 = .ok (.aload_n 0, 1) := by decide +kernel
theorem dX10_bestLoot_9 : decode cX10_bestLoot 9 = .ok (.getfield 275, 3) := by decide +kernel
theorem dX10_bestLoot_12 : decode cX10_bestLoot 12 = .ok (.ishl, 1) := by decide +kernel
theorem dX10_bestLoot_13 : decode cX10_bestLoot 13 = .ok (.if_icmp .ge 102, 3) := by decide +kernel
theorem dX10_bestLoot_16 : decode cX10_bestLoot 16 = .ok (.iload 4, 2) := by decide +kernel
theorem dX10_bestLoot_18 : decode cX10_bestLoot 18 = .ok (.iload_n 1, 1) := by decide +kernel
theorem dX10_bestLoot_19 : decode cX10_bestLoot 19 = .ok (.iconst (-1), 1) := by decide +kernel
theorem dX10_bestLoot_20 : decode cX10_bestLoot 20 = .ok (.ixor, 1) := by decide +kernel
theorem dX10_bestLoot_21 : decode cX10_bestLoot 21 = .ok (.iand, 1) := by decide +kernel
theorem dX10_bestLoot_22 : decode cX10_bestLoot 22 = .ok (.ifCond .ne 16, 3) := by decide +kernel
theorem dX10_bestLoot_25 : decode cX10_bestLoot 25 = .ok (.iload 4, 2) := by decide +kernel
theorem dX10_bestLoot_27 : decode cX10_bestLoot 27 = .ok (.invokestatic 404, 3) := by decide +kernel
theorem dX10_bestLoot_30 : decode cX10_bestLoot 30 = .ok (.iload_n 2, 1) := by decide +kernel
theorem dX10_bestLoot_31 : decode cX10_bestLoot 31 = .ok (.if_icmp .gt 7, 3) := by decide +kernel
theorem dX10_bestLoot_34 : decode cX10_bestLoot 34 = .ok (.iconst 1, 1) := by decide +kernel
theorem dX10_bestLoot_35 : decode cX10_bestLoot 35 = .ok (.goto 4, 3) := by decide +kernel
theorem dX10_bestLoot_38 : decode cX10_bestLoot 38 = .ok (.iconst 0, 1) := by decide +kernel
theorem dX10_bestLoot_39 : decode cX10_bestLoot 39 = .ok (.istore 5, 2) := by decide +kernel
theorem dX10_bestLoot_41 : decode cX10_bestLoot 41 = .ok (.aload_n 0, 1) := by decide +kernel
theorem dX10_bestLoot_42 : decode cX10_bestLoot 42 = .ok (.getfield 59, 3) := by decide +kernel
theorem dX10_bestLoot_45 : decode cX10_bestLoot 45 = .ok (.iload 4, 2) := by decide +kernel
theorem dX10_bestLoot_47 : decode cX10_bestLoot 47 = .ok (.iaload, 1) := by decide +kernel
theorem dX10_bestLoot_48 : decode cX10_bestLoot 48 = .ok (.aload_n 0, 1) := by decide +kernel
theorem dX10_bestLoot_49 : decode cX10_bestLoot 49 = .ok (.getfield 59, 3) := by decide +kernel
theorem dX10_bestLoot_52 : decode cX10_bestLoot 52 = .ok (.iload_n 3, 1) := by decide +kernel
theorem dX10_bestLoot_53 : decode cX10_bestLoot 53 = .ok (.iaload, 1) := by decide +kernel
theorem dX10_bestLoot_54 : decode cX10_bestLoot 54 = .ok (.if_icmp .gt 31, 3) := by decide +kernel
theorem dX10_bestLoot_57 : decode cX10_bestLoot 57 = .ok (.aload_n 0, 1) := by decide +kernel
theorem dX10_bestLoot_58 : decode cX10_bestLoot 58 = .ok (.getfield 59, 3) := by decide +kernel
theorem dX10_bestLoot_61 : decode cX10_bestLoot 61 = .ok (.iload 4, 2) := by decide +kernel
theorem dX10_bestLoot_63 : decode cX10_bestLoot 63 = .ok (.iaload, 1) := by decide +kernel
theorem dX10_bestLoot_64 : decode cX10_bestLoot 64 = .ok (.aload_n 0, 1) := by decide +kernel
theorem dX10_bestLoot_65 : decode cX10_bestLoot 65 = .ok (.getfield 59, 3) := by decide +kernel
theorem dX10_bestLoot_68 : decode cX10_bestLoot 68 = .ok (.iload_n 3, 1) := by decide +kernel
theorem dX10_bestLoot_69 : decode cX10_bestLoot 69 = .ok (.iaload, 1) := by decide +kernel
theorem dX10_bestLoot_70 : decode cX10_bestLoot 70 = .ok (.if_icmp .ne 19, 3) := by decide +kernel
theorem dX10_bestLoot_73 : decode cX10_bestLoot 73 = .ok (.iload 4, 2) := by decide +kernel
theorem dX10_bestLoot_75 : decode cX10_bestLoot 75 = .ok (.invokestatic 404, 3) := by decide +kernel
theorem dX10_bestLoot_78 : decode cX10_bestLoot 78 = .ok (.iload_n 3, 1) := by decide +kernel
theorem dX10_bestLoot_79 : decode cX10_bestLoot 79 = .ok (.invokestatic 404, 3) := by decide +kernel
theorem dX10_bestLoot_82 : decode cX10_bestLoot 82 = .ok (.if_icmp .ge 7, 3) := by decide +kernel
theorem dX10_bestLoot_85 : decode cX10_bestLoot 85 = .ok (.iconst 1, 1) := by decide +kernel
theorem dX10_bestLoot_86 : decode cX10_bestLoot 86 = .ok (.goto 4, 3) := by decide +kernel
theorem dX10_bestLoot_89 : decode cX10_bestLoot 89 = .ok (.iconst 0, 1) := by decide +kernel
theorem dX10_bestLoot_90 : decode cX10_bestLoot 90 = .ok (.istore 6, 2) := by decide +kernel
theorem dX10_bestLoot_92 : decode cX10_bestLoot 92 = .ok (.iload 5, 2) := by decide +kernel
theorem dX10_bestLoot_94 : decode cX10_bestLoot 94 = .ok (.ifCond .eq 13, 3) := by decide +kernel
theorem dX10_bestLoot_97 : decode cX10_bestLoot 97 = .ok (.iload 6, 2) := by decide +kernel
theorem dX10_bestLoot_99 : decode cX10_bestLoot 99 = .ok (.ifCond .eq 8, 3) := by decide +kernel
theorem dX10_bestLoot_102 : decode cX10_bestLoot 102 = .ok (.iload 4, 2) := by decide +kernel
theorem dX10_bestLoot_104 : decode cX10_bestLoot 104 = .ok (.goto 4, 3) := by decide +kernel
theorem dX10_bestLoot_107 : decode cX10_bestLoot 107 = .ok (.iload_n 3, 1) := by decide +kernel
theorem dX10_bestLoot_108 : decode cX10_bestLoot 108 = .ok (.istore_n 3, 1) := by decide +kernel
theorem dX10_bestLoot_109 : decode cX10_bestLoot 109 = .ok (.iinc 4 1, 3) := by decide +kernel
theorem dX10_bestLoot_112 : decode cX10_bestLoot 112 = .ok (.goto (-107), 3) := by decide +kernel
theorem dX10_bestLoot_115 : decode cX10_bestLoot 115 = .ok (.iload_n 3, 1) := by decide +kernel
theorem dX10_bestLoot_116 : decode cX10_bestLoot 116 = .ok (.ireturn, 1) := by decide +kernel
theorem dX10_theft_0 : decode cX10_theft 0 = .ok (.aload_n 0, 1) := by decide +kernel
theorem dX10_theft_1 : decode cX10_theft 1 = .ok (.iconst 0, 1) := by decide +kernel
theorem dX10_theft_2 : decode cX10_theft 2 = .ok (.putfield 84, 3) := by decide +kernel
theorem dX10_theft_5 : decode cX10_theft 5 = .ok (.iload_n 2, 1) := by decide +kernel
theorem dX10_theft_6 : decode cX10_theft 6 = .ok (.iconst 0, 1) := by decide +kernel
theorem dX10_theft_7 : decode cX10_theft 7 = .ok (.bipush 8, 2) := by decide +kernel
theorem dX10_theft_9 : decode cX10_theft 9 = .ok (.invokestatic 96, 3) := by decide +kernel
theorem dX10_theft_12 : decode cX10_theft 12 = .ok (.ifCond .eq 11, 3) := by decide +kernel
theorem dX10_theft_15 : decode cX10_theft 15 = .ok (.aload_n 0, 1) := by decide +kernel
theorem dX10_theft_16 : decode cX10_theft 16 = .ok (.iload_n 1, 1) := by decide +kernel
theorem dX10_theft_17 : decode cX10_theft 17 = .ok (.invokevirtual 287, 3) := by decide +kernel
theorem dX10_theft_20 : decode cX10_theft 20 = .ok (.ifCond .ne 5, 3) := by decide +kernel
theorem dX10_theft_23 : decode cX10_theft 23 = .ok (.iconst (-1), 1) := by decide +kernel
theorem dX10_theft_24 : decode cX10_theft 24 = .ok (.ireturn, 1) := by decide +kernel
theorem dX10_theft_25 : decode cX10_theft 25 = .ok (.aload_n 0, 1) := by decide +kernel
theorem dX10_theft_26 : decode cX10_theft 26 = .ok (.invokevirtual 410, 3) := by decide +kernel
theorem dX10_theft_29 : decode cX10_theft 29 = .ok (.aload_n 0, 1) := by decide +kernel
theorem dX10_theft_30 : decode cX10_theft 30 = .ok (.iconst 1, 1) := by decide +kernel
theorem dX10_theft_31 : decode cX10_theft 31 = .ok (.aload_n 0, 1) := by decide +kernel
theorem dX10_theft_32 : decode cX10_theft 32 = .ok (.getfield 275, 3) := by decide +kernel
theorem dX10_theft_35 : decode cX10_theft 35 = .ok (.ishl, 1) := by decide +kernel
theorem dX10_theft_36 : decode cX10_theft 36 = .ok (.iconst 1, 1) := by decide +kernel
theorem dX10_theft_37 : decode cX10_theft 37 = .ok (.isub, 1) := by decide +kernel
theorem dX10_theft_38 : decode cX10_theft 38 = .ok (.iload_n 2, 1) := by decide +kernel
theorem dX10_theft_39 : decode cX10_theft 39 = .ok (.invokevirtual 413, 3) := by decide +kernel
theorem dX10_theft_42 : decode cX10_theft 42 = .ok (.istore 4, 2) := by decide +kernel
theorem dX10_theft_44 : decode cX10_theft 44 = .ok (.iload_n 3, 1) := by decide +kernel
theorem dX10_theft_45 : decode cX10_theft 45 = .ok (.ifCond .eq 8, 3) := by decide +kernel
theorem dX10_theft_48 : decode cX10_theft 48 = .ok (.iload 4, 2) := by decide +kernel
theorem dX10_theft_50 : decode cX10_theft 50 = .ok (.goto 10, 3) := by decide +kernel
theorem dX10_theft_53 : decode cX10_theft 53 = .ok (.aload_n 0, 1) := by decide +kernel
theorem dX10_theft_54 : decode cX10_theft 54 = .ok (.getfield 59, 3) := by decide +kernel
theorem dX10_theft_57 : decode cX10_theft 57 = .ok (.iload 4, 2) := by decide +kernel
theorem dX10_theft_59 : decode cX10_theft 59 = .ok (.iaload, 1) := by decide +kernel
theorem dX10_theft_60 : decode cX10_theft 60 = .ok (.ireturn, 1) := by decide +kernel
theorem dX10_fill_0 : decode cX10_fill 0 = .ok (.iconst 0, 1) := by decide +kernel
theorem dX10_fill_1 : decode cX10_fill 1 = .ok (.istore_n 3, 1) := by decide +kernel
theorem dX10_fill_2 : decode cX10_fill 2 = .ok (.iload_n 3, 1) := by decide +kernel
theorem dX10_fill_3 : decode cX10_fill 3 = .ok (.iload_n 1, 1) := by decide +kernel
theorem dX10_fill_4 : decode cX10_fill 4 = .ok (.if_icmp .gt 31, 3) := by decide +kernel
theorem dX10_fill_7 : decode cX10_fill 7 = .ok (.aload_n 0, 1) := by decide +kernel
theorem dX10_fill_8 : decode cX10_fill 8 = .ok (.getfield 62, 3) := by decide +kernel
theorem dX10_fill_11 : decode cX10_fill 11 = .ok (.iload_n 3, 1) := by decide +kernel
theorem dX10_fill_12 : decode cX10_fill 12 = .ok (.iload_n 3, 1) := by decide +kernel
theorem dX10_fill_13 : decode cX10_fill 13 = .ok (.ifCond .ne 12, 3) := by decide +kernel
theorem dX10_fill_16 : decode cX10_fill 16 = .ok (.aload_n 0, 1) := by decide +kernel
theorem dX10_fill_17 : decode cX10_fill 17 = .ok (.getfield 65, 3) := by decide +kernel
theorem dX10_fill_20 : decode cX10_fill 20 = .ok (.iconst 0, 1) := by decide +kernel
theorem dX10_fill_21 : decode cX10_fill 21 = .ok (.iaload, 1) := by decide +kernel
theorem dX10_fill_22 : decode cX10_fill 22 = .ok (.goto 6, 3) := by decide +kernel
theorem dX10_fill_25 : decode cX10_fill 25 = .ok (.ldc_w 379, 3) := by decide +kernel
theorem dX10_fill_28 : decode cX10_fill 28 = .ok (.iastore, 1) := by decide +kernel
theorem dX10_fill_29 : decode cX10_fill 29 = .ok (.iinc 3 1, 3) := by decide +kernel
theorem dX10_fill_32 : decode cX10_fill 32 = .ok (.goto (-30), 3) := by decide +kernel
theorem dX10_fill_35 : decode cX10_fill 35 = .ok (.iconst 0, 1) := by decide +kernel
theorem dX10_fill_36 : decode cX10_fill 36 = .ok (.istore_n 3, 1) := by decide +kernel
theorem dX10_fill_37 : decode cX10_fill 37 = .ok (.iload_n 3, 1) := by decide +kernel
theorem dX10_fill_38 : decode cX10_fill 38 = .ok (.iload_n 1, 1) := by decide +kernel
theorem dX10_fill_39 : decode cX10_fill 39 = .ok (.if_icmp .gt 196, 3) := by decide +kernel
theorem dX10_fill_42 : decode cX10_fill 42 = .ok (.iconst 0, 1) := by decide +kernel
theorem dX10_fill_43 : decode cX10_fill 43 = .ok (.istore 4, 2) := by decide +kernel
theorem dX10_fill_45 : decode cX10_fill 45 = .ok (.iload 4, 2) := by decide +kernel
theorem dX10_fill_47 : decode cX10_fill 47 = .ok (.aload_n 0, 1) := by decide +kernel
theorem dX10_fill_48 : decode cX10_fill 48 = .ok (.getfield 278, 3) := by decide +kernel
theorem dX10_fill_51 : decode cX10_fill 51 = .ok (.if_icmp .ge 178, 3) := by decide +kernel
theorem dX10_fill_54 : decode cX10_fill 54 = .ok (.iload_n 3, 1) := by decide +kernel
theorem dX10_fill_55 : decode cX10_fill 55 = .ok (.iload_n 1, 1) := by decide +kernel
theorem dX10_fill_56 : decode cX10_fill 56 = .ok (.iconst (-1), 1) := by decide +kernel
theorem dX10_fill_57 : decode cX10_fill 57 = .ok (.ixor, 1) := by decide +kernel
theorem dX10_fill_58 : decode cX10_fill 58 = .ok (.iand, 1) := by decide +kernel
theorem dX10_fill_59 : decode cX10_fill 59 = .ok (.ifCond .ne 170, 3) := by decide +kernel
theorem dX10_fill_62 : decode cX10_fill 62 = .ok (.aload_n 0, 1) := by decide +kernel
theorem dX10_fill_63 : decode cX10_fill 63 = .ok (.getfield 62, 3) := by decide +kernel
theorem dX10_fill_66 : decode cX10_fill 66 = .ok (.iload_n 3, 1) := by decide +kernel
theorem dX10_fill_67 : decode cX10_fill 67 = .ok (.iaload, 1) := by decide +kernel
theorem dX10_fill_68 : decode cX10_fill 68 = .ok (.ldc_w 379, 3) := by decide +kernel
theorem dX10_fill_71 : decode cX10_fill 71 = .ok (.if_icmp .ge 158, 3) := by decide +kernel
theorem dX10_fill_74 : decode cX10_fill 74 = .ok (.iload_n 1, 1) := by decide +kernel
theorem dX10_fill_75 : decode cX10_fill 75 = .ok (.iload 4, 2) := by decide +kernel
theorem dX10_fill_77 : decode cX10_fill 77 = .ok (.invokestatic 88, 3) := by decide +kernel
theorem dX10_fill_80 : decode cX10_fill 80 = .ok (.ifCond .eq 143, 3) := by decide +kernel
theorem dX10_fill_83 : decode cX10_fill 83 = .ok (.iload_n 3, 1) := by decide +kernel
theorem dX10_fill_84 : decode cX10_fill 84 = .ok (.iload 4, 2) := by decide +kernel
theorem dX10_fill_86 : decode cX10_fill 86 = .ok (.invokestatic 88, 3) := by decide +kernel
theorem dX10_fill_89 : decode cX10_fill 89 = .ok (.ifCond .ne 134, 3) := by decide +kernel
theorem dX10_fill_92 : decode cX10_fill 92 = .ok (.aload_n 0, 1) := by decide +kernel
theorem dX10_fill_93 : decode cX10_fill 93 = .ok (.getfield 62, 3) := by decide +kernel
theorem dX10_fill_96 : decode cX10_fill 96 = .ok (.iload_n 3, 1) := by decide +kernel
theorem dX10_fill_97 : decode cX10_fill 97 = .ok (.iaload, 1) := by decide +kernel
theorem dX10_fill_98 : decode cX10_fill 98 = .ok (.bipush 100, 2) := by decide +kernel
theorem dX10_fill_100 : decode cX10_fill 100 = .ok (.idiv, 1) := by decide +kernel
theorem dX10_fill_101 : decode cX10_fill 101 = .ok (.istore 5, 2) := by decide +kernel
theorem dX10_fill_103 : decode cX10_fill 103 = .ok (.aload_n 0, 1) := by decide +kernel
theorem dX10_fill_104 : decode cX10_fill 104 = .ok (.getfield 62, 3) := by decide +kernel
theorem dX10_fill_107 : decode cX10_fill 107 = .ok (.iload_n 3, 1) := by decide +kernel
theorem dX10_fill_108 : decode cX10_fill 108 = .ok (.iaload, 1) := by decide +kernel
theorem dX10_fill_109 : decode cX10_fill 109 = .ok (.bipush 100, 2) := by decide +kernel
theorem dX10_fill_111 : decode cX10_fill 111 = .ok (.irem, 1) := by decide +kernel
theorem dX10_fill_112 : decode cX10_fill 112 = .ok (.istore 6, 2) := by decide +kernel
theorem dX10_fill_114 : decode cX10_fill 114 = .ok (.iload 5, 2) := by decide +kernel
theorem dX10_fill_116 : decode cX10_fill 116 = .ok (.bipush 10, 2) := by decide +kernel
theorem dX10_fill_118 : decode cX10_fill 118 = .ok (.if_icmp .ge 45, 3) := by decide +kernel
theorem dX10_fill_121 : decode cX10_fill 121 = .ok (.iload 6, 2) := by decide +kernel
theorem dX10_fill_123 : decode cX10_fill 123 = .ok (.aload_n 0, 1) := by decide +kernel
theorem dX10_fill_124 : decode cX10_fill 124 = .ok (.bipush 37, 2) := by decide +kernel
theorem dX10_fill_126 : decode cX10_fill 126 = .ok (.iload 4, 2) := by decide +kernel
theorem dX10_fill_128 : decode cX10_fill 128 = .ok (.iadd, 1) := by decide +kernel
theorem dX10_fill_129 : decode cX10_fill 129 = .ok (.invokevirtual 271, 3) := by decide +kernel
theorem dX10_fill_132 : decode cX10_fill 132 = .ok (.iadd, 1) := by decide +kernel
theorem dX10_fill_133 : decode cX10_fill 133 = .ok (.iload_n 2, 1) := by decide +kernel
theorem dX10_fill_134 : decode cX10_fill 134 = .ok (.if_icmp .le 29, 3) := by decide +kernel
theorem dX10_fill_137 : decode cX10_fill 137 = .ok (.iinc 5 1, 3) := by decide +kernel
theorem dX10_fill_140 : decode cX10_fill 140 = .ok (.iload 5, 2) := by decide +kernel
theorem dX10_fill_142 : decode cX10_fill 142 = .ok (.bipush 10, 2) := by decide +kernel
theorem dX10_fill_144 : decode cX10_fill 144 = .ok (.if_icmp .ge 13, 3) := by decide +kernel
theorem dX10_fill_147 : decode cX10_fill 147 = .ok (.aload_n 0, 1) := by decide +kernel
theorem dX10_fill_148 : decode cX10_fill 148 = .ok (.getfield 65, 3) := by decide +kernel
theorem dX10_fill_151 : decode cX10_fill 151 = .ok (.iload 5, 2) := by decide +kernel
theorem dX10_fill_153 : decode cX10_fill 153 = .ok (.iaload, 1) := by decide +kernel
theorem dX10_fill_154 : decode cX10_fill 154 = .ok (.goto 4, 3) := by decide +kernel
theorem dX10_fill_157 : decode cX10_fill 157 = .ok (.iconst 0, 1) := by decide +kernel
theorem dX10_fill_158 : decode cX10_fill 158 = .ok (.istore 6, 2) := by decide +kernel
theorem dX10_fill_160 : decode cX10_fill 160 = .ok (.goto (-46), 3) := by decide +kernel
theorem dX10_fill_163 : decode cX10_fill 163 = .ok (.iload 5, 2) := by decide +kernel
theorem dX10_fill_165 : decode cX10_fill 165 = .ok (.bipush 10, 2) := by decide +kernel
theorem dX10_fill_167 : decode cX10_fill 167 = .ok (.if_icmp .ge 24, 3) := by decide +kernel
theorem dX10_fill_170 : decode cX10_fill 170 = .ok (.bipush 100, 2) := by decide +kernel
theorem dX10_fill_172 : decode cX10_fill 172 = .ok (.iload 5, 2) := by decide +kernel
theorem dX10_fill_174 : decode cX10_fill 174 = .ok (.imul, 1) := by decide +kernel
theorem dX10_fill_175 : decode cX10_fill 175 = .ok (.iload 6, 2) := by decide +kernel
theorem dX10_fill_177 : decode cX10_fill 177 = .ok (.iadd, 1) := by decide +kernel
theorem dX10_fill_178 : decode cX10_fill 178 = .ok (.aload_n 0, 1) := by decide +kernel
theorem dX10_fill_179 : decode cX10_fill 179 = .ok (.bipush 37, 2) := by decide +kernel
theorem dX10_fill_181 : decode cX10_fill 181 = .ok (.iload 4, 2) := by decide +kernel
theorem dX10_fill_183 : decode cX10_fill 183 = .ok (.iadd, 1) := by decide +kernel
theorem dX10_fill_184 : decode cX10_fill 184 = .ok (.invokevirtual 271, 3) := by decide +kernel
theorem dX10_fill_187 : decode cX10_fill 187 = .ok (.iadd, 1) := by decide +kernel
theorem dX10_fill_188 : decode cX10_fill 188 = .ok (.goto 6, 3) := by decide +kernel
theorem dX10_fill_191 : decode cX10_fill 191 = .ok (.ldc_w 379, 3) := by decide +kernel
theorem dX10_fill_194 : decode cX10_fill 194 = .ok (.istore 7, 2) := by decide +kernel
theorem dX10_fill_196 : decode cX10_fill 196 = .ok (.aload_n 0, 1) := by decide +kernel
theorem dX10_fill_197 : decode cX10_fill 197 = .ok (.getfield 62, 3) := by decide +kernel
theorem dX10_fill_200 : decode cX10_fill 200 = .ok (.iload_n 3, 1) := by decide +kernel
theorem dX10_fill_201 : decode cX10_fill 201 = .ok (.iconst 1, 1) := by decide +kernel
theorem dX10_fill_202 : decode cX10_fill 202 = .ok (.iload 4, 2) := by decide +kernel
theorem dX10_fill_204 : decode cX10_fill 204 = .ok (.ishl, 1) := by decide +kernel
theorem dX10_fill_205 : decode cX10_fill 205 = .ok (.ior, 1) := by decide +kernel
theorem dX10_fill_206 : decode cX10_fill 206 = .ok (.aload_n 0, 1) := by decide +kernel
theorem dX10_fill_207 : decode cX10_fill 207 = .ok (.getfield 62, 3) := by decide +kernel
theorem dX10_fill_210 : decode cX10_fill 210 = .ok (.iload_n 3, 1) := by decide +kernel
theorem dX10_fill_211 : decode cX10_fill 211 = .ok (.iconst 1, 1) := by decide +kernel
theorem dX10_fill_212 : decode cX10_fill 212 = .ok (.iload 4, 2) := by decide +kernel
theorem dX10_fill_214 : decode cX10_fill 214 = .ok (.ishl, 1) := by decide +kernel
theorem dX10_fill_215 : decode cX10_fill 215 = .ok (.ior, 1) := by decide +kernel
theorem dX10_fill_216 : decode cX10_fill 216 = .ok (.iaload, 1) := by decide +kernel
theorem dX10_fill_217 : decode cX10_fill 217 = .ok (.iload 7, 2) := by decide +kernel
theorem dX10_fill_219 : decode cX10_fill 219 = .ok (.invokestatic 284, 3) := by decide +kernel
theorem dX10_fill_222 : decode cX10_fill 222 = .ok (.iastore, 1) := by decide +kernel
theorem dX10_fill_223 : decode cX10_fill 223 = .ok (.iinc 4 1, 3) := by decide +kernel
theorem dX10_fill_226 : decode cX10_fill 226 = .ok (.goto (-181), 3) := by decide +kernel
theorem dX10_fill_229 : decode cX10_fill 229 = .ok (.iinc 3 1, 3) := by decide +kernel
theorem dX10_fill_232 : decode cX10_fill 232 = .ok (.goto (-195), 3) := by decide +kernel
theorem dX10_fill_235 : decode cX10_fill 235 = .ok (.aload_n 0, 1) := by decide +kernel
theorem dX10_fill_236 : decode cX10_fill 236 = .ok (.getfield 62, 3) := by decide +kernel
theorem dX10_fill_239 : decode cX10_fill 239 = .ok (.iload_n 1, 1) := by decide +kernel
theorem dX10_fill_240 : decode cX10_fill 240 = .ok (.iaload, 1) := by decide +kernel
theorem dX10_fill_241 : decode cX10_fill 241 = .ok (.ireturn, 1) := by decide +kernel
theorem dX10_fewest_0 : decode cX10_fewest 0 = .ok (.iconst 0, 1) := by decide +kernel
theorem dX10_fewest_1 : decode cX10_fewest 1 = .ok (.istore_n 2, 1) := by decide +kernel
theorem dX10_fewest_2 : decode cX10_fewest 2 = .ok (.iload_n 2, 1) := by decide +kernel
theorem dX10_fewest_3 : decode cX10_fewest 3 = .ok (.bipush 10, 2) := by decide +kernel
theorem dX10_fewest_5 : decode cX10_fewest 5 = .ok (.if_icmp .ge 16, 3) := by decide +kernel
theorem dX10_fewest_8 : decode cX10_fewest 8 = .ok (.aload_n 0, 1) := by decide +kernel
theorem dX10_fewest_9 : decode cX10_fewest 9 = .ok (.getfield 65, 3) := by decide +kernel
theorem dX10_fewest_12 : decode cX10_fewest 12 = .ok (.iload_n 2, 1) := by decide +kernel
theorem dX10_fewest_13 : decode cX10_fewest 13 = .ok (.iconst 0, 1) := by decide +kernel
theorem dX10_fewest_14 : decode cX10_fewest 14 = .ok (.iastore, 1) := by decide +kernel
theorem dX10_fewest_15 : decode cX10_fewest 15 = .ok (.iinc 2 1, 3) := by decide +kernel
theorem dX10_fewest_18 : decode cX10_fewest 18 = .ok (.goto (-16), 3) := by decide +kernel
theorem dX10_fewest_21 : decode cX10_fewest 21 = .ok (.aload_n 0, 1) := by decide +kernel
theorem dX10_fewest_22 : decode cX10_fewest 22 = .ok (.aload_n 0, 1) := by decide +kernel
theorem dX10_fewest_23 : decode cX10_fewest 23 = .ok (.invokevirtual 398, 3) := by decide +kernel
theorem dX10_fewest_26 : decode cX10_fewest 26 = .ok (.iload_n 1, 1) := by decide +kernel
theorem dX10_fewest_27 : decode cX10_fewest 27 = .ok (.invokevirtual 416, 3) := by decide +kernel
theorem dX10_fewest_30 : decode cX10_fewest 30 = .ok (.istore_n 2, 1) := by decide +kernel
theorem dX10_fewest_31 : decode cX10_fewest 31 = .ok (.aload_n 0, 1) := by decide +kernel
theorem dX10_fewest_32 : decode cX10_fewest 32 = .ok (.getfield 278, 3) := by decide +kernel
theorem dX10_fewest_35 : decode cX10_fewest 35 = .ok (.ifCond .ne 7, 3) := by decide +kernel
theorem dX10_fewest_38 : decode cX10_fewest 38 = .ok (.iconst 0, 1) := by decide +kernel
theorem dX10_fewest_39 : decode cX10_fewest 39 = .ok (.goto 20, 3) := by decide +kernel
theorem dX10_fewest_42 : decode cX10_fewest 42 = .ok (.iload_n 2, 1) := by decide +kernel
theorem dX10_fewest_43 : decode cX10_fewest 43 = .ok (.ldc_w 379, 3) := by decide +kernel
theorem dX10_fewest_46 : decode cX10_fewest 46 = .ok (.if_icmp .lt 7, 3) := by decide +kernel
theorem dX10_fewest_49 : decode cX10_fewest 49 = .ok (.iconst (-1), 1) := by decide +kernel
theorem dX10_fewest_50 : decode cX10_fewest 50 = .ok (.goto 9, 3) := by decide +kernel
theorem dX10_fewest_53 : decode cX10_fewest 53 = .ok (.iload_n 2, 1) := by decide +kernel
theorem dX10_fewest_54 : decode cX10_fewest 54 = .ok (.bipush 100, 2) := by decide +kernel
theorem dX10_fewest_56 : decode cX10_fewest 56 = .ok (.idiv, 1) := by decide +kernel
theorem dX10_fewest_57 : decode cX10_fewest 57 = .ok (.iconst 1, 1) := by decide +kernel
theorem dX10_fewest_58 : decode cX10_fewest 58 = .ok (.iadd, 1) := by decide +kernel
theorem dX10_fewest_59 : decode cX10_fewest 59 = .ok (.ireturn, 1) := by decide +kernel
theorem dX10_evenings_0 : decode cX10_evenings 0 = .ok (.aload_n 0, 1) := by decide +kernel
theorem dX10_evenings_1 : decode cX10_evenings 1 = .ok (.iconst 0, 1) := by decide +kernel
theorem dX10_evenings_2 : decode cX10_evenings 2 = .ok (.putfield 84, 3) := by decide +kernel
theorem dX10_evenings_5 : decode cX10_evenings 5 = .ok (.iload_n 2, 1) := by decide +kernel
theorem dX10_evenings_6 : decode cX10_evenings 6 = .ok (.iconst 1, 1) := by decide +kernel
theorem dX10_evenings_7 : decode cX10_evenings 7 = .ok (.bipush 99, 2) := by decide +kernel
theorem dX10_evenings_9 : decode cX10_evenings 9 = .ok (.invokestatic 96, 3) := by decide +kernel
theorem dX10_evenings_12 : decode cX10_evenings 12 = .ok (.ifCond .eq 19, 3) := by decide +kernel
theorem dX10_evenings_15 : decode cX10_evenings 15 = .ok (.aload_n 0, 1) := by decide +kernel
theorem dX10_evenings_16 : decode cX10_evenings 16 = .ok (.iload_n 1, 1) := by decide +kernel
theorem dX10_evenings_17 : decode cX10_evenings 17 = .ok (.invokevirtual 287, 3) := by decide +kernel
theorem dX10_evenings_20 : decode cX10_evenings 20 = .ok (.ifCond .eq 11, 3) := by decide +kernel
theorem dX10_evenings_23 : decode cX10_evenings 23 = .ok (.aload_n 0, 1) := by decide +kernel
theorem dX10_evenings_24 : decode cX10_evenings 24 = .ok (.iload_n 2, 1) := by decide +kernel
theorem dX10_evenings_25 : decode cX10_evenings 25 = .ok (.invokevirtual 419, 3) := by decide +kernel
theorem dX10_evenings_28 : decode cX10_evenings 28 = .ok (.goto 4, 3) := by decide +kernel
theorem dX10_evenings_31 : decode cX10_evenings 31 = .ok (.iconst (-1), 1) := by decide +kernel
theorem dX10_evenings_32 : decode cX10_evenings 32 = .ok (.ireturn, 1) := by decide +kernel
theorem dX10_common_0 : decode cX10_common 0 = .ok (.lload_n 0, 1) := by decide +kernel
theorem dX10_common_1 : decode cX10_common 1 = .ok (.lstore 4, 2) := by decide +kernel
theorem dX10_common_3 : decode cX10_common 3 = .ok (.lload_n 2, 1) := by decide +kernel
theorem dX10_common_4 : decode cX10_common 4 = .ok (.lstore 6, 2) := by decide +kernel
theorem dX10_common_6 : decode cX10_common 6 = .ok (.lload 6, 2) := by decide +kernel
theorem dX10_common_8 : decode cX10_common 8 = .ok (.lconst 0, 1) := by decide +kernel
theorem dX10_common_9 : decode cX10_common 9 = .ok (.lcmp, 1) := by decide +kernel
theorem dX10_common_10 : decode cX10_common 10 = .ok (.ifCond .eq 21, 3) := by decide +kernel
theorem dX10_common_13 : decode cX10_common 13 = .ok (.lload 4, 2) := by decide +kernel
theorem dX10_common_15 : decode cX10_common 15 = .ok (.lload 6, 2) := by decide +kernel
theorem dX10_common_17 : decode cX10_common 17 = .ok (.lrem, 1) := by decide +kernel
theorem dX10_common_18 : decode cX10_common 18 = .ok (.lstore 8, 2) := by decide +kernel
theorem dX10_common_20 : decode cX10_common 20 = .ok (.lload 6, 2) := by decide +kernel
theorem dX10_common_22 : decode cX10_common 22 = .ok (.lstore 4, 2) := by decide +kernel
theorem dX10_common_24 : decode cX10_common 24 = .ok (.lload 8, 2) := by decide +kernel
theorem dX10_common_26 : decode cX10_common 26 = .ok (.lstore 6, 2) := by decide +kernel
theorem dX10_common_28 : decode cX10_common 28 = .ok (.goto (-22), 3) := by decide +kernel
theorem dX10_common_31 : decode cX10_common 31 = .ok (.lload 4, 2) := by decide +kernel
theorem dX10_common_33 : decode cX10_common 33 = .ok (.lreturn, 1) := by decide +kernel
theorem dX10_part_0 : decode cX10_part 0 = .ok (.iload 4, 2) := by decide +kernel
theorem dX10_part_2 : decode cX10_part 2 = .ok (.ifCond .eq 7, 3) := by decide +kernel
theorem dX10_part_5 : decode cX10_part 5 = .ok (.lload_n 2, 1) := by decide +kernel
theorem dX10_part_6 : decode cX10_part 6 = .ok (.goto 4, 3) := by decide +kernel
theorem dX10_part_9 : decode cX10_part 9 = .ok (.lload_n 0, 1) := by decide +kernel
theorem dX10_part_10 : decode cX10_part 10 = .ok (.lload_n 2, 1) := by decide +kernel
theorem dX10_part_11 : decode cX10_part 11 = .ok (.lload_n 0, 1) := by decide +kernel
theorem dX10_part_12 : decode cX10_part 12 = .ok (.invokestatic 422, 3) := by decide +kernel
theorem dX10_part_15 : decode cX10_part 15 = .ok (.ldiv, 1) := by decide +kernel
theorem dX10_part_16 : decode cX10_part 16 = .ok (.lreturn, 1) := by decide +kernel
theorem dX10_hidden_0 : decode cX10_hidden 0 = .ok (.aload_n 0, 1) := by decide +kernel
theorem dX10_hidden_1 : decode cX10_hidden 1 = .ok (.iconst 0, 1) := by decide +kernel
theorem dX10_hidden_2 : decode cX10_hidden 2 = .ok (.putfield 84, 3) := by decide +kernel
theorem dX10_hidden_5 : decode cX10_hidden 5 = .ok (.aload_n 0, 1) := by decide +kernel
theorem dX10_hidden_6 : decode cX10_hidden 6 = .ok (.iload_n 1, 1) := by decide +kernel
theorem dX10_hidden_7 : decode cX10_hidden 7 = .ok (.invokevirtual 287, 3) := by decide +kernel
theorem dX10_hidden_10 : decode cX10_hidden 10 = .ok (.ifCond .eq 23, 3) := by decide +kernel
theorem dX10_hidden_13 : decode cX10_hidden 13 = .ok (.aload_n 0, 1) := by decide +kernel
theorem dX10_hidden_14 : decode cX10_hidden 14 = .ok (.iload_n 2, 1) := by decide +kernel
theorem dX10_hidden_15 : decode cX10_hidden 15 = .ok (.invokevirtual 290, 3) := by decide +kernel
theorem dX10_hidden_18 : decode cX10_hidden 18 = .ok (.ifCond .eq 15, 3) := by decide +kernel
theorem dX10_hidden_21 : decode cX10_hidden 21 = .ok (.iload_n 3, 1) := by decide +kernel
theorem dX10_hidden_22 : decode cX10_hidden 22 = .ok (.iconst 0, 1) := by decide +kernel
theorem dX10_hidden_23 : decode cX10_hidden 23 = .ok (.aload_n 0, 1) := by decide +kernel
theorem dX10_hidden_24 : decode cX10_hidden 24 = .ok (.getfield 278, 3) := by decide +kernel
theorem dX10_hidden_27 : decode cX10_hidden 27 = .ok (.invokestatic 96, 3) := by decide +kernel
theorem dX10_hidden_30 : decode cX10_hidden 30 = .ok (.ifCond .ne 7, 3) := by decide +kernel
theorem dX10_hidden_33 : decode cX10_hidden 33 = .ok (.ldc2_w 426, 3) := by decide +kernel
theorem dX10_hidden_36 : decode cX10_hidden 36 = .ok (.lreturn, 1) := by decide +kernel
theorem dX10_hidden_37 : decode cX10_hidden 37 = .ok (.lconst 0, 1) := by decide +kernel
theorem dX10_hidden_38 : decode cX10_hidden 38 = .ok (.lstore 5, 2) := by decide +kernel
theorem dX10_hidden_40 : decode cX10_hidden 40 = .ok (.lconst 0, 1) := by decide +kernel
theorem dX10_hidden_41 : decode cX10_hidden 41 = .ok (.lstore 7, 2) := by decide +kernel
theorem dX10_hidden_43 : decode cX10_hidden 43 = .ok (.iconst 0, 1) := by decide +kernel
theorem dX10_hidden_44 : decode cX10_hidden 44 = .ok (.istore 9, 2) := by decide +kernel
theorem dX10_hidden_46 : decode cX10_hidden 46 = .ok (.iload 9, 2) := by decide +kernel
theorem dX10_hidden_48 : decode cX10_hidden 48 = .ok (.aload_n 0, 1) := by decide +kernel
theorem dX10_hidden_49 : decode cX10_hidden 49 = .ok (.invokevirtual 398, 3) := by decide +kernel
theorem dX10_hidden_52 : decode cX10_hidden 52 = .ok (.if_icmp .gt 48, 3) := by decide +kernel
theorem dX10_hidden_55 : decode cX10_hidden 55 = .ok (.iload 9, 2) := by decide +kernel
theorem dX10_hidden_57 : decode cX10_hidden 57 = .ok (.invokestatic 404, 3) := by decide +kernel
theorem dX10_hidden_60 : decode cX10_hidden 60 = .ok (.iload_n 3, 1) := by decide +kernel
theorem dX10_hidden_61 : decode cX10_hidden 61 = .ok (.if_icmp .ne 33, 3) := by decide +kernel
theorem dX10_hidden_64 : decode cX10_hidden 64 = .ok (.lload 7, 2) := by decide +kernel
theorem dX10_hidden_66 : decode cX10_hidden 66 = .ok (.lconst 1, 1) := by decide +kernel
theorem dX10_hidden_67 : decode cX10_hidden 67 = .ok (.ladd, 1) := by decide +kernel
theorem dX10_hidden_68 : decode cX10_hidden 68 = .ok (.lstore 7, 2) := by decide +kernel
theorem dX10_hidden_70 : decode cX10_hidden 70 = .ok (.lload 5, 2) := by decide +kernel
theorem dX10_hidden_72 : decode cX10_hidden 72 = .ok (.aload_n 0, 1) := by decide +kernel
theorem dX10_hidden_73 : decode cX10_hidden 73 = .ok (.iload 9, 2) := by decide +kernel
theorem dX10_hidden_75 : decode cX10_hidden 75 = .ok (.iconst (-1), 1) := by decide +kernel
theorem dX10_hidden_76 : decode cX10_hidden 76 = .ok (.invokevirtual 401, 3) := by decide +kernel
theorem dX10_hidden_79 : decode cX10_hidden 79 = .ok (.iload_n 2, 1) := by decide +kernel
theorem dX10_hidden_80 : decode cX10_hidden 80 = .ok (.invokestatic 88, 3) := by decide +kernel
theorem dX10_hidden_83 : decode cX10_hidden 83 = .ok (.ifCond .eq 7, 3) := by decide +kernel
theorem dX10_hidden_86 : decode cX10_hidden 86 = .ok (.lconst 0, 1) := by decide +kernel
theorem dX10_hidden_87 : decode cX10_hidden 87 = .ok (.goto 4, 3) := by decide +kernel
theorem dX10_hidden_90 : decode cX10_hidden 90 = .ok (.lconst 1, 1) := by decide +kernel
theorem dX10_hidden_91 : decode cX10_hidden 91 = .ok (.ladd, 1) := by decide +kernel
theorem dX10_hidden_92 : decode cX10_hidden 92 = .ok (.lstore 5, 2) := by decide +kernel
theorem dX10_hidden_94 : decode cX10_hidden 94 = .ok (.iinc 9 1, 3) := by decide +kernel
theorem dX10_hidden_97 : decode cX10_hidden 97 = .ok (.goto (-51), 3) := by decide +kernel
theorem dX10_hidden_100 : decode cX10_hidden 100 = .ok (.lload 5, 2) := by decide +kernel
theorem dX10_hidden_102 : decode cX10_hidden 102 = .ok (.lload 7, 2) := by decide +kernel
theorem dX10_hidden_104 : decode cX10_hidden 104 = .ok (.iload 4, 2) := by decide +kernel
theorem dX10_hidden_106 : decode cX10_hidden 106 = .ok (.invokestatic 428, 3) := by decide +kernel
theorem dX10_hidden_109 : decode cX10_hidden 109 = .ok (.lreturn, 1) := by decide +kernel
theorem dX10_heirs_0 : decode cX10_heirs 0 = .ok (.aload_n 0, 1) := by decide +kernel
theorem dX10_heirs_1 : decode cX10_heirs 1 = .ok (.iconst 0, 1) := by decide +kernel
theorem dX10_heirs_2 : decode cX10_heirs 2 = .ok (.putfield 84, 3) := by decide +kernel
theorem dX10_heirs_5 : decode cX10_heirs 5 = .ok (.aload_n 0, 1) := by decide +kernel
theorem dX10_heirs_6 : decode cX10_heirs 6 = .ok (.iload_n 1, 1) := by decide +kernel
theorem dX10_heirs_7 : decode cX10_heirs 7 = .ok (.invokevirtual 287, 3) := by decide +kernel
theorem dX10_heirs_10 : decode cX10_heirs 10 = .ok (.ifCond .ne 5, 3) := by decide +kernel
theorem dX10_heirs_13 : decode cX10_heirs 13 = .ok (.iconst (-1), 1) := by decide +kernel
theorem dX10_heirs_14 : decode cX10_heirs 14 = .ok (.ireturn, 1) := by decide +kernel
theorem dX10_heirs_15 : decode cX10_heirs 15 = .ok (.iconst (-1), 1) := by decide +kernel
theorem dX10_heirs_16 : decode cX10_heirs 16 = .ok (.istore_n 3, 1) := by decide +kernel
theorem dX10_heirs_17 : decode cX10_heirs 17 = .ok (.ldc_w 379, 3) := by decide +kernel
theorem dX10_heirs_20 : decode cX10_heirs 20 = .ok (.istore 4, 2) := by decide +kernel
theorem dX10_heirs_22 : decode cX10_heirs 22 = .ok (.iconst 0, 1) := by decide +kernel
theorem dX10_heirs_23 : decode cX10_heirs 23 = .ok (.istore 5, 2) := by decide +kernel
theorem dX10_heirs_25 : decode cX10_heirs 25 = .ok (.iload 5, 2) := by decide +kernel
theorem dX10_heirs_27 : decode cX10_heirs 27 = .ok (.iconst 1, 1) := by decide +kernel
theorem dX10_heirs_28 : decode cX10_heirs 28 = .ok (.aload_n 0, 1) := by decide +kernel
theorem dX10_heirs_29 : decode cX10_heirs 29 = .ok (.getfield 275, 3) := by decide +kernel
theorem dX10_heirs_32 : decode cX10_heirs 32 = .ok (.ishl, 1) := by decide +kernel
theorem dX10_heirs_33 : decode cX10_heirs 33 = .ok (.if_icmp .ge 109, 3) := by decide +kernel
theorem dX10_heirs_36 : decode cX10_heirs 36 = .ok (.iconst 0, 1) := by decide +kernel
theorem dX10_heirs_37 : decode cX10_heirs 37 = .ok (.istore 6, 2) := by decide +kernel
theorem dX10_heirs_39 : decode cX10_heirs 39 = .ok (.iconst 0, 1) := by decide +kernel
theorem dX10_heirs_40 : decode cX10_heirs 40 = .ok (.istore 7, 2) := by decide +kernel
theorem dX10_heirs_42 : decode cX10_heirs 42 = .ok (.iload 7, 2) := by decide +kernel
theorem dX10_heirs_44 : decode cX10_heirs 44 = .ok (.aload_n 0, 1) := by decide +kernel
theorem dX10_heirs_45 : decode cX10_heirs 45 = .ok (.getfield 275, 3) := by decide +kernel
theorem dX10_heirs_48 : decode cX10_heirs 48 = .ok (.if_icmp .ge 50, 3) := by decide +kernel
theorem dX10_heirs_51 : decode cX10_heirs 51 = .ok (.iload 6, 2) := by decide +kernel
theorem dX10_heirs_53 : decode cX10_heirs 53 = .ok (.iload 5, 2) := by decide +kernel
theorem dX10_heirs_55 : decode cX10_heirs 55 = .ok (.iload 7, 2) := by decide +kernel
theorem dX10_heirs_57 : decode cX10_heirs 57 = .ok (.invokestatic 88, 3) := by decide +kernel
theorem dX10_heirs_60 : decode cX10_heirs 60 = .ok (.ifCond .eq 17, 3) := by decide +kernel
theorem dX10_heirs_63 : decode cX10_heirs 63 = .ok (.aload_n 0, 1) := by decide +kernel
theorem dX10_heirs_64 : decode cX10_heirs 64 = .ok (.aload_n 0, 1) := by decide +kernel
theorem dX10_heirs_65 : decode cX10_heirs 65 = .ok (.getfield 44, 3) := by decide +kernel
theorem dX10_heirs_68 : decode cX10_heirs 68 = .ok (.iload 7, 2) := by decide +kernel
theorem dX10_heirs_70 : decode cX10_heirs 70 = .ok (.iaload, 1) := by decide +kernel
theorem dX10_heirs_71 : decode cX10_heirs 71 = .ok (.invokevirtual 407, 3) := by decide +kernel
theorem dX10_heirs_74 : decode cX10_heirs 74 = .ok (.goto 15, 3) := by decide +kernel
theorem dX10_heirs_77 : decode cX10_heirs 77 = .ok (.aload_n 0, 1) := by decide +kernel
theorem dX10_heirs_78 : decode cX10_heirs 78 = .ok (.aload_n 0, 1) := by decide +kernel
theorem dX10_heirs_79 : decode cX10_heirs 79 = .ok (.getfield 44, 3) := by decide +kernel
theorem dX10_heirs_82 : decode cX10_heirs 82 = .ok (.iload 7, 2) := by decide +kernel
theorem dX10_heirs_84 : decode cX10_heirs 84 = .ok (.iaload, 1) := by decide +kernel
theorem dX10_heirs_85 : decode cX10_heirs 85 = .ok (.invokevirtual 407, 3) := by decide +kernel
theorem dX10_heirs_88 : decode cX10_heirs 88 = .ok (.ineg, 1) := by decide +kernel
theorem dX10_heirs_89 : decode cX10_heirs 89 = .ok (.iadd, 1) := by decide +kernel
theorem dX10_heirs_90 : decode cX10_heirs 90 = .ok (.istore 6, 2) := by decide +kernel
theorem dX10_heirs_92 : decode cX10_heirs 92 = .ok (.iinc 7 1, 3) := by decide +kernel
theorem dX10_heirs_95 : decode cX10_heirs 95 = .ok (.goto (-53), 3) := by decide +kernel
theorem dX10_heirs_98 : decode cX10_heirs 98 = .ok (.iload 6, 2) := by decide +kernel
theorem dX10_heirs_100 : decode cX10_heirs 100 = .ok (.ifCond .ge 9, 3) := by decide +kernel
theorem dX10_heirs_103 : decode cX10_heirs 103 = .ok (.iload 6, 2) := by decide +kernel
theorem dX10_heirs_105 : decode cX10_heirs 105 = .ok (.ineg, 1) := by decide +kernel
theorem dX10_heirs_106 : decode cX10_heirs 106 = .ok (.goto 5, 3) := by decide +kernel
theorem dX10_heirs_109 : decode cX10_heirs 109 = .ok (.iload 6, 2) := by decide +kernel
theorem dX10_heirs_111 : decode cX10_heirs 111 = .ok (.istore 6, 2) := by decide +kernel
theorem dX10_heirs_113 : decode cX10_heirs 113 = .ok (.iload 6, 2) := by decide +kernel
theorem dX10_heirs_115 : decode cX10_heirs 115 = .ok (.iload 4, 2) := by decide +kernel
theorem dX10_heirs_117 : decode cX10_heirs 117 = .ok (.if_icmp .ge 8, 3) := by decide +kernel
theorem dX10_heirs_120 : decode cX10_heirs 120 = .ok (.iload 5, 2) := by decide +kernel
theorem dX10_heirs_122 : decode cX10_heirs 122 = .ok (.goto 4, 3) := by decide +kernel
theorem dX10_heirs_125 : decode cX10_heirs 125 = .ok (.iload_n 3, 1) := by decide +kernel
theorem dX10_heirs_126 : decode cX10_heirs 126 = .ok (.istore_n 3, 1) := by decide +kernel
theorem dX10_heirs_127 : decode cX10_heirs 127 = .ok (.iload 4, 2) := by decide +kernel
theorem dX10_heirs_129 : decode cX10_heirs 129 = .ok (.iload 6, 2) := by decide +kernel
theorem dX10_heirs_131 : decode cX10_heirs 131 = .ok (.invokestatic 284, 3) := by decide +kernel
theorem dX10_heirs_134 : decode cX10_heirs 134 = .ok (.istore 4, 2) := by decide +kernel
theorem dX10_heirs_136 : decode cX10_heirs 136 = .ok (.iinc 5 1, 3) := by decide +kernel
theorem dX10_heirs_139 : decode cX10_heirs 139 = .ok (.goto (-114), 3) := by decide +kernel
theorem dX10_heirs_142 : decode cX10_heirs 142 = .ok (.iload_n 2, 1) := by decide +kernel
theorem dX10_heirs_143 : decode cX10_heirs 143 = .ok (.ifCond .eq 8, 3) := by decide +kernel
theorem dX10_heirs_146 : decode cX10_heirs 146 = .ok (.iload 4, 2) := by decide +kernel
theorem dX10_heirs_148 : decode cX10_heirs 148 = .ok (.goto 4, 3) := by decide +kernel
theorem dX10_heirs_151 : decode cX10_heirs 151 = .ok (.iload_n 3, 1) := by decide +kernel
theorem dX10_heirs_152 : decode cX10_heirs 152 = .ok (.ireturn, 1) := by decide +kernel
theorem dX10_factOf_0 : decode cX10_factOf 0 = .ok (.aload_n 0, 1) := by decide +kernel
theorem dX10_factOf_1 : decode cX10_factOf 1 = .ok (.getfield 35, 3) := by decide +kernel
theorem dX10_factOf_4 : decode cX10_factOf 4 = .ok (.bipush 17, 2) := by decide +kernel
theorem dX10_factOf_6 : decode cX10_factOf 6 = .ok (.aload_n 0, 1) := by decide +kernel
theorem dX10_factOf_7 : decode cX10_factOf 7 = .ok (.getfield 432, 3) := by decide +kernel
theorem dX10_factOf_10 : decode cX10_factOf 10 = .ok (.imul, 1) := by decide +kernel
theorem dX10_factOf_11 : decode cX10_factOf 11 = .ok (.iconst 1, 1) := by decide +kernel
theorem dX10_factOf_12 : decode cX10_factOf 12 = .ok (.iadd, 1) := by decide +kernel
theorem dX10_factOf_13 : decode cX10_factOf 13 = .ok (.iconst 2, 1) := by decide +kernel
theorem dX10_factOf_14 : decode cX10_factOf 14 = .ok (.iload_n 1, 1) := by decide +kernel
theorem dX10_factOf_15 : decode cX10_factOf 15 = .ok (.imul, 1) := by decide +kernel
theorem dX10_factOf_16 : decode cX10_factOf 16 = .ok (.iadd, 1) := by decide +kernel
theorem dX10_factOf_17 : decode cX10_factOf 17 = .ok (.iload_n 2, 1) := by decide +kernel
theorem dX10_factOf_18 : decode cX10_factOf 18 = .ok (.iadd, 1) := by decide +kernel
theorem dX10_factOf_19 : decode cX10_factOf 19 = .ok (.iaload, 1) := by decide +kernel
theorem dX10_factOf_20 : decode cX10_factOf 20 = .ok (.ireturn, 1) := by decide +kernel
theorem dX10_hasLog_0 : decode cX10_hasLog 0 = .ok (.aload_n 0, 1) := by decide +kernel
theorem dX10_hasLog_1 : decode cX10_hasLog 1 = .ok (.iload_n 1, 1) := by decide +kernel
theorem dX10_hasLog_2 : decode cX10_hasLog 2 = .ok (.putfield 432, 3) := by decide +kernel
theorem dX10_hasLog_5 : decode cX10_hasLog 5 = .ok (.aload_n 0, 1) := by decide +kernel
theorem dX10_hasLog_6 : decode cX10_hasLog 6 = .ok (.iconst 3, 1) := by decide +kernel
theorem dX10_hasLog_7 : decode cX10_hasLog 7 = .ok (.iload_n 1, 1) := by decide +kernel
theorem dX10_hasLog_8 : decode cX10_hasLog 8 = .ok (.invokevirtual 259, 3) := by decide +kernel
theorem dX10_hasLog_11 : decode cX10_hasLog 11 = .ok (.ireturn, 1) := by decide +kernel
theorem dX10_fact_0 : decode cX10_fact 0 = .ok (.aload_n 0, 1) := by decide +kernel
theorem dX10_fact_1 : decode cX10_fact 1 = .ok (.iconst 0, 1) := by decide +kernel
theorem dX10_fact_2 : decode cX10_fact 2 = .ok (.putfield 84, 3) := by decide +kernel
theorem dX10_fact_5 : decode cX10_fact 5 = .ok (.aload_n 0, 1) := by decide +kernel
theorem dX10_fact_6 : decode cX10_fact 6 = .ok (.iload_n 1, 1) := by decide +kernel
theorem dX10_fact_7 : decode cX10_fact 7 = .ok (.invokevirtual 435, 3) := by decide +kernel
theorem dX10_fact_10 : decode cX10_fact 10 = .ok (.ifCond .ne 6, 3) := by decide +kernel
theorem dX10_fact_13 : decode cX10_fact 13 = .ok (.bipush (-2), 2) := by decide +kernel
theorem dX10_fact_15 : decode cX10_fact 15 = .ok (.ireturn, 1) := by decide +kernel
theorem dX10_fact_16 : decode cX10_fact 16 = .ok (.iload_n 2, 1) := by decide +kernel
theorem dX10_fact_17 : decode cX10_fact 17 = .ok (.iconst (-1), 1) := by decide +kernel
theorem dX10_fact_18 : decode cX10_fact 18 = .ok (.if_icmp .ne 22, 3) := by decide +kernel
theorem dX10_fact_21 : decode cX10_fact 21 = .ok (.iload_n 3, 1) := by decide +kernel
theorem dX10_fact_22 : decode cX10_fact 22 = .ok (.ifCond .ne 15, 3) := by decide +kernel
theorem dX10_fact_25 : decode cX10_fact 25 = .ok (.aload_n 0, 1) := by decide +kernel
theorem dX10_fact_26 : decode cX10_fact 26 = .ok (.getfield 35, 3) := by decide +kernel
theorem dX10_fact_29 : decode cX10_fact 29 = .ok (.bipush 17, 2) := by decide +kernel
theorem dX10_fact_31 : decode cX10_fact 31 = .ok (.iload_n 1, 1) := by decide +kernel
theorem dX10_fact_32 : decode cX10_fact 32 = .ok (.imul, 1) := by decide +kernel
theorem dX10_fact_33 : decode cX10_fact 33 = .ok (.iaload, 1) := by decide +kernel
theorem dX10_fact_34 : decode cX10_fact 34 = .ok (.goto 5, 3) := by decide +kernel
theorem dX10_fact_37 : decode cX10_fact 37 = .ok (.bipush (-2), 2) := by decide +kernel
theorem dX10_fact_39 : decode cX10_fact 39 = .ok (.ireturn, 1) := by decide +kernel
theorem dX10_fact_40 : decode cX10_fact 40 = .ok (.iload_n 2, 1) := by decide +kernel
theorem dX10_fact_41 : decode cX10_fact 41 = .ok (.iconst 0, 1) := by decide +kernel
theorem dX10_fact_42 : decode cX10_fact 42 = .ok (.aload_n 0, 1) := by decide +kernel
theorem dX10_fact_43 : decode cX10_fact 43 = .ok (.getfield 35, 3) := by decide +kernel
theorem dX10_fact_46 : decode cX10_fact 46 = .ok (.bipush 17, 2) := by decide +kernel
theorem dX10_fact_48 : decode cX10_fact 48 = .ok (.iload_n 1, 1) := by decide +kernel
theorem dX10_fact_49 : decode cX10_fact 49 = .ok (.imul, 1) := by decide +kernel
theorem dX10_fact_50 : decode cX10_fact 50 = .ok (.iaload, 1) := by decide +kernel
theorem dX10_fact_51 : decode cX10_fact 51 = .ok (.iconst 1, 1) := by decide +kernel
theorem dX10_fact_52 : decode cX10_fact 52 = .ok (.isub, 1) := by decide +kernel
theorem dX10_fact_53 : decode cX10_fact 53 = .ok (.invokestatic 96, 3) := by decide +kernel
theorem dX10_fact_56 : decode cX10_fact 56 = .ok (.ifCond .eq 21, 3) := by decide +kernel
theorem dX10_fact_59 : decode cX10_fact 59 = .ok (.iload_n 3, 1) := by decide +kernel
theorem dX10_fact_60 : decode cX10_fact 60 = .ok (.iconst 0, 1) := by decide +kernel
theorem dX10_fact_61 : decode cX10_fact 61 = .ok (.iconst 1, 1) := by decide +kernel
theorem dX10_fact_62 : decode cX10_fact 62 = .ok (.invokestatic 96, 3) := by decide +kernel
theorem dX10_fact_65 : decode cX10_fact 65 = .ok (.ifCond .eq 12, 3) := by decide +kernel
theorem dX10_fact_68 : decode cX10_fact 68 = .ok (.aload_n 0, 1) := by decide +kernel
theorem dX10_fact_69 : decode cX10_fact 69 = .ok (.iload_n 2, 1) := by decide +kernel
theorem dX10_fact_70 : decode cX10_fact 70 = .ok (.iload_n 3, 1) := by decide +kernel
theorem dX10_fact_71 : decode cX10_fact 71 = .ok (.invokevirtual 438, 3) := by decide +kernel
theorem dX10_fact_74 : decode cX10_fact 74 = .ok (.goto 5, 3) := by decide +kernel
theorem dX10_fact_77 : decode cX10_fact 77 = .ok (.bipush (-2), 2) := by decide +kernel
theorem dX10_fact_79 : decode cX10_fact 79 = .ok (.ireturn, 1) := by decide +kernel
theorem dX10_shinesBy_0 : decode cX10_shinesBy 0 = .ok (.aload_n 0, 1) := by decide +kernel
theorem dX10_shinesBy_1 : decode cX10_shinesBy 1 = .ok (.iload_n 1, 1) := by decide +kernel
theorem dX10_shinesBy_2 : decode cX10_shinesBy 2 = .ok (.bipush 30, 2) := by decide +kernel
theorem dX10_shinesBy_4 : decode cX10_shinesBy 4 = .ok (.irem, 1) := by decide +kernel
theorem dX10_shinesBy_5 : decode cX10_shinesBy 5 = .ok (.iconst 1, 1) := by decide +kernel
theorem dX10_shinesBy_6 : decode cX10_shinesBy 6 = .ok (.iadd, 1) := by decide +kernel
theorem dX10_shinesBy_7 : decode cX10_shinesBy 7 = .ok (.iload_n 1, 1) := by decide +kernel
theorem dX10_shinesBy_8 : decode cX10_shinesBy 8 = .ok (.bipush 30, 2) := by decide +kernel
theorem dX10_shinesBy_10 : decode cX10_shinesBy 10 = .ok (.idiv, 1) := by decide +kernel
theorem dX10_shinesBy_11 : decode cX10_shinesBy 11 = .ok (.aload_n 0, 1) := by decide +kernel
theorem dX10_shinesBy_12 : decode cX10_shinesBy 12 = .ok (.iconst 3, 1) := by decide +kernel
theorem dX10_shinesBy_13 : decode cX10_shinesBy 13 = .ok (.iload_n 2, 1) := by decide +kernel
theorem dX10_shinesBy_14 : decode cX10_shinesBy 14 = .ok (.iadd, 1) := by decide +kernel
theorem dX10_shinesBy_15 : decode cX10_shinesBy 15 = .ok (.invokevirtual 271, 3) := by decide +kernel
theorem dX10_shinesBy_18 : decode cX10_shinesBy 18 = .ok (.if_icmp .ne 7, 3) := by decide +kernel
theorem dX10_shinesBy_21 : decode cX10_shinesBy 21 = .ok (.iconst 2, 1) := by decide +kernel
theorem dX10_shinesBy_22 : decode cX10_shinesBy 22 = .ok (.goto 4, 3) := by decide +kernel
theorem dX10_shinesBy_25 : decode cX10_shinesBy 25 = .ok (.iconst 1, 1) := by decide +kernel
theorem dX10_shinesBy_26 : decode cX10_shinesBy 26 = .ok (.imul, 1) := by decide +kernel
theorem dX10_shinesBy_27 : decode cX10_shinesBy 27 = .ok (.aload_n 0, 1) := by decide +kernel
theorem dX10_shinesBy_28 : decode cX10_shinesBy 28 = .ok (.iload_n 2, 1) := by decide +kernel
theorem dX10_shinesBy_29 : decode cX10_shinesBy 29 = .ok (.invokevirtual 323, 3) := by decide +kernel
theorem dX10_shinesBy_32 : decode cX10_shinesBy 32 = .ok (.invokevirtual 441, 3) := by decide +kernel
theorem dX10_shinesBy_35 : decode cX10_shinesBy 35 = .ok (.ireturn, 1) := by decide +kernel
theorem dX10_layLog_0 : decode cX10_layLog 0 = .ok (.aload_n 0, 1) := by decide +kernel
theorem dX10_layLog_1 : decode cX10_layLog 1 = .ok (.iload_n 2, 1) := by decide +kernel
theorem dX10_layLog_2 : decode cX10_layLog 2 = .ok (.invokevirtual 435, 3) := by decide +kernel
theorem dX10_layLog_5 : decode cX10_layLog 5 = .ok (.ifCond .eq 11, 3) := by decide +kernel
theorem dX10_layLog_8 : decode cX10_layLog 8 = .ok (.aload_n 0, 1) := by decide +kernel
theorem dX10_layLog_9 : decode cX10_layLog 9 = .ok (.iload_n 1, 1) := by decide +kernel
theorem dX10_layLog_10 : decode cX10_layLog 10 = .ok (.invokevirtual 287, 3) := by decide +kernel
theorem dX10_layLog_13 : decode cX10_layLog 13 = .ok (.ifCond .ne 5, 3) := by decide +kernel
theorem dX10_layLog_16 : decode cX10_layLog 16 = .ok (.iconst 0, 1) := by decide +kernel
theorem dX10_layLog_17 : decode cX10_layLog 17 = .ok (.ireturn, 1) := by decide +kernel
theorem dX10_layLog_18 : decode cX10_layLog 18 = .ok (.aload_n 0, 1) := by decide +kernel
theorem dX10_layLog_19 : decode cX10_layLog 19 = .ok (.iconst 0, 1) := by decide +kernel
theorem dX10_layLog_20 : decode cX10_layLog 20 = .ok (.putfield 444, 3) := by decide +kernel
theorem dX10_layLog_23 : decode cX10_layLog 23 = .ok (.iconst 0, 1) := by decide +kernel
theorem dX10_layLog_24 : decode cX10_layLog 24 = .ok (.istore_n 3, 1) := by decide +kernel
theorem dX10_layLog_25 : decode cX10_layLog 25 = .ok (.iload_n 3, 1) := by decide +kernel
theorem dX10_layLog_26 : decode cX10_layLog 26 = .ok (.aload_n 0, 1) := by decide +kernel
theorem dX10_layLog_27 : decode cX10_layLog 27 = .ok (.getfield 35, 3) := by decide +kernel
theorem dX10_layLog_30 : decode cX10_layLog 30 = .ok (.bipush 17, 2) := by decide +kernel
theorem dX10_layLog_32 : decode cX10_layLog 32 = .ok (.aload_n 0, 1) := by decide +kernel
theorem dX10_layLog_33 : decode cX10_layLog 33 = .ok (.getfield 432, 3) := by decide +kernel
theorem dX10_layLog_36 : decode cX10_layLog 36 = .ok (.imul, 1) := by decide +kernel
theorem dX10_layLog_37 : decode cX10_layLog 37 = .ok (.iaload, 1) := by decide +kernel
theorem dX10_layLog_38 : decode cX10_layLog 38 = .ok (.if_icmp .ge 24, 3) := by decide +kernel
theorem dX10_layLog_41 : decode cX10_layLog 41 = .ok (.aload_n 0, 1) := by decide +kernel
theorem dX10_layLog_42 : decode cX10_layLog 42 = .ok (.aload_n 0, 1) := by decide +kernel
theorem dX10_layLog_43 : decode cX10_layLog 43 = .ok (.iload_n 3, 1) := by decide +kernel
theorem dX10_layLog_44 : decode cX10_layLog 44 = .ok (.iconst 0, 1) := by decide +kernel
theorem dX10_layLog_45 : decode cX10_layLog 45 = .ok (.invokevirtual 438, 3) := by decide +kernel
theorem dX10_layLog_48 : decode cX10_layLog 48 = .ok (.invokevirtual 293, 3) := by decide +kernel
theorem dX10_layLog_51 : decode cX10_layLog 51 = .ok (.ifCond .ne 5, 3) := by decide +kernel
theorem dX10_layLog_54 : decode cX10_layLog 54 = .ok (.iconst 0, 1) := by decide +kernel
theorem dX10_layLog_55 : decode cX10_layLog 55 = .ok (.ireturn, 1) := by decide +kernel
theorem dX10_layLog_56 : decode cX10_layLog 56 = .ok (.iinc 3 1, 3) := by decide +kernel
theorem dX10_layLog_59 : decode cX10_layLog 59 = .ok (.goto (-34), 3) := by decide +kernel
theorem dX10_layLog_62 : decode cX10_layLog 62 = .ok (.iconst 0, 1) := by decide +kernel
theorem dX10_layLog_63 : decode cX10_layLog 63 = .ok (.istore_n 3, 1) := by decide +kernel
theorem dX10_layLog_64 : decode cX10_layLog 64 = .ok (.iload_n 3, 1) := by decide +kernel
theorem dX10_layLog_65 : decode cX10_layLog 65 = .ok (.bipush 120, 2) := by decide +kernel
theorem dX10_layLog_67 : decode cX10_layLog 67 = .ok (.if_icmp .ge 110, 3) := by decide +kernel
theorem dX10_layLog_70 : decode cX10_layLog 70 = .ok (.iconst 1, 1) := by decide +kernel
theorem dX10_layLog_71 : decode cX10_layLog 71 = .ok (.istore 4, 2) := by decide +kernel
theorem dX10_layLog_73 : decode cX10_layLog 73 = .ok (.iconst 0, 1) := by decide +kernel
theorem dX10_layLog_74 : decode cX10_layLog 74 = .ok (.istore 5, 2) := by decide +kernel
theorem dX10_layLog_76 : decode cX10_layLog 76 = .ok (.iload 5, 2) := by decide +kernel
theorem dX10_layLog_78 : decode cX10_layLog 78 = .ok (.aload_n 0, 1) := by decide +kernel
theorem dX10_layLog_79 : decode cX10_layLog 79 = .ok (.getfield 35, 3) := by decide +kernel
theorem dX10_layLog_82 : decode cX10_layLog 82 = .ok (.bipush 17, 2) := by decide +kernel
theorem dX10_layLog_84 : decode cX10_layLog 84 = .ok (.aload_n 0, 1) := by decide +kernel
theorem dX10_layLog_85 : decode cX10_layLog 85 = .ok (.getfield 432, 3) := by decide +kernel
theorem dX10_layLog_88 : decode cX10_layLog 88 = .ok (.imul, 1) := by decide +kernel
theorem dX10_layLog_89 : decode cX10_layLog 89 = .ok (.iaload, 1) := by decide +kernel
theorem dX10_layLog_90 : decode cX10_layLog 90 = .ok (.if_icmp .ge 43, 3) := by decide +kernel
theorem dX10_layLog_93 : decode cX10_layLog 93 = .ok (.iload 4, 2) := by decide +kernel
theorem dX10_layLog_95 : decode cX10_layLog 95 = .ok (.ifCond .eq 29, 3) := by decide +kernel
theorem dX10_layLog_98 : decode cX10_layLog 98 = .ok (.aload_n 0, 1) := by decide +kernel
theorem dX10_layLog_99 : decode cX10_layLog 99 = .ok (.iload_n 3, 1) := by decide +kernel
theorem dX10_layLog_100 : decode cX10_layLog 100 = .ok (.aload_n 0, 1) := by decide +kernel
theorem dX10_layLog_101 : decode cX10_layLog 101 = .ok (.iload 5, 2) := by decide +kernel
theorem dX10_layLog_103 : decode cX10_layLog 103 = .ok (.iconst 0, 1) := by decide +kernel
theorem dX10_layLog_104 : decode cX10_layLog 104 = .ok (.invokevirtual 438, 3) := by decide +kernel
theorem dX10_layLog_107 : decode cX10_layLog 107 = .ok (.invokevirtual 447, 3) := by decide +kernel
theorem dX10_layLog_110 : decode cX10_layLog 110 = .ok (.aload_n 0, 1) := by decide +kernel
theorem dX10_layLog_111 : decode cX10_layLog 111 = .ok (.iload 5, 2) := by decide +kernel
theorem dX10_layLog_113 : decode cX10_layLog 113 = .ok (.iconst 1, 1) := by decide +kernel
theorem dX10_layLog_114 : decode cX10_layLog 114 = .ok (.invokevirtual 438, 3) := by decide +kernel
theorem dX10_layLog_117 : decode cX10_layLog 117 = .ok (.if_icmp .ne 7, 3) := by decide +kernel
theorem dX10_layLog_120 : decode cX10_layLog 120 = .ok (.iconst 1, 1) := by decide +kernel
theorem dX10_layLog_121 : decode cX10_layLog 121 = .ok (.goto 4, 3) := by decide +kernel
theorem dX10_layLog_124 : decode cX10_layLog 124 = .ok (.iconst 0, 1) := by decide +kernel
theorem dX10_layLog_125 : decode cX10_layLog 125 = .ok (.istore 4, 2) := by decide +kernel
theorem dX10_layLog_127 : decode cX10_layLog 127 = .ok (.iinc 5 1, 3) := by decide +kernel
theorem dX10_layLog_130 : decode cX10_layLog 130 = .ok (.goto (-54), 3) := by decide +kernel
theorem dX10_layLog_133 : decode cX10_layLog 133 = .ok (.aload_n 0, 1) := by decide +kernel
theorem dX10_layLog_134 : decode cX10_layLog 134 = .ok (.getfield 68, 3) := by decide +kernel
theorem dX10_layLog_137 : decode cX10_layLog 137 = .ok (.aload_n 0, 1) := by decide +kernel
theorem dX10_layLog_138 : decode cX10_layLog 138 = .ok (.getfield 444, 3) := by decide +kernel
theorem dX10_layLog_141 : decode cX10_layLog 141 = .ok (.iload 4, 2) := by decide +kernel
theorem dX10_layLog_143 : decode cX10_layLog 143 = .ok (.ifCond .eq 7, 3) := by decide +kernel
theorem dX10_layLog_146 : decode cX10_layLog 146 = .ok (.iload_n 3, 1) := by decide +kernel
theorem dX10_layLog_147 : decode cX10_layLog 147 = .ok (.goto 4, 3) := by decide +kernel
theorem dX10_layLog_150 : decode cX10_layLog 150 = .ok (.iconst 0, 1) := by decide +kernel
theorem dX10_layLog_151 : decode cX10_layLog 151 = .ok (.iastore, 1) := by decide +kernel
theorem dX10_layLog_152 : decode cX10_layLog 152 = .ok (.aload_n 0, 1) := by decide +kernel
theorem dX10_layLog_153 : decode cX10_layLog 153 = .ok (.dup, 1) := by decide +kernel
theorem dX10_layLog_154 : decode cX10_layLog 154 = .ok (.getfield 444, 3) := by decide +kernel
theorem dX10_layLog_157 : decode cX10_layLog 157 = .ok (.iload 4, 2) := by decide +kernel
theorem dX10_layLog_159 : decode cX10_layLog 159 = .ok (.ifCond .eq 7, 3) := by decide +kernel
theorem dX10_layLog_162 : decode cX10_layLog 162 = .ok (.iconst 1, 1) := by decide +kernel
theorem dX10_layLog_163 : decode cX10_layLog 163 = .ok (.goto 4, 3) := by decide +kernel
theorem dX10_layLog_166 : decode cX10_layLog 166 = .ok (.iconst 0, 1) := by decide +kernel
theorem dX10_layLog_167 : decode cX10_layLog 167 = .ok (.iadd, 1) := by decide +kernel
theorem dX10_layLog_168 : decode cX10_layLog 168 = .ok (.putfield 444, 3) := by decide +kernel
theorem dX10_layLog_171 : decode cX10_layLog 171 = .ok (.iinc 3 1, 3) := by decide +kernel
theorem dX10_layLog_174 : decode cX10_layLog 174 = .ok (.goto (-110), 3) := by decide +kernel
theorem dX10_layLog_177 : decode cX10_layLog 177 = .ok (.iconst 1, 1) := by decide +kernel
theorem dX10_layLog_178 : decode cX10_layLog 178 = .ok (.ireturn, 1) := by decide +kernel
theorem dX10_sureOf_0 : decode cX10_sureOf 0 = .ok (.aload_n 0, 1) := by decide +kernel
theorem dX10_sureOf_1 : decode cX10_sureOf 1 = .ok (.getfield 444, 3) := by decide +kernel
theorem dX10_sureOf_4 : decode cX10_sureOf 4 = .ok (.ifCond .ne 7, 3) := by decide +kernel
theorem dX10_sureOf_7 : decode cX10_sureOf 7 = .ok (.iconst (-1), 1) := by decide +kernel
theorem dX10_sureOf_8 : decode cX10_sureOf 8 = .ok (.goto 30, 3) := by decide +kernel
theorem dX10_sureOf_11 : decode cX10_sureOf 11 = .ok (.iload_n 1, 1) := by decide +kernel
theorem dX10_sureOf_12 : decode cX10_sureOf 12 = .ok (.ifCond .eq 15, 3) := by decide +kernel
theorem dX10_sureOf_15 : decode cX10_sureOf 15 = .ok (.aload_n 0, 1) := by decide +kernel
theorem dX10_sureOf_16 : decode cX10_sureOf 16 = .ok (.getfield 68, 3) := by decide +kernel
theorem dX10_sureOf_19 : decode cX10_sureOf 19 = .ok (.iconst 0, 1) := by decide +kernel
theorem dX10_sureOf_20 : decode cX10_sureOf 20 = .ok (.iaload, 1) := by decide +kernel
theorem dX10_sureOf_21 : decode cX10_sureOf 21 = .ok (.bipush 30, 2) := by decide +kernel
theorem dX10_sureOf_23 : decode cX10_sureOf 23 = .ok (.idiv, 1) := by decide +kernel
theorem dX10_sureOf_24 : decode cX10_sureOf 24 = .ok (.goto 14, 3) := by decide +kernel
theorem dX10_sureOf_27 : decode cX10_sureOf 27 = .ok (.aload_n 0, 1) := by decide +kernel
theorem dX10_sureOf_28 : decode cX10_sureOf 28 = .ok (.getfield 68, 3) := by decide +kernel
theorem dX10_sureOf_31 : decode cX10_sureOf 31 = .ok (.iconst 0, 1) := by decide +kernel
theorem dX10_sureOf_32 : decode cX10_sureOf 32 = .ok (.iaload, 1) := by decide +kernel
theorem dX10_sureOf_33 : decode cX10_sureOf 33 = .ok (.bipush 30, 2) := by decide +kernel
theorem dX10_sureOf_35 : decode cX10_sureOf 35 = .ok (.irem, 1) := by decide +kernel
theorem dX10_sureOf_36 : decode cX10_sureOf 36 = .ok (.iconst 1, 1) := by decide +kernel
theorem dX10_sureOf_37 : decode cX10_sureOf 37 = .ok (.iadd, 1) := by decide +kernel
theorem dX10_sureOf_38 : decode cX10_sureOf 38 = .ok (.istore_n 2, 1) := by decide +kernel
theorem dX10_sureOf_39 : decode cX10_sureOf 39 = .ok (.iconst 1, 1) := by decide +kernel
theorem dX10_sureOf_40 : decode cX10_sureOf 40 = .ok (.istore_n 3, 1) := by decide +kernel
theorem dX10_sureOf_41 : decode cX10_sureOf 41 = .ok (.iload_n 3, 1) := by decide +kernel
theorem dX10_sureOf_42 : decode cX10_sureOf 42 = .ok (.aload_n 0, 1) := by decide +kernel
theorem dX10_sureOf_43 : decode cX10_sureOf 43 = .ok (.getfield 444, 3) := by decide +kernel
theorem dX10_sureOf_46 : decode cX10_sureOf 46 = .ok (.if_icmp .ge 46, 3) := by decide +kernel
theorem dX10_sureOf_49 : decode cX10_sureOf 49 = .ok (.iload_n 1, 1) := by decide +kernel
theorem dX10_sureOf_50 : decode cX10_sureOf 50 = .ok (.ifCond .eq 15, 3) := by decide +kernel
theorem dX10_sureOf_53 : decode cX10_sureOf 53 = .ok (.aload_n 0, 1) := by decide +kernel
theorem dX10_sureOf_54 : decode cX10_sureOf 54 = .ok (.getfield 68, 3) := by decide +kernel
theorem dX10_sureOf_57 : decode cX10_sureOf 57 = .ok (.iload_n 3, 1) := by decide +kernel
theorem dX10_sureOf_58 : decode cX10_sureOf 58 = .ok (.iaload, 1) := by decide +kernel
theorem dX10_sureOf_59 : decode cX10_sureOf 59 = .ok (.bipush 30, 2) := by decide +kernel
theorem dX10_sureOf_61 : decode cX10_sureOf 61 = .ok (.idiv, 1) := by decide +kernel
theorem dX10_sureOf_62 : decode cX10_sureOf 62 = .ok (.goto 14, 3) := by decide +kernel
theorem dX10_sureOf_65 : decode cX10_sureOf 65 = .ok (.aload_n 0, 1) := by decide +kernel
theorem dX10_sureOf_66 : decode cX10_sureOf 66 = .ok (.getfield 68, 3) := by decide +kernel
theorem dX10_sureOf_69 : decode cX10_sureOf 69 = .ok (.iload_n 3, 1) := by decide +kernel
theorem dX10_sureOf_70 : decode cX10_sureOf 70 = .ok (.iaload, 1) := by decide +kernel
theorem dX10_sureOf_71 : decode cX10_sureOf 71 = .ok (.bipush 30, 2) := by decide +kernel
theorem dX10_sureOf_73 : decode cX10_sureOf 73 = .ok (.irem, 1) := by decide +kernel
theorem dX10_sureOf_74 : decode cX10_sureOf 74 = .ok (.iconst 1, 1) := by decide +kernel
theorem dX10_sureOf_75 : decode cX10_sureOf 75 = .ok (.iadd, 1) := by decide +kernel
theorem dX10_sureOf_76 : decode cX10_sureOf 76 = .ok (.iload_n 2, 1) := by decide +kernel
theorem dX10_sureOf_77 : decode cX10_sureOf 77 = .ok (.if_icmp .ne 7, 3) := by decide +kernel
theorem dX10_sureOf_80 : decode cX10_sureOf 80 = .ok (.iload_n 2, 1) := by decide +kernel
theorem dX10_sureOf_81 : decode cX10_sureOf 81 = .ok (.goto 4, 3) := by decide +kernel
theorem dX10_sureOf_84 : decode cX10_sureOf 84 = .ok (.iconst (-1), 1) := by decide +kernel
theorem dX10_sureOf_85 : decode cX10_sureOf 85 = .ok (.istore_n 2, 1) := by decide +kernel
theorem dX10_sureOf_86 : decode cX10_sureOf 86 = .ok (.iinc 3 1, 3) := by decide +kernel
theorem dX10_sureOf_89 : decode cX10_sureOf 89 = .ok (.goto (-48), 3) := by decide +kernel
theorem dX10_sureOf_92 : decode cX10_sureOf 92 = .ok (.iload_n 2, 1) := by decide +kernel
theorem dX10_sureOf_93 : decode cX10_sureOf 93 = .ok (.ireturn, 1) := by decide +kernel
