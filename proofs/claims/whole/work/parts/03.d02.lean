theorem dX4_checkAllThere_0 : decode cX4_checkAllThere 0 = .ok (.iconst 0, 1) := by decide +kernel
theorem dX4_checkAllThere_1 : decode cX4_checkAllThere 1 = .ok (.istore_n 1, 1) := by decide +kernel
theorem dX4_checkAllThere_2 : decode cX4_checkAllThere 2 = .ok (.iload_n 1, 1) := by decide +kernel
theorem dX4_checkAllThere_3 : decode cX4_checkAllThere 3 = .ok (.aload_n 0, 1) := by decide +kernel
theorem dX4_checkAllThere_4 : decode cX4_checkAllThere 4 = .ok (.getfield 28, 3) := by decide +kernel
theorem dX4_checkAllThere_7 : decode cX4_checkAllThere 7 = .ok (.if_icmp .ge 133, 3) := by decide +kernel
theorem dX4_checkAllThere_10 : decode cX4_checkAllThere 10 = .ok (.iload_n 1, 1) := by decide +kernel
theorem dX4_checkAllThere_11 : decode cX4_checkAllThere 11 = .ok (.iconst 3, 1) := by decide +kernel
theorem dX4_checkAllThere_12 : decode cX4_checkAllThere 12 = .ok (.imul, 1) := by decide +kernel
theorem dX4_checkAllThere_13 : decode cX4_checkAllThere 13 = .ok (.istore_n 2, 1) := by decide +kernel
theorem dX4_checkAllThere_14 : decode cX4_checkAllThere 14 = .ok (.iconst 1, 1) := by decide +kernel
theorem dX4_checkAllThere_15 : decode cX4_checkAllThere 15 = .ok (.istore_n 3, 1) := by decide +kernel
theorem dX4_checkAllThere_16 : decode cX4_checkAllThere 16 = .ok (.aload_n 0, 1) := by decide +kernel
theorem dX4_checkAllThere_17 : decode cX4_checkAllThere 17 = .ok (.getfield 31, 3) := by decide +kernel
theorem dX4_checkAllThere_20 : decode cX4_checkAllThere 20 = .ok (.iload_n 1, 1) := by decide +kernel
theorem dX4_checkAllThere_21 : decode cX4_checkAllThere 21 = .ok (.iaload, 1) := by decide +kernel
theorem dX4_checkAllThere_22 : decode cX4_checkAllThere 22 = .ok (.iconst 2, 1) := by decide +kernel
theorem dX4_checkAllThere_23 : decode cX4_checkAllThere 23 = .ok (.if_icmp .ne 44, 3) := by decide +kernel
theorem dX4_checkAllThere_26 : decode cX4_checkAllThere 26 = .ok (.aload_n 0, 1) := by decide +kernel
theorem dX4_checkAllThere_27 : decode cX4_checkAllThere 27 = .ok (.getfield 41, 3) := by decide +kernel
theorem dX4_checkAllThere_30 : decode cX4_checkAllThere 30 = .ok (.iload_n 2, 1) := by decide +kernel
theorem dX4_checkAllThere_31 : decode cX4_checkAllThere 31 = .ok (.iaload, 1) := by decide +kernel
theorem dX4_checkAllThere_32 : decode cX4_checkAllThere 32 = .ok (.aload_n 0, 1) := by decide +kernel
theorem dX4_checkAllThere_33 : decode cX4_checkAllThere 33 = .ok (.getfield 47, 3) := by decide +kernel
theorem dX4_checkAllThere_36 : decode cX4_checkAllThere 36 = .ok (.iconst 0, 1) := by decide +kernel
theorem dX4_checkAllThere_37 : decode cX4_checkAllThere 37 = .ok (.iaload, 1) := by decide +kernel
theorem dX4_checkAllThere_38 : decode cX4_checkAllThere 38 = .ok (.if_icmp .ge 24, 3) := by decide +kernel
theorem dX4_checkAllThere_41 : decode cX4_checkAllThere 41 = .ok (.aload_n 0, 1) := by decide +kernel
theorem dX4_checkAllThere_42 : decode cX4_checkAllThere 42 = .ok (.getfield 41, 3) := by decide +kernel
theorem dX4_checkAllThere_45 : decode cX4_checkAllThere 45 = .ok (.iload_n 2, 1) := by decide +kernel
theorem dX4_checkAllThere_46 : decode cX4_checkAllThere 46 = .ok (.iconst 1, 1) := by decide +kernel
theorem dX4_checkAllThere_47 : decode cX4_checkAllThere 47 = .ok (.iadd, 1) := by decide +kernel
theorem dX4_checkAllThere_48 : decode cX4_checkAllThere 48 = .ok (.iaload, 1) := by decide +kernel
theorem dX4_checkAllThere_49 : decode cX4_checkAllThere 49 = .ok (.aload_n 0, 1) := by decide +kernel
theorem dX4_checkAllThere_50 : decode cX4_checkAllThere 50 = .ok (.getfield 47, 3) := by decide +kernel
theorem dX4_checkAllThere_53 : decode cX4_checkAllThere 53 = .ok (.iconst 1, 1) := by decide +kernel
theorem dX4_checkAllThere_54 : decode cX4_checkAllThere 54 = .ok (.iaload, 1) := by decide +kernel
theorem dX4_checkAllThere_55 : decode cX4_checkAllThere 55 = .ok (.if_icmp .ge 7, 3) := by decide +kernel
theorem dX4_checkAllThere_58 : decode cX4_checkAllThere 58 = .ok (.iconst 1, 1) := by decide +kernel
theorem dX4_checkAllThere_59 : decode cX4_checkAllThere 59 = .ok (.goto 4, 3) := by decide +kernel
theorem dX4_checkAllThere_62 : decode cX4_checkAllThere 62 = .ok (.iconst 0, 1) := by decide +kernel
theorem dX4_checkAllThere_63 : decode cX4_checkAllThere 63 = .ok (.istore_n 3, 1) := by decide +kernel
theorem dX4_checkAllThere_64 : decode cX4_checkAllThere 64 = .ok (.goto 56, 3) := by decide +kernel
theorem dX4_checkAllThere_67 : decode cX4_checkAllThere 67 = .ok (.aload_n 0, 1) := by decide +kernel
theorem dX4_checkAllThere_68 : decode cX4_checkAllThere 68 = .ok (.getfield 31, 3) := by decide +kernel
theorem dX4_checkAllThere_71 : decode cX4_checkAllThere 71 = .ok (.iload_n 1, 1) := by decide +kernel
theorem dX4_checkAllThere_72 : decode cX4_checkAllThere 72 = .ok (.iaload, 1) := by decide +kernel
theorem dX4_checkAllThere_73 : decode cX4_checkAllThere 73 = .ok (.iconst 3, 1) := by decide +kernel
theorem dX4_checkAllThere_74 : decode cX4_checkAllThere 74 = .ok (.if_icmp .ne 46, 3) := by decide +kernel
theorem dX4_checkAllThere_77 : decode cX4_checkAllThere 77 = .ok (.aload_n 0, 1) := by decide +kernel
theorem dX4_checkAllThere_78 : decode cX4_checkAllThere 78 = .ok (.getfield 41, 3) := by decide +kernel
theorem dX4_checkAllThere_81 : decode cX4_checkAllThere 81 = .ok (.iload_n 2, 1) := by decide +kernel
theorem dX4_checkAllThere_82 : decode cX4_checkAllThere 82 = .ok (.iaload, 1) := by decide +kernel
theorem dX4_checkAllThere_83 : decode cX4_checkAllThere 83 = .ok (.aload_n 0, 1) := by decide +kernel
theorem dX4_checkAllThere_84 : decode cX4_checkAllThere 84 = .ok (.getfield 41, 3) := by decide +kernel
theorem dX4_checkAllThere_87 : decode cX4_checkAllThere 87 = .ok (.iload_n 2, 1) := by decide +kernel
theorem dX4_checkAllThere_88 : decode cX4_checkAllThere 88 = .ok (.iconst 1, 1) := by decide +kernel
theorem dX4_checkAllThere_89 : decode cX4_checkAllThere 89 = .ok (.iadd, 1) := by decide +kernel
theorem dX4_checkAllThere_90 : decode cX4_checkAllThere 90 = .ok (.iaload, 1) := by decide +kernel
theorem dX4_checkAllThere_91 : decode cX4_checkAllThere 91 = .ok (.aload_n 0, 1) := by decide +kernel
theorem dX4_checkAllThere_92 : decode cX4_checkAllThere 92 = .ok (.getfield 41, 3) := by decide +kernel
theorem dX4_checkAllThere_95 : decode cX4_checkAllThere 95 = .ok (.iload_n 2, 1) := by decide +kernel
theorem dX4_checkAllThere_96 : decode cX4_checkAllThere 96 = .ok (.iconst 2, 1) := by decide +kernel
theorem dX4_checkAllThere_97 : decode cX4_checkAllThere 97 = .ok (.iadd, 1) := by decide +kernel
theorem dX4_checkAllThere_98 : decode cX4_checkAllThere 98 = .ok (.iaload, 1) := by decide +kernel
theorem dX4_checkAllThere_99 : decode cX4_checkAllThere 99 = .ok (.invokestatic 62, 3) := by decide +kernel
theorem dX4_checkAllThere_102 : decode cX4_checkAllThere 102 = .ok (.invokestatic 62, 3) := by decide +kernel
theorem dX4_checkAllThere_105 : decode cX4_checkAllThere 105 = .ok (.aload_n 0, 1) := by decide +kernel
theorem dX4_checkAllThere_106 : decode cX4_checkAllThere 106 = .ok (.getfield 47, 3) := by decide +kernel
theorem dX4_checkAllThere_109 : decode cX4_checkAllThere 109 = .ok (.iconst 1, 1) := by decide +kernel
theorem dX4_checkAllThere_110 : decode cX4_checkAllThere 110 = .ok (.iaload, 1) := by decide +kernel
theorem dX4_checkAllThere_111 : decode cX4_checkAllThere 111 = .ok (.if_icmp .ge 7, 3) := by decide +kernel
theorem dX4_checkAllThere_114 : decode cX4_checkAllThere 114 = .ok (.iconst 1, 1) := by decide +kernel
theorem dX4_checkAllThere_115 : decode cX4_checkAllThere 115 = .ok (.goto 4, 3) := by decide +kernel
theorem dX4_checkAllThere_118 : decode cX4_checkAllThere 118 = .ok (.iconst 0, 1) := by decide +kernel
theorem dX4_checkAllThere_119 : decode cX4_checkAllThere 119 = .ok (.istore_n 3, 1) := by decide +kernel
theorem dX4_checkAllThere_120 : decode cX4_checkAllThere 120 = .ok (.iload_n 3, 1) := by decide +kernel
theorem dX4_checkAllThere_121 : decode cX4_checkAllThere 121 = .ok (.ifCond .ne 13, 3) := by decide +kernel
theorem dX4_checkAllThere_124 : decode cX4_checkAllThere 124 = .ok (.aload_n 0, 1) := by decide +kernel
theorem dX4_checkAllThere_125 : decode cX4_checkAllThere 125 = .ok (.iconst 4, 1) := by decide +kernel
theorem dX4_checkAllThere_126 : decode cX4_checkAllThere 126 = .ok (.aload_n 0, 1) := by decide +kernel
theorem dX4_checkAllThere_127 : decode cX4_checkAllThere 127 = .ok (.getfield 15, 3) := by decide +kernel
theorem dX4_checkAllThere_130 : decode cX4_checkAllThere 130 = .ok (.invokevirtual 151, 3) := by decide +kernel
theorem dX4_checkAllThere_133 : decode cX4_checkAllThere 133 = .ok (.return_, 1) := by decide +kernel
theorem dX4_checkAllThere_134 : decode cX4_checkAllThere 134 = .ok (.iinc 1 1, 3) := by decide +kernel
theorem dX4_checkAllThere_137 : decode cX4_checkAllThere 137 = .ok (.goto (-135), 3) := by decide +kernel
theorem dX4_checkAllThere_140 : decode cX4_checkAllThere 140 = .ok (.return_, 1) := by decide +kernel
theorem dX4_fillHouse_0 : decode cX4_fillHouse 0 = .ok (.aload_n 1, 1) := by decide +kernel
theorem dX4_fillHouse_1 : decode cX4_fillHouse 1 = .ok (.ifnonnull 4, 3) := by decide +kernel
theorem dX4_fillHouse_4 : decode cX4_fillHouse 4 = .ok (.return_, 1) := by decide +kernel
theorem dX4_fillHouse_5 : decode cX4_fillHouse 5 = .ok (.aload_n 1, 1) := by decide +kernel
theorem dX4_fillHouse_6 : decode cX4_fillHouse 6 = .ok (.invokevirtual 193, 3) := by decide +kernel
theorem dX4_fillHouse_9 : decode cX4_fillHouse 9 = .ok (.iconst 0, 1) := by decide +kernel
theorem dX4_fillHouse_10 : decode cX4_fillHouse 10 = .ok (.istore_n 2, 1) := by decide +kernel
theorem dX4_fillHouse_11 : decode cX4_fillHouse 11 = .ok (.iload_n 2, 1) := by decide +kernel
theorem dX4_fillHouse_12 : decode cX4_fillHouse 12 = .ok (.aload_n 0, 1) := by decide +kernel
theorem dX4_fillHouse_13 : decode cX4_fillHouse 13 = .ok (.getfield 28, 3) := by decide +kernel
theorem dX4_fillHouse_16 : decode cX4_fillHouse 16 = .ok (.if_icmp .ge 131, 3) := by decide +kernel
theorem dX4_fillHouse_19 : decode cX4_fillHouse 19 = .ok (.iload_n 2, 1) := by decide +kernel
theorem dX4_fillHouse_20 : decode cX4_fillHouse 20 = .ok (.iconst 3, 1) := by decide +kernel
theorem dX4_fillHouse_21 : decode cX4_fillHouse 21 = .ok (.imul, 1) := by decide +kernel
theorem dX4_fillHouse_22 : decode cX4_fillHouse 22 = .ok (.istore_n 3, 1) := by decide +kernel
theorem dX4_fillHouse_23 : decode cX4_fillHouse 23 = .ok (.aload_n 0, 1) := by decide +kernel
theorem dX4_fillHouse_24 : decode cX4_fillHouse 24 = .ok (.getfield 31, 3) := by decide +kernel
theorem dX4_fillHouse_27 : decode cX4_fillHouse 27 = .ok (.iload_n 2, 1) := by decide +kernel
theorem dX4_fillHouse_28 : decode cX4_fillHouse 28 = .ok (.iaload, 1) := by decide +kernel
theorem dX4_fillHouse_29 : decode cX4_fillHouse 29 = .ok (.tableswitch 86 0 2 #[27, 46, 65], 27) := by decide +kernel
theorem dX4_fillHouse_56 : decode cX4_fillHouse 56 = .ok (.aload_n 1, 1) := by decide +kernel
theorem dX4_fillHouse_57 : decode cX4_fillHouse 57 = .ok (.aload_n 0, 1) := by decide +kernel
theorem dX4_fillHouse_58 : decode cX4_fillHouse 58 = .ok (.getfield 35, 3) := by decide +kernel
theorem dX4_fillHouse_61 : decode cX4_fillHouse 61 = .ok (.iload_n 2, 1) := by decide +kernel
theorem dX4_fillHouse_62 : decode cX4_fillHouse 62 = .ok (.iaload, 1) := by decide +kernel
theorem dX4_fillHouse_63 : decode cX4_fillHouse 63 = .ok (.aload_n 0, 1) := by decide +kernel
theorem dX4_fillHouse_64 : decode cX4_fillHouse 64 = .ok (.getfield 41, 3) := by decide +kernel
theorem dX4_fillHouse_67 : decode cX4_fillHouse 67 = .ok (.iload_n 3, 1) := by decide +kernel
theorem dX4_fillHouse_68 : decode cX4_fillHouse 68 = .ok (.iaload, 1) := by decide +kernel
theorem dX4_fillHouse_69 : decode cX4_fillHouse 69 = .ok (.invokevirtual 198, 3) := by decide +kernel
theorem dX4_fillHouse_72 : decode cX4_fillHouse 72 = .ok (.goto 69, 3) := by decide +kernel
theorem dX4_fillHouse_75 : decode cX4_fillHouse 75 = .ok (.aload_n 1, 1) := by decide +kernel
theorem dX4_fillHouse_76 : decode cX4_fillHouse 76 = .ok (.aload_n 0, 1) := by decide +kernel
theorem dX4_fillHouse_77 : decode cX4_fillHouse 77 = .ok (.getfield 35, 3) := by decide +kernel
theorem dX4_fillHouse_80 : decode cX4_fillHouse 80 = .ok (.iload_n 2, 1) := by decide +kernel
theorem dX4_fillHouse_81 : decode cX4_fillHouse 81 = .ok (.iaload, 1) := by decide +kernel
theorem dX4_fillHouse_82 : decode cX4_fillHouse 82 = .ok (.aload_n 0, 1) := by decide +kernel
theorem dX4_fillHouse_83 : decode cX4_fillHouse 83 = .ok (.getfield 41, 3) := by decide +kernel
theorem dX4_fillHouse_86 : decode cX4_fillHouse 86 = .ok (.iload_n 3, 1) := by decide +kernel
theorem dX4_fillHouse_87 : decode cX4_fillHouse 87 = .ok (.iaload, 1) := by decide +kernel
theorem dX4_fillHouse_88 : decode cX4_fillHouse 88 = .ok (.invokevirtual 201, 3) := by decide +kernel
theorem dX4_fillHouse_91 : decode cX4_fillHouse 91 = .ok (.goto 50, 3) := by decide +kernel
theorem dX4_fillHouse_94 : decode cX4_fillHouse 94 = .ok (.aload_n 1, 1) := by decide +kernel
theorem dX4_fillHouse_95 : decode cX4_fillHouse 95 = .ok (.aload_n 0, 1) := by decide +kernel
theorem dX4_fillHouse_96 : decode cX4_fillHouse 96 = .ok (.getfield 41, 3) := by decide +kernel
theorem dX4_fillHouse_99 : decode cX4_fillHouse 99 = .ok (.iload_n 3, 1) := by decide +kernel
theorem dX4_fillHouse_100 : decode cX4_fillHouse 100 = .ok (.iaload, 1) := by decide +kernel
theorem dX4_fillHouse_101 : decode cX4_fillHouse 101 = .ok (.aload_n 0, 1) := by decide +kernel
theorem dX4_fillHouse_102 : decode cX4_fillHouse 102 = .ok (.getfield 41, 3) := by decide +kernel
theorem dX4_fillHouse_105 : decode cX4_fillHouse 105 = .ok (.iload_n 3, 1) := by decide +kernel
theorem dX4_fillHouse_106 : decode cX4_fillHouse 106 = .ok (.iconst 1, 1) := by decide +kernel
theorem dX4_fillHouse_107 : decode cX4_fillHouse 107 = .ok (.iadd, 1) := by decide +kernel
theorem dX4_fillHouse_108 : decode cX4_fillHouse 108 = .ok (.iaload, 1) := by decide +kernel
theorem dX4_fillHouse_109 : decode cX4_fillHouse 109 = .ok (.invokevirtual 204, 3) := by decide +kernel
theorem dX4_fillHouse_112 : decode cX4_fillHouse 112 = .ok (.goto 29, 3) := by decide +kernel
theorem dX4_fillHouse_115 : decode cX4_fillHouse 115 = .ok (.aload_n 1, 1) := by decide +kernel
theorem dX4_fillHouse_116 : decode cX4_fillHouse 116 = .ok (.aload_n 0, 1) := by decide +kernel
theorem dX4_fillHouse_117 : decode cX4_fillHouse 117 = .ok (.getfield 41, 3) := by decide +kernel
theorem dX4_fillHouse_120 : decode cX4_fillHouse 120 = .ok (.iload_n 3, 1) := by decide +kernel
theorem dX4_fillHouse_121 : decode cX4_fillHouse 121 = .ok (.iaload, 1) := by decide +kernel
theorem dX4_fillHouse_122 : decode cX4_fillHouse 122 = .ok (.aload_n 0, 1) := by decide +kernel
theorem dX4_fillHouse_123 : decode cX4_fillHouse 123 = .ok (.getfield 41, 3) := by decide +kernel
theorem dX4_fillHouse_126 : decode cX4_fillHouse 126 = .ok (.iload_n 3, 1) := by decide +kernel
theorem dX4_fillHouse_127 : decode cX4_fillHouse 127 = .ok (.iconst 1, 1) := by decide +kernel
theorem dX4_fillHouse_128 : decode cX4_fillHouse 128 = .ok (.iadd, 1) := by decide +kernel
theorem dX4_fillHouse_129 : decode cX4_fillHouse 129 = .ok (.iaload, 1) := by decide +kernel
theorem dX4_fillHouse_130 : decode cX4_fillHouse 130 = .ok (.aload_n 0, 1) := by decide +kernel
theorem dX4_fillHouse_131 : decode cX4_fillHouse 131 = .ok (.getfield 41, 3) := by decide +kernel
theorem dX4_fillHouse_134 : decode cX4_fillHouse 134 = .ok (.iload_n 3, 1) := by decide +kernel
theorem dX4_fillHouse_135 : decode cX4_fillHouse 135 = .ok (.iconst 2, 1) := by decide +kernel
theorem dX4_fillHouse_136 : decode cX4_fillHouse 136 = .ok (.iadd, 1) := by decide +kernel
theorem dX4_fillHouse_137 : decode cX4_fillHouse 137 = .ok (.iaload, 1) := by decide +kernel
theorem dX4_fillHouse_138 : decode cX4_fillHouse 138 = .ok (.invokevirtual 207, 3) := by decide +kernel
theorem dX4_fillHouse_141 : decode cX4_fillHouse 141 = .ok (.iinc 2 1, 3) := by decide +kernel
theorem dX4_fillHouse_144 : decode cX4_fillHouse 144 = .ok (.goto (-133), 3) := by decide +kernel
theorem dX4_fillHouse_147 : decode cX4_fillHouse 147 = .ok (.return_, 1) := by decide +kernel
theorem dX4_fillRows_0 : decode cX4_fillRows 0 = .ok (.aload_n 1, 1) := by decide +kernel
theorem dX4_fillRows_1 : decode cX4_fillRows 1 = .ok (.ifnonnull 4, 3) := by decide +kernel
theorem dX4_fillRows_4 : decode cX4_fillRows 4 = .ok (.return_, 1) := by decide +kernel
theorem dX4_fillRows_5 : decode cX4_fillRows 5 = .ok (.aload_n 1, 1) := by decide +kernel
theorem dX4_fillRows_6 : decode cX4_fillRows 6 = .ok (.iconst 0, 1) := by decide +kernel
theorem dX4_fillRows_7 : decode cX4_fillRows 7 = .ok (.putfield 211, 3) := by decide +kernel
theorem dX4_fillRows_10 : decode cX4_fillRows 10 = .ok (.iconst 0, 1) := by decide +kernel
theorem dX4_fillRows_11 : decode cX4_fillRows 11 = .ok (.istore_n 2, 1) := by decide +kernel
theorem dX4_fillRows_12 : decode cX4_fillRows 12 = .ok (.iload_n 2, 1) := by decide +kernel
theorem dX4_fillRows_13 : decode cX4_fillRows 13 = .ok (.aload_n 0, 1) := by decide +kernel
theorem dX4_fillRows_14 : decode cX4_fillRows 14 = .ok (.getfield 28, 3) := by decide +kernel
theorem dX4_fillRows_17 : decode cX4_fillRows 17 = .ok (.if_icmp .ge 45, 3) := by decide +kernel
theorem dX4_fillRows_20 : decode cX4_fillRows 20 = .ok (.iload_n 2, 1) := by decide +kernel
theorem dX4_fillRows_21 : decode cX4_fillRows 21 = .ok (.iconst 3, 1) := by decide +kernel
theorem dX4_fillRows_22 : decode cX4_fillRows 22 = .ok (.imul, 1) := by decide +kernel
theorem dX4_fillRows_23 : decode cX4_fillRows 23 = .ok (.istore_n 3, 1) := by decide +kernel
theorem dX4_fillRows_24 : decode cX4_fillRows 24 = .ok (.aload_n 1, 1) := by decide +kernel
theorem dX4_fillRows_25 : decode cX4_fillRows 25 = .ok (.aload_n 0, 1) := by decide +kernel
theorem dX4_fillRows_26 : decode cX4_fillRows 26 = .ok (.getfield 31, 3) := by decide +kernel
theorem dX4_fillRows_29 : decode cX4_fillRows 29 = .ok (.iload_n 2, 1) := by decide +kernel
theorem dX4_fillRows_30 : decode cX4_fillRows 30 = .ok (.iaload, 1) := by decide +kernel
theorem dX4_fillRows_31 : decode cX4_fillRows 31 = .ok (.aload_n 0, 1) := by decide +kernel
theorem dX4_fillRows_32 : decode cX4_fillRows 32 = .ok (.getfield 41, 3) := by decide +kernel
theorem dX4_fillRows_35 : decode cX4_fillRows 35 = .ok (.iload_n 3, 1) := by decide +kernel
theorem dX4_fillRows_36 : decode cX4_fillRows 36 = .ok (.iaload, 1) := by decide +kernel
theorem dX4_fillRows_37 : decode cX4_fillRows 37 = .ok (.aload_n 0, 1) := by decide +kernel
theorem dX4_fillRows_38 : decode cX4_fillRows 38 = .ok (.getfield 41, 3) := by decide +kernel
theorem dX4_fillRows_41 : decode cX4_fillRows 41 = .ok (.iload_n 3, 1) := by decide +kernel
theorem dX4_fillRows_42 : decode cX4_fillRows 42 = .ok (.iconst 1, 1) := by decide +kernel
theorem dX4_fillRows_43 : decode cX4_fillRows 43 = .ok (.iadd, 1) := by decide +kernel
theorem dX4_fillRows_44 : decode cX4_fillRows 44 = .ok (.iaload, 1) := by decide +kernel
theorem dX4_fillRows_45 : decode cX4_fillRows 45 = .ok (.aload_n 0, 1) := by decide +kernel
theorem dX4_fillRows_46 : decode cX4_fillRows 46 = .ok (.getfield 41, 3) := by decide +kernel
theorem dX4_fillRows_49 : decode cX4_fillRows 49 = .ok (.iload_n 3, 1) := by decide +kernel
theorem dX4_fillRows_50 : decode cX4_fillRows 50 = .ok (.iconst 2, 1) := by decide +kernel
theorem dX4_fillRows_51 : decode cX4_fillRows 51 = .ok (.iadd, 1) := by decide +kernel
theorem dX4_fillRows_52 : decode cX4_fillRows 52 = .ok (.iaload, 1) := by decide +kernel
theorem dX4_fillRows_53 : decode cX4_fillRows 53 = .ok (.invokevirtual 216, 3) := by decide +kernel
theorem dX4_fillRows_56 : decode cX4_fillRows 56 = .ok (.iinc 2 1, 3) := by decide +kernel
theorem dX4_fillRows_59 : decode cX4_fillRows 59 = .ok (.goto (-47), 3) := by decide +kernel
theorem dX4_fillRows_62 : decode cX4_fillRows 62 = .ok (.return_, 1) := by decide +kernel
theorem dX5_init_0 : decode cX5_init 0 = .ok (.aload_n 0, 1) := by decide +kernel
theorem dX5_init_1 : decode cX5_init 1 = .ok (.invokespecial 3, 3) := by decide +kernel
theorem dX5_init_4 : decode cX5_init 4 = .ok (.aload_n 0, 1) := by decide +kernel
theorem dX5_init_5 : decode cX5_init 5 = .ok (.iconst 0, 1) := by decide +kernel
theorem dX5_init_6 : decode cX5_init 6 = .ok (.putfield 9, 3) := by decide +kernel
theorem dX5_init_9 : decode cX5_init 9 = .ok (.aload_n 0, 1) := by decide +kernel
theorem dX5_init_10 : decode cX5_init 10 = .ok (.iconst 0, 1) := by decide +kernel
theorem dX5_init_11 : decode cX5_init 11 = .ok (.iload_n 1, 1) := by decide +kernel
theorem dX5_init_12 : decode cX5_init 12 = .ok (.bipush 40, 2) := by decide +kernel
theorem dX5_init_14 : decode cX5_init 14 = .ok (.invokestatic 15, 3) := by decide +kernel
theorem dX5_init_17 : decode cX5_init 17 = .ok (.invokestatic 21, 3) := by decide +kernel
theorem dX5_init_20 : decode cX5_init 20 = .ok (.putfield 24, 3) := by decide +kernel
theorem dX5_init_23 : decode cX5_init 23 = .ok (.aload_n 0, 1) := by decide +kernel
theorem dX5_init_24 : decode cX5_init 24 = .ok (.aload_n 0, 1) := by decide +kernel
theorem dX5_init_25 : decode cX5_init 25 = .ok (.getfield 24, 3) := by decide +kernel
theorem dX5_init_28 : decode cX5_init 28 = .ok (.iconst 4, 1) := by decide +kernel
theorem dX5_init_29 : decode cX5_init 29 = .ok (.imul, 1) := by decide +kernel
theorem dX5_init_30 : decode cX5_init 30 = .ok (.newarray .int, 2) := by decide +kernel
theorem dX5_init_32 : decode cX5_init 32 = .ok (.putfield 27, 3) := by decide +kernel
theorem dX5_init_35 : decode cX5_init 35 = .ok (.return_, 1) := by decide +kernel
theorem dX5_hasRow_0 : decode cX5_hasRow 0 = .ok (.iload_n 1, 1) := by decide +kernel
theorem dX5_hasRow_1 : decode cX5_hasRow 1 = .ok (.ifCond .lt 15, 3) := by decide +kernel
theorem dX5_hasRow_4 : decode cX5_hasRow 4 = .ok (.iload_n 1, 1) := by decide +kernel
theorem dX5_hasRow_5 : decode cX5_hasRow 5 = .ok (.aload_n 0, 1) := by decide +kernel
theorem dX5_hasRow_6 : decode cX5_hasRow 6 = .ok (.getfield 9, 3) := by decide +kernel
theorem dX5_hasRow_9 : decode cX5_hasRow 9 = .ok (.if_icmp .ge 7, 3) := by decide +kernel
theorem dX5_hasRow_12 : decode cX5_hasRow 12 = .ok (.iconst 1, 1) := by decide +kernel
theorem dX5_hasRow_13 : decode cX5_hasRow 13 = .ok (.goto 4, 3) := by decide +kernel
theorem dX5_hasRow_16 : decode cX5_hasRow 16 = .ok (.iconst 0, 1) := by decide +kernel
theorem dX5_hasRow_17 : decode cX5_hasRow 17 = .ok (.ireturn, 1) := by decide +kernel
theorem dX5_cell_0 : decode cX5_cell 0 = .ok (.aload_n 0, 1) := by decide +kernel
theorem dX5_cell_1 : decode cX5_cell 1 = .ok (.iload_n 1, 1) := by decide +kernel
theorem dX5_cell_2 : decode cX5_cell 2 = .ok (.invokevirtual 31, 3) := by decide +kernel
theorem dX5_cell_5 : decode cX5_cell 5 = .ok (.ifCond .eq 25, 3) := by decide +kernel
theorem dX5_cell_8 : decode cX5_cell 8 = .ok (.iload_n 2, 1) := by decide +kernel
theorem dX5_cell_9 : decode cX5_cell 9 = .ok (.ifCond .lt 21, 3) := by decide +kernel
theorem dX5_cell_12 : decode cX5_cell 12 = .ok (.iload_n 2, 1) := by decide +kernel
theorem dX5_cell_13 : decode cX5_cell 13 = .ok (.iconst 4, 1) := by decide +kernel
theorem dX5_cell_14 : decode cX5_cell 14 = .ok (.if_icmp .ge 16, 3) := by decide +kernel
theorem dX5_cell_17 : decode cX5_cell 17 = .ok (.aload_n 0, 1) := by decide +kernel
theorem dX5_cell_18 : decode cX5_cell 18 = .ok (.getfield 27, 3) := by decide +kernel
theorem dX5_cell_21 : decode cX5_cell 21 = .ok (.iload_n 1, 1) := by decide +kernel
theorem dX5_cell_22 : decode cX5_cell 22 = .ok (.iconst 4, 1) := by decide +kernel
theorem dX5_cell_23 : decode cX5_cell 23 = .ok (.imul, 1) := by decide +kernel
theorem dX5_cell_24 : decode cX5_cell 24 = .ok (.iload_n 2, 1) := by decide +kernel
theorem dX5_cell_25 : decode cX5_cell 25 = .ok (.iadd, 1) := by decide +kernel
theorem dX5_cell_26 : decode cX5_cell 26 = .ok (.iaload, 1) := by decide +kernel
theorem dX5_cell_27 : decode cX5_cell 27 = .ok (.goto 4, 3) := by decide +kernel
theorem dX5_cell_30 : decode cX5_cell 30 = .ok (.iconst (-1), 1) := by decide +kernel
theorem dX5_cell_31 : decode cX5_cell 31 = .ok (.ireturn, 1) := by decide +kernel
theorem dX5_add_0 : decode cX5_add 0 = .ok (.aload_n 0, 1) := by decide +kernel
theorem dX5_add_1 : decode cX5_add 1 = .ok (.getfield 9, 3) := by decide +kernel
theorem dX5_add_4 : decode cX5_add 4 = .ok (.aload_n 0, 1) := by decide +kernel
theorem dX5_add_5 : decode cX5_add 5 = .ok (.getfield 24, 3) := by decide +kernel
theorem dX5_add_8 : decode cX5_add 8 = .ok (.if_icmp .lt 4, 3) := by decide +kernel
theorem dX5_add_11 : decode cX5_add 11 = .ok (.return_, 1) := by decide +kernel
theorem dX5_add_12 : decode cX5_add 12 = .ok (.aload_n 0, 1) := by decide +kernel
theorem dX5_add_13 : decode cX5_add 13 = .ok (.getfield 9, 3) := by decide +kernel
theorem dX5_add_16 : decode cX5_add 16 = .ok (.iconst 4, 1) := by decide +kernel
theorem dX5_add_17 : decode cX5_add 17 = .ok (.imul, 1) := by decide +kernel
theorem dX5_add_18 : decode cX5_add 18 = .ok (.istore 5, 2) := by decide +kernel
theorem dX5_add_20 : decode cX5_add 20 = .ok (.aload_n 0, 1) := by decide +kernel
theorem dX5_add_21 : decode cX5_add 21 = .ok (.getfield 27, 3) := by decide +kernel
theorem dX5_add_24 : decode cX5_add 24 = .ok (.iload 5, 2) := by decide +kernel
theorem dX5_add_26 : decode cX5_add 26 = .ok (.iload_n 1, 1) := by decide +kernel
theorem dX5_add_27 : decode cX5_add 27 = .ok (.iastore, 1) := by decide +kernel
theorem dX5_add_28 : decode cX5_add 28 = .ok (.aload_n 0, 1) := by decide +kernel
theorem dX5_add_29 : decode cX5_add 29 = .ok (.getfield 27, 3) := by decide +kernel
theorem dX5_add_32 : decode cX5_add 32 = .ok (.iload 5, 2) := by decide +kernel
theorem dX5_add_34 : decode cX5_add 34 = .ok (.iconst 1, 1) := by decide +kernel
theorem dX5_add_35 : decode cX5_add 35 = .ok (.iadd, 1) := by decide +kernel
theorem dX5_add_36 : decode cX5_add 36 = .ok (.iload_n 2, 1) := by decide +kernel
theorem dX5_add_37 : decode cX5_add 37 = .ok (.iastore, 1) := by decide +kernel
theorem dX5_add_38 : decode cX5_add 38 = .ok (.aload_n 0, 1) := by decide +kernel
theorem dX5_add_39 : decode cX5_add 39 = .ok (.getfield 27, 3) := by decide +kernel
theorem dX5_add_42 : decode cX5_add 42 = .ok (.iload 5, 2) := by decide +kernel
theorem dX5_add_44 : decode cX5_add 44 = .ok (.iconst 2, 1) := by decide +kernel
theorem dX5_add_45 : decode cX5_add 45 = .ok (.iadd, 1) := by decide +kernel
theorem dX5_add_46 : decode cX5_add 46 = .ok (.iload_n 3, 1) := by decide +kernel
theorem dX5_add_47 : decode cX5_add 47 = .ok (.iastore, 1) := by decide +kernel
theorem dX5_add_48 : decode cX5_add 48 = .ok (.aload_n 0, 1) := by decide +kernel
theorem dX5_add_49 : decode cX5_add 49 = .ok (.getfield 27, 3) := by decide +kernel
theorem dX5_add_52 : decode cX5_add 52 = .ok (.iload 5, 2) := by decide +kernel
theorem dX5_add_54 : decode cX5_add 54 = .ok (.iconst 3, 1) := by decide +kernel
theorem dX5_add_55 : decode cX5_add 55 = .ok (.iadd, 1) := by decide +kernel
theorem dX5_add_56 : decode cX5_add 56 = .ok (.iload 4, 2) := by decide +kernel
theorem dX5_add_58 : decode cX5_add 58 = .ok (.iastore, 1) := by decide +kernel
theorem dX5_add_59 : decode cX5_add 59 = .ok (.aload_n 0, 1) := by decide +kernel
theorem dX5_add_60 : decode cX5_add 60 = .ok (.dup, 1) := by decide +kernel
theorem dX5_add_61 : decode cX5_add 61 = .ok (.getfield 9, 3) := by decide +kernel
theorem dX5_add_64 : decode cX5_add 64 = .ok (.iconst 1, 1) := by decide +kernel
theorem dX5_add_65 : decode cX5_add 65 = .ok (.iadd, 1) := by decide +kernel
theorem dX5_add_66 : decode cX5_add 66 = .ok (.putfield 9, 3) := by decide +kernel
theorem dX5_add_69 : decode cX5_add 69 = .ok (.return_, 1) := by decide +kernel
theorem dX5_copyFrom_0 : decode cX5_copyFrom 0 = .ok (.aload_n 0, 1) := by decide +kernel
theorem dX5_copyFrom_1 : decode cX5_copyFrom 1 = .ok (.aload_n 1, 1) := by decide +kernel
theorem dX5_copyFrom_2 : decode cX5_copyFrom 2 = .ok (.getfield 9, 3) := by decide +kernel
theorem dX5_copyFrom_5 : decode cX5_copyFrom 5 = .ok (.aload_n 0, 1) := by decide +kernel
theorem dX5_copyFrom_6 : decode cX5_copyFrom 6 = .ok (.getfield 24, 3) := by decide +kernel
theorem dX5_copyFrom_9 : decode cX5_copyFrom 9 = .ok (.invokestatic 15, 3) := by decide +kernel
theorem dX5_copyFrom_12 : decode cX5_copyFrom 12 = .ok (.putfield 9, 3) := by decide +kernel
theorem dX5_copyFrom_15 : decode cX5_copyFrom 15 = .ok (.aload_n 1, 1) := by decide +kernel
theorem dX5_copyFrom_16 : decode cX5_copyFrom 16 = .ok (.getfield 27, 3) := by decide +kernel
theorem dX5_copyFrom_19 : decode cX5_copyFrom 19 = .ok (.iconst 0, 1) := by decide +kernel
theorem dX5_copyFrom_20 : decode cX5_copyFrom 20 = .ok (.aload_n 0, 1) := by decide +kernel
theorem dX5_copyFrom_21 : decode cX5_copyFrom 21 = .ok (.getfield 27, 3) := by decide +kernel
theorem dX5_copyFrom_24 : decode cX5_copyFrom 24 = .ok (.iconst 0, 1) := by decide +kernel
theorem dX5_copyFrom_25 : decode cX5_copyFrom 25 = .ok (.aload_n 0, 1) := by decide +kernel
theorem dX5_copyFrom_26 : decode cX5_copyFrom 26 = .ok (.getfield 9, 3) := by decide +kernel
theorem dX5_copyFrom_29 : decode cX5_copyFrom 29 = .ok (.iconst 4, 1) := by decide +kernel
theorem dX5_copyFrom_30 : decode cX5_copyFrom 30 = .ok (.imul, 1) := by decide +kernel
theorem dX5_copyFrom_31 : decode cX5_copyFrom 31 = .ok (.invokestatic 35, 3) := by decide +kernel
theorem dX5_copyFrom_34 : decode cX5_copyFrom 34 = .ok (.return_, 1) := by decide +kernel
theorem dX6_init_0 : decode cX6_init 0 = .ok (.aload_n 0, 1) := by decide +kernel
theorem dX6_init_1 : decode cX6_init 1 = .ok (.invokespecial 3, 3) := by decide +kernel
theorem dX6_init_4 : decode cX6_init 4 = .ok (.aload_n 0, 1) := by decide +kernel
theorem dX6_init_5 : decode cX6_init 5 = .ok (.bipush 80, 2) := by decide +kernel
theorem dX6_init_7 : decode cX6_init 7 = .ok (.newarray .int, 2) := by decide +kernel
theorem dX6_init_9 : decode cX6_init 9 = .ok (.putfield 9, 3) := by decide +kernel
theorem dX6_init_12 : decode cX6_init 12 = .ok (.aload_n 0, 1) := by decide +kernel
theorem dX6_init_13 : decode cX6_init 13 = .ok (.sipush 1024, 3) := by decide +kernel
theorem dX6_init_16 : decode cX6_init 16 = .ok (.newarray .int, 2) := by decide +kernel
theorem dX6_init_18 : decode cX6_init 18 = .ok (.putfield 15, 3) := by decide +kernel
theorem dX6_init_21 : decode cX6_init 21 = .ok (.return_, 1) := by decide +kernel
theorem dX6_measure_0 : decode cX6_measure 0 = .ok (.iconst 0, 1) := by decide +kernel
theorem dX6_measure_1 : decode cX6_measure 1 = .ok (.istore_n 3, 1) := by decide +kernel
theorem dX6_measure_2 : decode cX6_measure 2 = .ok (.iload_n 3, 1) := by decide +kernel
theorem dX6_measure_3 : decode cX6_measure 3 = .ok (.aload_n 1, 1) := by decide +kernel
theorem dX6_measure_4 : decode cX6_measure 4 = .ok (.getfield 18, 3) := by decide +kernel
theorem dX6_measure_7 : decode cX6_measure 7 = .ok (.if_icmp .ge 54, 3) := by decide +kernel
theorem dX6_measure_10 : decode cX6_measure 10 = .ok (.iconst 0, 1) := by decide +kernel
theorem dX6_measure_11 : decode cX6_measure 11 = .ok (.istore 4, 2) := by decide +kernel
theorem dX6_measure_13 : decode cX6_measure 13 = .ok (.iload 4, 2) := by decide +kernel
theorem dX6_measure_15 : decode cX6_measure 15 = .ok (.aload_n 2, 1) := by decide +kernel
theorem dX6_measure_16 : decode cX6_measure 16 = .ok (.getfield 24, 3) := by decide +kernel
theorem dX6_measure_19 : decode cX6_measure 19 = .ok (.if_icmp .ge 36, 3) := by decide +kernel
theorem dX6_measure_22 : decode cX6_measure 22 = .ok (.iload 4, 2) := by decide +kernel
theorem dX6_measure_24 : decode cX6_measure 24 = .ok (.bipush 8, 2) := by decide +kernel
theorem dX6_measure_26 : decode cX6_measure 26 = .ok (.if_icmp .ge 29, 3) := by decide +kernel
theorem dX6_measure_29 : decode cX6_measure 29 = .ok (.aload_n 0, 1) := by decide +kernel
theorem dX6_measure_30 : decode cX6_measure 30 = .ok (.getfield 9, 3) := by decide +kernel
theorem dX6_measure_33 : decode cX6_measure 33 = .ok (.iload_n 3, 1) := by decide +kernel
theorem dX6_measure_34 : decode cX6_measure 34 = .ok (.bipush 8, 2) := by decide +kernel
theorem dX6_measure_36 : decode cX6_measure 36 = .ok (.imul, 1) := by decide +kernel
theorem dX6_measure_37 : decode cX6_measure 37 = .ok (.iload 4, 2) := by decide +kernel
theorem dX6_measure_39 : decode cX6_measure 39 = .ok (.iadd, 1) := by decide +kernel
theorem dX6_measure_40 : decode cX6_measure 40 = .ok (.aload_n 1, 1) := by decide +kernel
theorem dX6_measure_41 : decode cX6_measure 41 = .ok (.aload_n 2, 1) := by decide +kernel
theorem dX6_measure_42 : decode cX6_measure 42 = .ok (.iload_n 3, 1) := by decide +kernel
theorem dX6_measure_43 : decode cX6_measure 43 = .ok (.iload 4, 2) := by decide +kernel
theorem dX6_measure_45 : decode cX6_measure 45 = .ok (.invokestatic 29, 3) := by decide +kernel
theorem dX6_measure_48 : decode cX6_measure 48 = .ok (.iastore, 1) := by decide +kernel
theorem dX6_measure_49 : decode cX6_measure 49 = .ok (.iinc 4 1, 3) := by decide +kernel
theorem dX6_measure_52 : decode cX6_measure 52 = .ok (.goto (-39), 3) := by decide +kernel
theorem dX6_measure_55 : decode cX6_measure 55 = .ok (.iinc 3 1, 3) := by decide +kernel
theorem dX6_measure_58 : decode cX6_measure 58 = .ok (.goto (-56), 3) := by decide +kernel
theorem dX6_measure_61 : decode cX6_measure 61 = .ok (.return_, 1) := by decide +kernel
theorem dX6_stretch_0 : decode cX6_stretch 0 = .ok (.aload_n 1, 1) := by decide +kernel
theorem dX6_stretch_1 : decode cX6_stretch 1 = .ok (.iload_n 3, 1) := by decide +kernel
theorem dX6_stretch_2 : decode cX6_stretch 2 = .ok (.iconst 2, 1) := by decide +kernel
theorem dX6_stretch_3 : decode cX6_stretch 3 = .ok (.invokevirtual 33, 3) := by decide +kernel
theorem dX6_stretch_6 : decode cX6_stretch 6 = .ok (.istore 4, 2) := by decide +kernel
theorem dX6_stretch_8 : decode cX6_stretch 8 = .ok (.aload_n 0, 1) := by decide +kernel
theorem dX6_stretch_9 : decode cX6_stretch 9 = .ok (.iload 4, 2) := by decide +kernel
theorem dX6_stretch_11 : decode cX6_stretch 11 = .ok (.invokevirtual 37, 3) := by decide +kernel
theorem dX6_stretch_14 : decode cX6_stretch 14 = .ok (.ifCond .ne 5, 3) := by decide +kernel
theorem dX6_stretch_17 : decode cX6_stretch 17 = .ok (.iload_n 3, 1) := by decide +kernel
theorem dX6_stretch_18 : decode cX6_stretch 18 = .ok (.ireturn, 1) := by decide +kernel
theorem dX6_stretch_19 : decode cX6_stretch 19 = .ok (.aload_n 0, 1) := by decide +kernel
theorem dX6_stretch_20 : decode cX6_stretch 20 = .ok (.iload_n 2, 1) := by decide +kernel
theorem dX6_stretch_21 : decode cX6_stretch 21 = .ok (.iload 4, 2) := by decide +kernel
theorem dX6_stretch_23 : decode cX6_stretch 23 = .ok (.invokevirtual 41, 3) := by decide +kernel
theorem dX6_stretch_26 : decode cX6_stretch 26 = .ok (.istore 5, 2) := by decide +kernel
theorem dX6_stretch_28 : decode cX6_stretch 28 = .ok (.iload_n 3, 1) := by decide +kernel
theorem dX6_stretch_29 : decode cX6_stretch 29 = .ok (.istore 6, 2) := by decide +kernel
theorem dX6_stretch_31 : decode cX6_stretch 31 = .ok (.iload 6, 2) := by decide +kernel
theorem dX6_stretch_33 : decode cX6_stretch 33 = .ok (.aload_n 1, 1) := by decide +kernel
theorem dX6_stretch_34 : decode cX6_stretch 34 = .ok (.getfield 24, 3) := by decide +kernel
theorem dX6_stretch_37 : decode cX6_stretch 37 = .ok (.if_icmp .ge 63, 3) := by decide +kernel
theorem dX6_stretch_40 : decode cX6_stretch 40 = .ok (.aload_n 1, 1) := by decide +kernel
theorem dX6_stretch_41 : decode cX6_stretch 41 = .ok (.iload 6, 2) := by decide +kernel
theorem dX6_stretch_43 : decode cX6_stretch 43 = .ok (.iconst 1, 1) := by decide +kernel
theorem dX6_stretch_44 : decode cX6_stretch 44 = .ok (.invokevirtual 33, 3) := by decide +kernel
theorem dX6_stretch_47 : decode cX6_stretch 47 = .ok (.aload_n 1, 1) := by decide +kernel
theorem dX6_stretch_48 : decode cX6_stretch 48 = .ok (.iload_n 3, 1) := by decide +kernel
theorem dX6_stretch_49 : decode cX6_stretch 49 = .ok (.iconst 1, 1) := by decide +kernel
theorem dX6_stretch_50 : decode cX6_stretch 50 = .ok (.invokevirtual 33, 3) := by decide +kernel
theorem dX6_stretch_53 : decode cX6_stretch 53 = .ok (.isub, 1) := by decide +kernel
theorem dX6_stretch_54 : decode cX6_stretch 54 = .ok (.istore 7, 2) := by decide +kernel
theorem dX6_stretch_56 : decode cX6_stretch 56 = .ok (.aload_n 1, 1) := by decide +kernel
theorem dX6_stretch_57 : decode cX6_stretch 57 = .ok (.iload 6, 2) := by decide +kernel
theorem dX6_stretch_59 : decode cX6_stretch 59 = .ok (.iconst 2, 1) := by decide +kernel
theorem dX6_stretch_60 : decode cX6_stretch 60 = .ok (.invokevirtual 33, 3) := by decide +kernel
theorem dX6_stretch_63 : decode cX6_stretch 63 = .ok (.iload 4, 2) := by decide +kernel
theorem dX6_stretch_65 : decode cX6_stretch 65 = .ok (.if_icmp .ne 26, 3) := by decide +kernel
theorem dX6_stretch_68 : decode cX6_stretch 68 = .ok (.iload 5, 2) := by decide +kernel
theorem dX6_stretch_70 : decode cX6_stretch 70 = .ok (.iload 7, 2) := by decide +kernel
theorem dX6_stretch_72 : decode cX6_stretch 72 = .ok (.aload_n 0, 1) := by decide +kernel
theorem dX6_stretch_73 : decode cX6_stretch 73 = .ok (.getfield 44, 3) := by decide +kernel
theorem dX6_stretch_76 : decode cX6_stretch 76 = .ok (.iload 4, 2) := by decide +kernel
theorem dX6_stretch_78 : decode cX6_stretch 78 = .ok (.iaload, 1) := by decide +kernel
theorem dX6_stretch_79 : decode cX6_stretch 79 = .ok (.imul, 1) := by decide +kernel
theorem dX6_stretch_80 : decode cX6_stretch 80 = .ok (.isub, 1) := by decide +kernel
theorem dX6_stretch_81 : decode cX6_stretch 81 = .ok (.aload_n 1, 1) := by decide +kernel
theorem dX6_stretch_82 : decode cX6_stretch 82 = .ok (.iload 6, 2) := by decide +kernel
theorem dX6_stretch_84 : decode cX6_stretch 84 = .ok (.iconst 3, 1) := by decide +kernel
theorem dX6_stretch_85 : decode cX6_stretch 85 = .ok (.invokevirtual 33, 3) := by decide +kernel
theorem dX6_stretch_88 : decode cX6_stretch 88 = .ok (.if_icmp .ge 6, 3) := by decide +kernel
theorem dX6_stretch_91 : decode cX6_stretch 91 = .ok (.iload 6, 2) := by decide +kernel
theorem dX6_stretch_93 : decode cX6_stretch 93 = .ok (.ireturn, 1) := by decide +kernel
theorem dX6_stretch_94 : decode cX6_stretch 94 = .ok (.iinc 6 1, 3) := by decide +kernel
theorem dX6_stretch_97 : decode cX6_stretch 97 = .ok (.goto (-66), 3) := by decide +kernel
theorem dX6_stretch_100 : decode cX6_stretch 100 = .ok (.aload_n 1, 1) := by decide +kernel
theorem dX6_stretch_101 : decode cX6_stretch 101 = .ok (.getfield 24, 3) := by decide +kernel
theorem dX6_stretch_104 : decode cX6_stretch 104 = .ok (.ireturn, 1) := by decide +kernel
theorem dX6_longestServed_0 : decode cX6_longestServed 0 = .ok (.aload_n 0, 1) := by decide +kernel
theorem dX6_longestServed_1 : decode cX6_longestServed 1 = .ok (.aload_n 1, 1) := by decide +kernel
theorem dX6_longestServed_2 : decode cX6_longestServed 2 = .ok (.aload_n 2, 1) := by decide +kernel
theorem dX6_longestServed_3 : decode cX6_longestServed 3 = .ok (.invokevirtual 47, 3) := by decide +kernel
theorem dX6_longestServed_6 : decode cX6_longestServed 6 = .ok (.aload_n 0, 1) := by decide +kernel
theorem dX6_longestServed_7 : decode cX6_longestServed 7 = .ok (.getfield 15, 3) := by decide +kernel
theorem dX6_longestServed_10 : decode cX6_longestServed 10 = .ok (.iconst 0, 1) := by decide +kernel
theorem dX6_longestServed_11 : decode cX6_longestServed 11 = .ok (.iconst 0, 1) := by decide +kernel
theorem dX6_longestServed_12 : decode cX6_longestServed 12 = .ok (.iastore, 1) := by decide +kernel
theorem dX6_longestServed_13 : decode cX6_longestServed 13 = .ok (.iconst 1, 1) := by decide +kernel
theorem dX6_longestServed_14 : decode cX6_longestServed 14 = .ok (.istore_n 3, 1) := by decide +kernel
theorem dX6_longestServed_15 : decode cX6_longestServed 15 = .ok (.iload_n 3, 1) := by decide +kernel
theorem dX6_longestServed_16 : decode cX6_longestServed 16 = .ok (.aload_n 1, 1) := by decide +kernel
theorem dX6_longestServed_17 : decode cX6_longestServed 17 = .ok (.invokevirtual 51, 3) := by decide +kernel
theorem dX6_longestServed_20 : decode cX6_longestServed 20 = .ok (.if_icmp .ge 96, 3) := by decide +kernel
theorem dX6_longestServed_23 : decode cX6_longestServed 23 = .ok (.iconst 0, 1) := by decide +kernel
theorem dX6_longestServed_24 : decode cX6_longestServed 24 = .ok (.istore 4, 2) := by decide +kernel
theorem dX6_longestServed_26 : decode cX6_longestServed 26 = .ok (.iconst 0, 1) := by decide +kernel
theorem dX6_longestServed_27 : decode cX6_longestServed 27 = .ok (.istore 5, 2) := by decide +kernel
theorem dX6_longestServed_29 : decode cX6_longestServed 29 = .ok (.iload 5, 2) := by decide +kernel
theorem dX6_longestServed_31 : decode cX6_longestServed 31 = .ok (.aload_n 1, 1) := by decide +kernel
theorem dX6_longestServed_32 : decode cX6_longestServed 32 = .ok (.getfield 18, 3) := by decide +kernel
theorem dX6_longestServed_35 : decode cX6_longestServed 35 = .ok (.if_icmp .ge 67, 3) := by decide +kernel
theorem dX6_longestServed_38 : decode cX6_longestServed 38 = .ok (.iload_n 3, 1) := by decide +kernel
theorem dX6_longestServed_39 : decode cX6_longestServed 39 = .ok (.iload 5, 2) := by decide +kernel
theorem dX6_longestServed_41 : decode cX6_longestServed 41 = .ok (.invokestatic 55, 3) := by decide +kernel
theorem dX6_longestServed_44 : decode cX6_longestServed 44 = .ok (.ifCond .eq 52, 3) := by decide +kernel
theorem dX6_longestServed_47 : decode cX6_longestServed 47 = .ok (.aload_n 0, 1) := by decide +kernel
theorem dX6_longestServed_48 : decode cX6_longestServed 48 = .ok (.getfield 15, 3) := by decide +kernel
theorem dX6_longestServed_51 : decode cX6_longestServed 51 = .ok (.iload_n 3, 1) := by decide +kernel
theorem dX6_longestServed_52 : decode cX6_longestServed 52 = .ok (.iconst 1, 1) := by decide +kernel
theorem dX6_longestServed_53 : decode cX6_longestServed 53 = .ok (.iload 5, 2) := by decide +kernel
theorem dX6_longestServed_55 : decode cX6_longestServed 55 = .ok (.ishl, 1) := by decide +kernel
theorem dX6_longestServed_56 : decode cX6_longestServed 56 = .ok (.iconst (-1), 1) := by decide +kernel
theorem dX6_longestServed_57 : decode cX6_longestServed 57 = .ok (.ixor, 1) := by decide +kernel
theorem dX6_longestServed_58 : decode cX6_longestServed 58 = .ok (.iand, 1) := by decide +kernel
theorem dX6_longestServed_59 : decode cX6_longestServed 59 = .ok (.iaload, 1) := by decide +kernel
theorem dX6_longestServed_60 : decode cX6_longestServed 60 = .ok (.istore 6, 2) := by decide +kernel
theorem dX6_longestServed_62 : decode cX6_longestServed 62 = .ok (.iload 4, 2) := by decide +kernel
theorem dX6_longestServed_64 : decode cX6_longestServed 64 = .ok (.iload 6, 2) := by decide +kernel
theorem dX6_longestServed_66 : decode cX6_longestServed 66 = .ok (.aload_n 2, 1) := by decide +kernel
theorem dX6_longestServed_67 : decode cX6_longestServed 67 = .ok (.getfield 24, 3) := by decide +kernel
theorem dX6_longestServed_70 : decode cX6_longestServed 70 = .ok (.if_icmp .ge 19, 3) := by decide +kernel
theorem dX6_longestServed_73 : decode cX6_longestServed 73 = .ok (.aload_n 0, 1) := by decide +kernel
theorem dX6_longestServed_74 : decode cX6_longestServed 74 = .ok (.getfield 9, 3) := by decide +kernel
theorem dX6_longestServed_77 : decode cX6_longestServed 77 = .ok (.iload 5, 2) := by decide +kernel
theorem dX6_longestServed_79 : decode cX6_longestServed 79 = .ok (.bipush 8, 2) := by decide +kernel
theorem dX6_longestServed_81 : decode cX6_longestServed 81 = .ok (.imul, 1) := by decide +kernel
theorem dX6_longestServed_82 : decode cX6_longestServed 82 = .ok (.iload 6, 2) := by decide +kernel
theorem dX6_longestServed_84 : decode cX6_longestServed 84 = .ok (.iadd, 1) := by decide +kernel
theorem dX6_longestServed_85 : decode cX6_longestServed 85 = .ok (.iaload, 1) := by decide +kernel
theorem dX6_longestServed_86 : decode cX6_longestServed 86 = .ok (.goto 5, 3) := by decide +kernel
theorem dX6_longestServed_89 : decode cX6_longestServed 89 = .ok (.iload 6, 2) := by decide +kernel
theorem dX6_longestServed_91 : decode cX6_longestServed 91 = .ok (.invokestatic 59, 3) := by decide +kernel
theorem dX6_longestServed_94 : decode cX6_longestServed 94 = .ok (.istore 4, 2) := by decide +kernel
theorem dX6_longestServed_96 : decode cX6_longestServed 96 = .ok (.iinc 5 1, 3) := by decide +kernel
theorem dX6_longestServed_99 : decode cX6_longestServed 99 = .ok (.goto (-70), 3) := by decide +kernel
theorem dX6_longestServed_102 : decode cX6_longestServed 102 = .ok (.aload_n 0, 1) := by decide +kernel
theorem dX6_longestServed_103 : decode cX6_longestServed 103 = .ok (.getfield 15, 3) := by decide +kernel
theorem dX6_longestServed_106 : decode cX6_longestServed 106 = .ok (.iload_n 3, 1) := by decide +kernel
theorem dX6_longestServed_107 : decode cX6_longestServed 107 = .ok (.iload 4, 2) := by decide +kernel
theorem dX6_longestServed_109 : decode cX6_longestServed 109 = .ok (.iastore, 1) := by decide +kernel
theorem dX6_longestServed_110 : decode cX6_longestServed 110 = .ok (.iinc 3 1, 3) := by decide +kernel
theorem dX6_longestServed_113 : decode cX6_longestServed 113 = .ok (.goto (-98), 3) := by decide +kernel
theorem dX6_longestServed_116 : decode cX6_longestServed 116 = .ok (.aload_n 0, 1) := by decide +kernel
theorem dX6_longestServed_117 : decode cX6_longestServed 117 = .ok (.getfield 15, 3) := by decide +kernel
theorem dX6_longestServed_120 : decode cX6_longestServed 120 = .ok (.aload_n 1, 1) := by decide +kernel
theorem dX6_longestServed_121 : decode cX6_longestServed 121 = .ok (.invokevirtual 64, 3) := by decide +kernel
theorem dX6_longestServed_124 : decode cX6_longestServed 124 = .ok (.iaload, 1) := by decide +kernel
theorem dX6_longestServed_125 : decode cX6_longestServed 125 = .ok (.ireturn, 1) := by decide +kernel
theorem dX6_fewestServing_0 : decode cX6_fewestServing 0 = .ok (.aload_n 0, 1) := by decide +kernel
theorem dX6_fewestServing_1 : decode cX6_fewestServing 1 = .ok (.aload_n 1, 1) := by decide +kernel
theorem dX6_fewestServing_2 : decode cX6_fewestServing 2 = .ok (.aload_n 2, 1) := by decide +kernel
theorem dX6_fewestServing_3 : decode cX6_fewestServing 3 = .ok (.invokevirtual 47, 3) := by decide +kernel
theorem dX6_fewestServing_6 : decode cX6_fewestServing 6 = .ok (.aload_n 2, 1) := by decide +kernel
theorem dX6_fewestServing_7 : decode cX6_fewestServing 7 = .ok (.getfield 24, 3) := by decide +kernel
theorem dX6_fewestServing_10 : decode cX6_fewestServing 10 = .ok (.ifCond .ne 7, 3) := by decide +kernel
theorem dX6_fewestServing_13 : decode cX6_fewestServing 13 = .ok (.iconst 0, 1) := by decide +kernel
theorem dX6_fewestServing_14 : decode cX6_fewestServing 14 = .ok (.goto 4, 3) := by decide +kernel
theorem dX6_fewestServing_17 : decode cX6_fewestServing 17 = .ok (.iconst (-1), 1) := by decide +kernel
theorem dX6_fewestServing_18 : decode cX6_fewestServing 18 = .ok (.istore_n 3, 1) := by decide +kernel
theorem dX6_fewestServing_19 : decode cX6_fewestServing 19 = .ok (.aload_n 0, 1) := by decide +kernel
theorem dX6_fewestServing_20 : decode cX6_fewestServing 20 = .ok (.getfield 15, 3) := by decide +kernel
theorem dX6_fewestServing_23 : decode cX6_fewestServing 23 = .ok (.iconst 0, 1) := by decide +kernel
theorem dX6_fewestServing_24 : decode cX6_fewestServing 24 = .ok (.aload_n 2, 1) := by decide +kernel
theorem dX6_fewestServing_25 : decode cX6_fewestServing 25 = .ok (.getfield 24, 3) := by decide +kernel
theorem dX6_fewestServing_28 : decode cX6_fewestServing 28 = .ok (.iastore, 1) := by decide +kernel
theorem dX6_fewestServing_29 : decode cX6_fewestServing 29 = .ok (.iconst 1, 1) := by decide +kernel
theorem dX6_fewestServing_30 : decode cX6_fewestServing 30 = .ok (.istore 4, 2) := by decide +kernel
theorem dX6_fewestServing_32 : decode cX6_fewestServing 32 = .ok (.iload 4, 2) := by decide +kernel
theorem dX6_fewestServing_34 : decode cX6_fewestServing 34 = .ok (.aload_n 1, 1) := by decide +kernel
theorem dX6_fewestServing_35 : decode cX6_fewestServing 35 = .ok (.invokevirtual 51, 3) := by decide +kernel
theorem dX6_fewestServing_38 : decode cX6_fewestServing 38 = .ok (.if_icmp .ge 105, 3) := by decide +kernel
theorem dX6_fewestServing_41 : decode cX6_fewestServing 41 = .ok (.aload_n 2, 1) := by decide +kernel
theorem dX6_fewestServing_42 : decode cX6_fewestServing 42 = .ok (.getfield 24, 3) := by decide +kernel
theorem dX6_fewestServing_45 : decode cX6_fewestServing 45 = .ok (.istore 5, 2) := by decide +kernel
theorem dX6_fewestServing_47 : decode cX6_fewestServing 47 = .ok (.iconst 0, 1) := by decide +kernel
theorem dX6_fewestServing_48 : decode cX6_fewestServing 48 = .ok (.istore 6, 2) := by decide +kernel
theorem dX6_fewestServing_50 : decode cX6_fewestServing 50 = .ok (.iload 6, 2) := by decide +kernel
theorem dX6_fewestServing_52 : decode cX6_fewestServing 52 = .ok (.aload_n 1, 1) := by decide +kernel
theorem dX6_fewestServing_53 : decode cX6_fewestServing 53 = .ok (.getfield 18, 3) := by decide +kernel
theorem dX6_fewestServing_56 : decode cX6_fewestServing 56 = .ok (.if_icmp .ge 46, 3) := by decide +kernel
theorem dX6_fewestServing_59 : decode cX6_fewestServing 59 = .ok (.iload 4, 2) := by decide +kernel
theorem dX6_fewestServing_61 : decode cX6_fewestServing 61 = .ok (.iload 6, 2) := by decide +kernel
theorem dX6_fewestServing_63 : decode cX6_fewestServing 63 = .ok (.invokestatic 55, 3) := by decide +kernel
theorem dX6_fewestServing_66 : decode cX6_fewestServing 66 = .ok (.ifCond .eq 30, 3) := by decide +kernel
theorem dX6_fewestServing_69 : decode cX6_fewestServing 69 = .ok (.iload 5, 2) := by decide +kernel
theorem dX6_fewestServing_71 : decode cX6_fewestServing 71 = .ok (.aload_n 0, 1) := by decide +kernel
theorem dX6_fewestServing_72 : decode cX6_fewestServing 72 = .ok (.iload 6, 2) := by decide +kernel
theorem dX6_fewestServing_74 : decode cX6_fewestServing 74 = .ok (.aload_n 0, 1) := by decide +kernel
theorem dX6_fewestServing_75 : decode cX6_fewestServing 75 = .ok (.getfield 15, 3) := by decide +kernel
theorem dX6_fewestServing_78 : decode cX6_fewestServing 78 = .ok (.iload 4, 2) := by decide +kernel
theorem dX6_fewestServing_80 : decode cX6_fewestServing 80 = .ok (.iconst 1, 1) := by decide +kernel
theorem dX6_fewestServing_81 : decode cX6_fewestServing 81 = .ok (.iload 6, 2) := by decide +kernel
theorem dX6_fewestServing_83 : decode cX6_fewestServing 83 = .ok (.ishl, 1) := by decide +kernel
theorem dX6_fewestServing_84 : decode cX6_fewestServing 84 = .ok (.iconst (-1), 1) := by decide +kernel
theorem dX6_fewestServing_85 : decode cX6_fewestServing 85 = .ok (.ixor, 1) := by decide +kernel
theorem dX6_fewestServing_86 : decode cX6_fewestServing 86 = .ok (.iand, 1) := by decide +kernel
theorem dX6_fewestServing_87 : decode cX6_fewestServing 87 = .ok (.iaload, 1) := by decide +kernel
theorem dX6_fewestServing_88 : decode cX6_fewestServing 88 = .ok (.invokevirtual 67, 3) := by decide +kernel
theorem dX6_fewestServing_91 : decode cX6_fewestServing 91 = .ok (.invokestatic 70, 3) := by decide +kernel
theorem dX6_fewestServing_94 : decode cX6_fewestServing 94 = .ok (.istore 5, 2) := by decide +kernel
theorem dX6_fewestServing_96 : decode cX6_fewestServing 96 = .ok (.iinc 6 1, 3) := by decide +kernel
theorem dX6_fewestServing_99 : decode cX6_fewestServing 99 = .ok (.goto (-49), 3) := by decide +kernel
theorem dX6_fewestServing_102 : decode cX6_fewestServing 102 = .ok (.aload_n 0, 1) := by decide +kernel
theorem dX6_fewestServing_103 : decode cX6_fewestServing 103 = .ok (.getfield 15, 3) := by decide +kernel
theorem dX6_fewestServing_106 : decode cX6_fewestServing 106 = .ok (.iload 4, 2) := by decide +kernel
theorem dX6_fewestServing_108 : decode cX6_fewestServing 108 = .ok (.iload 5, 2) := by decide +kernel
theorem dX6_fewestServing_110 : decode cX6_fewestServing 110 = .ok (.iastore, 1) := by decide +kernel
theorem dX6_fewestServing_111 : decode cX6_fewestServing 111 = .ok (.iload 4, 2) := by decide +kernel
theorem dX6_fewestServing_113 : decode cX6_fewestServing 113 = .ok (.invokestatic 73, 3) := by decide +kernel
theorem dX6_fewestServing_116 : decode cX6_fewestServing 116 = .ok (.istore 6, 2) := by decide +kernel
theorem dX6_fewestServing_118 : decode cX6_fewestServing 118 = .ok (.iload 5, 2) := by decide +kernel
theorem dX6_fewestServing_120 : decode cX6_fewestServing 120 = .ok (.ifCond .ne 17, 3) := by decide +kernel
theorem dX6_fewestServing_123 : decode cX6_fewestServing 123 = .ok (.iload_n 3, 1) := by decide +kernel
theorem dX6_fewestServing_124 : decode cX6_fewestServing 124 = .ok (.iconst (-1), 1) := by decide +kernel
theorem dX6_fewestServing_125 : decode cX6_fewestServing 125 = .ok (.if_icmp .eq 9, 3) := by decide +kernel
theorem dX6_fewestServing_128 : decode cX6_fewestServing 128 = .ok (.iload 6, 2) := by decide +kernel
theorem dX6_fewestServing_130 : decode cX6_fewestServing 130 = .ok (.iload_n 3, 1) := by decide +kernel
theorem dX6_fewestServing_131 : decode cX6_fewestServing 131 = .ok (.if_icmp .ge 6, 3) := by decide +kernel
theorem dX6_fewestServing_134 : decode cX6_fewestServing 134 = .ok (.iload 6, 2) := by decide +kernel
theorem dX6_fewestServing_136 : decode cX6_fewestServing 136 = .ok (.istore_n 3, 1) := by decide +kernel
theorem dX6_fewestServing_137 : decode cX6_fewestServing 137 = .ok (.iinc 4 1, 3) := by decide +kernel
theorem dX6_fewestServing_140 : decode cX6_fewestServing 140 = .ok (.goto (-108), 3) := by decide +kernel
theorem dX6_fewestServing_143 : decode cX6_fewestServing 143 = .ok (.iload_n 3, 1) := by decide +kernel
theorem dX6_fewestServing_144 : decode cX6_fewestServing 144 = .ok (.ireturn, 1) := by decide +kernel
theorem dX6_startServing_0 : decode cX6_startServing 0 = .ok (.iload_n 2, 1) := by decide +kernel
theorem dX6_startServing_1 : decode cX6_startServing 1 = .ok (.istore_n 3, 1) := by decide +kernel
theorem dX6_startServing_2 : decode cX6_startServing 2 = .ok (.iload_n 3, 1) := by decide +kernel
theorem dX6_startServing_3 : decode cX6_startServing 3 = .ok (.ifCond .le 26, 3) := by decide +kernel
theorem dX6_startServing_6 : decode cX6_startServing 6 = .ok (.aload_n 0, 1) := by decide +kernel
theorem dX6_startServing_7 : decode cX6_startServing 7 = .ok (.getfield 9, 3) := by decide +kernel
theorem dX6_startServing_10 : decode cX6_startServing 10 = .ok (.iload_n 1, 1) := by decide +kernel
theorem dX6_startServing_11 : decode cX6_startServing 11 = .ok (.bipush 8, 2) := by decide +kernel
theorem dX6_startServing_13 : decode cX6_startServing 13 = .ok (.imul, 1) := by decide +kernel
theorem dX6_startServing_14 : decode cX6_startServing 14 = .ok (.iload_n 3, 1) := by decide +kernel
theorem dX6_startServing_15 : decode cX6_startServing 15 = .ok (.iadd, 1) := by decide +kernel
theorem dX6_startServing_16 : decode cX6_startServing 16 = .ok (.iconst 1, 1) := by decide +kernel
theorem dX6_startServing_17 : decode cX6_startServing 17 = .ok (.isub, 1) := by decide +kernel
theorem dX6_startServing_18 : decode cX6_startServing 18 = .ok (.iaload, 1) := by decide +kernel
theorem dX6_startServing_19 : decode cX6_startServing 19 = .ok (.iload_n 2, 1) := by decide +kernel
theorem dX6_startServing_20 : decode cX6_startServing 20 = .ok (.if_icmp .lt 9, 3) := by decide +kernel
theorem dX6_startServing_23 : decode cX6_startServing 23 = .ok (.iinc 3 (-1), 3) := by decide +kernel
theorem dX6_startServing_26 : decode cX6_startServing 26 = .ok (.goto (-24), 3) := by decide +kernel
theorem dX6_startServing_29 : decode cX6_startServing 29 = .ok (.iload_n 3, 1) := by decide +kernel
theorem dX6_startServing_30 : decode cX6_startServing 30 = .ok (.ireturn, 1) := by decide +kernel
theorem dX6_startOfRest_0 : decode cX6_startOfRest 0 = .ok (.aload_n 0, 1) := by decide +kernel
theorem dX6_startOfRest_1 : decode cX6_startOfRest 1 = .ok (.getfield 15, 3) := by decide +kernel
theorem dX6_startOfRest_4 : decode cX6_startOfRest 4 = .ok (.iconst 0, 1) := by decide +kernel
theorem dX6_startOfRest_5 : decode cX6_startOfRest 5 = .ok (.iaload, 1) := by decide +kernel
theorem dX6_startOfRest_6 : decode cX6_startOfRest 6 = .ok (.istore 4, 2) := by decide +kernel
theorem dX6_startOfRest_8 : decode cX6_startOfRest 8 = .ok (.iconst 1, 1) := by decide +kernel
theorem dX6_startOfRest_9 : decode cX6_startOfRest 9 = .ok (.istore 5, 2) := by decide +kernel
theorem dX6_startOfRest_11 : decode cX6_startOfRest 11 = .ok (.iload 5, 2) := by decide +kernel
theorem dX6_startOfRest_13 : decode cX6_startOfRest 13 = .ok (.iload_n 3, 1) := by decide +kernel
theorem dX6_startOfRest_14 : decode cX6_startOfRest 14 = .ok (.if_icmp .ge 48, 3) := by decide +kernel
theorem dX6_startOfRest_17 : decode cX6_startOfRest 17 = .ok (.iload 5, 2) := by decide +kernel
theorem dX6_startOfRest_19 : decode cX6_startOfRest 19 = .ok (.iload_n 1, 1) := by decide +kernel
theorem dX6_startOfRest_20 : decode cX6_startOfRest 20 = .ok (.iconst (-1), 1) := by decide +kernel
theorem dX6_startOfRest_21 : decode cX6_startOfRest 21 = .ok (.ixor, 1) := by decide +kernel
theorem dX6_startOfRest_22 : decode cX6_startOfRest 22 = .ok (.iand, 1) := by decide +kernel
theorem dX6_startOfRest_23 : decode cX6_startOfRest 23 = .ok (.ifCond .ne 33, 3) := by decide +kernel
theorem dX6_startOfRest_26 : decode cX6_startOfRest 26 = .ok (.aload_n 0, 1) := by decide +kernel
theorem dX6_startOfRest_27 : decode cX6_startOfRest 27 = .ok (.getfield 15, 3) := by decide +kernel
theorem dX6_startOfRest_30 : decode cX6_startOfRest 30 = .ok (.iload 5, 2) := by decide +kernel
theorem dX6_startOfRest_32 : decode cX6_startOfRest 32 = .ok (.iaload, 1) := by decide +kernel
theorem dX6_startOfRest_33 : decode cX6_startOfRest 33 = .ok (.iload 4, 2) := by decide +kernel
theorem dX6_startOfRest_35 : decode cX6_startOfRest 35 = .ok (.if_icmp .ge 21, 3) := by decide +kernel
theorem dX6_startOfRest_38 : decode cX6_startOfRest 38 = .ok (.iload 5, 2) := by decide +kernel
theorem dX6_startOfRest_40 : decode cX6_startOfRest 40 = .ok (.invokestatic 73, 3) := by decide +kernel
theorem dX6_startOfRest_43 : decode cX6_startOfRest 43 = .ok (.iload_n 2, 1) := by decide +kernel
theorem dX6_startOfRest_44 : decode cX6_startOfRest 44 = .ok (.if_icmp .gt 12, 3) := by decide +kernel
theorem dX6_startOfRest_47 : decode cX6_startOfRest 47 = .ok (.aload_n 0, 1) := by decide +kernel
theorem dX6_startOfRest_48 : decode cX6_startOfRest 48 = .ok (.getfield 15, 3) := by decide +kernel
theorem dX6_startOfRest_51 : decode cX6_startOfRest 51 = .ok (.iload 5, 2) := by decide +kernel
theorem dX6_startOfRest_53 : decode cX6_startOfRest 53 = .ok (.iaload, 1) := by decide +kernel
theorem dX6_startOfRest_54 : decode cX6_startOfRest 54 = .ok (.istore 4, 2) := by decide +kernel
theorem dX6_startOfRest_56 : decode cX6_startOfRest 56 = .ok (.iinc 5 1, 3) := by decide +kernel
theorem dX6_startOfRest_59 : decode cX6_startOfRest 59 = .ok (.goto (-48), 3) := by decide +kernel
theorem dX6_startOfRest_62 : decode cX6_startOfRest 62 = .ok (.iload 4, 2) := by decide +kernel
theorem dX6_startOfRest_64 : decode cX6_startOfRest 64 = .ok (.ireturn, 1) := by decide +kernel
theorem dX6_toldAhead_0 : decode cX6_toldAhead 0 = .ok (.aload_n 1, 1) := by decide +kernel
theorem dX6_toldAhead_1 : decode cX6_toldAhead 1 = .ok (.invokevirtual 64, 3) := by decide +kernel
theorem dX6_toldAhead_4 : decode cX6_toldAhead 4 = .ok (.istore 5, 2) := by decide +kernel
theorem dX6_toldAhead_6 : decode cX6_toldAhead 6 = .ok (.iconst 0, 1) := by decide +kernel
theorem dX6_toldAhead_7 : decode cX6_toldAhead 7 = .ok (.istore 6, 2) := by decide +kernel
theorem dX6_toldAhead_9 : decode cX6_toldAhead 9 = .ok (.iload_n 3, 1) := by decide +kernel
theorem dX6_toldAhead_10 : decode cX6_toldAhead 10 = .ok (.iconst 1, 1) := by decide +kernel
theorem dX6_toldAhead_11 : decode cX6_toldAhead 11 = .ok (.isub, 1) := by decide +kernel
theorem dX6_toldAhead_12 : decode cX6_toldAhead 12 = .ok (.istore 7, 2) := by decide +kernel
theorem dX6_toldAhead_14 : decode cX6_toldAhead 14 = .ok (.iload 7, 2) := by decide +kernel
theorem dX6_toldAhead_16 : decode cX6_toldAhead 16 = .ok (.ifCond .lt 148, 3) := by decide +kernel
theorem dX6_toldAhead_19 : decode cX6_toldAhead 19 = .ok (.iload 6, 2) := by decide +kernel
theorem dX6_toldAhead_21 : decode cX6_toldAhead 21 = .ok (.iload 4, 2) := by decide +kernel
theorem dX6_toldAhead_23 : decode cX6_toldAhead 23 = .ok (.if_icmp .gt 141, 3) := by decide +kernel
theorem dX6_toldAhead_26 : decode cX6_toldAhead 26 = .ok (.iconst 0, 1) := by decide +kernel
theorem dX6_toldAhead_27 : decode cX6_toldAhead 27 = .ok (.istore 8, 2) := by decide +kernel
theorem dX6_toldAhead_29 : decode cX6_toldAhead 29 = .ok (.iload 8, 2) := by decide +kernel
theorem dX6_toldAhead_31 : decode cX6_toldAhead 31 = .ok (.aload_n 1, 1) := by decide +kernel
theorem dX6_toldAhead_32 : decode cX6_toldAhead 32 = .ok (.getfield 18, 3) := by decide +kernel
theorem dX6_toldAhead_35 : decode cX6_toldAhead 35 = .ok (.if_icmp .ge 123, 3) := by decide +kernel
theorem dX6_toldAhead_38 : decode cX6_toldAhead 38 = .ok (.iload 6, 2) := by decide +kernel
theorem dX6_toldAhead_40 : decode cX6_toldAhead 40 = .ok (.aload_n 2, 1) := by decide +kernel
theorem dX6_toldAhead_41 : decode cX6_toldAhead 41 = .ok (.getfield 24, 3) := by decide +kernel
theorem dX6_toldAhead_44 : decode cX6_toldAhead 44 = .ok (.if_icmp .ge 114, 3) := by decide +kernel
theorem dX6_toldAhead_47 : decode cX6_toldAhead 47 = .ok (.iload 5, 2) := by decide +kernel
theorem dX6_toldAhead_49 : decode cX6_toldAhead 49 = .ok (.iload 8, 2) := by decide +kernel
theorem dX6_toldAhead_51 : decode cX6_toldAhead 51 = .ok (.invokestatic 55, 3) := by decide +kernel
theorem dX6_toldAhead_54 : decode cX6_toldAhead 54 = .ok (.ifCond .eq 98, 3) := by decide +kernel
theorem dX6_toldAhead_57 : decode cX6_toldAhead 57 = .ok (.aload_n 0, 1) := by decide +kernel
theorem dX6_toldAhead_58 : decode cX6_toldAhead 58 = .ok (.getfield 9, 3) := by decide +kernel
theorem dX6_toldAhead_61 : decode cX6_toldAhead 61 = .ok (.iload 8, 2) := by decide +kernel
theorem dX6_toldAhead_63 : decode cX6_toldAhead 63 = .ok (.bipush 8, 2) := by decide +kernel
theorem dX6_toldAhead_65 : decode cX6_toldAhead 65 = .ok (.imul, 1) := by decide +kernel
theorem dX6_toldAhead_66 : decode cX6_toldAhead 66 = .ok (.iload 6, 2) := by decide +kernel
theorem dX6_toldAhead_68 : decode cX6_toldAhead 68 = .ok (.iadd, 1) := by decide +kernel
theorem dX6_toldAhead_69 : decode cX6_toldAhead 69 = .ok (.iaload, 1) := by decide +kernel
theorem dX6_toldAhead_70 : decode cX6_toldAhead 70 = .ok (.iload 6, 2) := by decide +kernel
theorem dX6_toldAhead_72 : decode cX6_toldAhead 72 = .ok (.if_icmp .ne 6, 3) := by decide +kernel
theorem dX6_toldAhead_75 : decode cX6_toldAhead 75 = .ok (.goto 77, 3) := by decide +kernel
theorem dX6_toldAhead_78 : decode cX6_toldAhead 78 = .ok (.aload_n 0, 1) := by decide +kernel
theorem dX6_toldAhead_79 : decode cX6_toldAhead 79 = .ok (.iload 5, 2) := by decide +kernel
theorem dX6_toldAhead_81 : decode cX6_toldAhead 81 = .ok (.iconst 1, 1) := by decide +kernel
theorem dX6_toldAhead_82 : decode cX6_toldAhead 82 = .ok (.iload 8, 2) := by decide +kernel
theorem dX6_toldAhead_84 : decode cX6_toldAhead 84 = .ok (.ishl, 1) := by decide +kernel
theorem dX6_toldAhead_85 : decode cX6_toldAhead 85 = .ok (.iconst (-1), 1) := by decide +kernel
theorem dX6_toldAhead_86 : decode cX6_toldAhead 86 = .ok (.ixor, 1) := by decide +kernel
theorem dX6_toldAhead_87 : decode cX6_toldAhead 87 = .ok (.iand, 1) := by decide +kernel
theorem dX6_toldAhead_88 : decode cX6_toldAhead 88 = .ok (.iload 7, 2) := by decide +kernel
theorem dX6_toldAhead_90 : decode cX6_toldAhead 90 = .ok (.aload_n 1, 1) := by decide +kernel
theorem dX6_toldAhead_91 : decode cX6_toldAhead 91 = .ok (.invokevirtual 51, 3) := by decide +kernel
theorem dX6_toldAhead_94 : decode cX6_toldAhead 94 = .ok (.invokevirtual 79, 3) := by decide +kernel
theorem dX6_toldAhead_97 : decode cX6_toldAhead 97 = .ok (.istore 9, 2) := by decide +kernel
theorem dX6_toldAhead_99 : decode cX6_toldAhead 99 = .ok (.aload_n 0, 1) := by decide +kernel
theorem dX6_toldAhead_100 : decode cX6_toldAhead 100 = .ok (.getfield 9, 3) := by decide +kernel
theorem dX6_toldAhead_103 : decode cX6_toldAhead 103 = .ok (.iload 8, 2) := by decide +kernel
theorem dX6_toldAhead_105 : decode cX6_toldAhead 105 = .ok (.bipush 8, 2) := by decide +kernel
theorem dX6_toldAhead_107 : decode cX6_toldAhead 107 = .ok (.imul, 1) := by decide +kernel
theorem dX6_toldAhead_108 : decode cX6_toldAhead 108 = .ok (.iload 6, 2) := by decide +kernel
theorem dX6_toldAhead_110 : decode cX6_toldAhead 110 = .ok (.iadd, 1) := by decide +kernel
theorem dX6_toldAhead_111 : decode cX6_toldAhead 111 = .ok (.iaload, 1) := by decide +kernel
theorem dX6_toldAhead_112 : decode cX6_toldAhead 112 = .ok (.iload 9, 2) := by decide +kernel
theorem dX6_toldAhead_114 : decode cX6_toldAhead 114 = .ok (.if_icmp .lt 38, 3) := by decide +kernel
theorem dX6_toldAhead_117 : decode cX6_toldAhead 117 = .ok (.iload 6, 2) := by decide +kernel
theorem dX6_toldAhead_119 : decode cX6_toldAhead 119 = .ok (.iload 4, 2) := by decide +kernel
theorem dX6_toldAhead_121 : decode cX6_toldAhead 121 = .ok (.if_icmp .ne 6, 3) := by decide +kernel
theorem dX6_toldAhead_124 : decode cX6_toldAhead 124 = .ok (.iload 8, 2) := by decide +kernel
theorem dX6_toldAhead_126 : decode cX6_toldAhead 126 = .ok (.ireturn, 1) := by decide +kernel
theorem dX6_toldAhead_127 : decode cX6_toldAhead 127 = .ok (.iload 5, 2) := by decide +kernel
theorem dX6_toldAhead_129 : decode cX6_toldAhead 129 = .ok (.iconst 1, 1) := by decide +kernel
theorem dX6_toldAhead_130 : decode cX6_toldAhead 130 = .ok (.iload 8, 2) := by decide +kernel
theorem dX6_toldAhead_132 : decode cX6_toldAhead 132 = .ok (.ishl, 1) := by decide +kernel
theorem dX6_toldAhead_133 : decode cX6_toldAhead 133 = .ok (.iconst (-1), 1) := by decide +kernel
theorem dX6_toldAhead_134 : decode cX6_toldAhead 134 = .ok (.ixor, 1) := by decide +kernel
theorem dX6_toldAhead_135 : decode cX6_toldAhead 135 = .ok (.iand, 1) := by decide +kernel
theorem dX6_toldAhead_136 : decode cX6_toldAhead 136 = .ok (.istore 5, 2) := by decide +kernel
theorem dX6_toldAhead_138 : decode cX6_toldAhead 138 = .ok (.iload 6, 2) := by decide +kernel
theorem dX6_toldAhead_140 : decode cX6_toldAhead 140 = .ok (.iconst 1, 1) := by decide +kernel
theorem dX6_toldAhead_141 : decode cX6_toldAhead 141 = .ok (.iadd, 1) := by decide +kernel
theorem dX6_toldAhead_142 : decode cX6_toldAhead 142 = .ok (.iload 9, 2) := by decide +kernel
theorem dX6_toldAhead_144 : decode cX6_toldAhead 144 = .ok (.invokestatic 59, 3) := by decide +kernel
theorem dX6_toldAhead_147 : decode cX6_toldAhead 147 = .ok (.istore 6, 2) := by decide +kernel
theorem dX6_toldAhead_149 : decode cX6_toldAhead 149 = .ok (.goto 9, 3) := by decide +kernel
theorem dX6_toldAhead_152 : decode cX6_toldAhead 152 = .ok (.iinc 8 1, 3) := by decide +kernel
theorem dX6_toldAhead_155 : decode cX6_toldAhead 155 = .ok (.goto (-126), 3) := by decide +kernel
theorem dX6_toldAhead_158 : decode cX6_toldAhead 158 = .ok (.iinc 7 (-1), 3) := by decide +kernel
theorem dX6_toldAhead_161 : decode cX6_toldAhead 161 = .ok (.goto (-147), 3) := by decide +kernel
theorem dX6_toldAhead_164 : decode cX6_toldAhead 164 = .ok (.bipush 10, 2) := by decide +kernel
theorem dX6_toldAhead_166 : decode cX6_toldAhead 166 = .ok (.ireturn, 1) := by decide +kernel
theorem dX7_init_0 : decode cX7_init 0 = .ok (.aload_n 0, 1) := by decide +kernel
theorem dX7_init_1 : decode cX7_init 1 = .ok (.invokespecial 3, 3) := by decide +kernel
theorem dX7_init_4 : decode cX7_init 4 = .ok (.aload_n 0, 1) := by decide +kernel
theorem dX7_init_5 : decode cX7_init 5 = .ok (.sipush 256, 3) := by decide +kernel
theorem dX7_init_8 : decode cX7_init 8 = .ok (.newarray .int, 2) := by decide +kernel
theorem dX7_init_10 : decode cX7_init 10 = .ok (.putfield 9, 3) := by decide +kernel
theorem dX7_init_13 : decode cX7_init 13 = .ok (.return_, 1) := by decide +kernel
theorem dX7_spoil_0 : decode cX7_spoil 0 = .ok (.iconst 0, 1) := by decide +kernel
theorem dX7_spoil_1 : decode cX7_spoil 1 = .ok (.istore_n 2, 1) := by decide +kernel
theorem dX7_spoil_2 : decode cX7_spoil 2 = .ok (.iload_n 2, 1) := by decide +kernel
theorem dX7_spoil_3 : decode cX7_spoil 3 = .ok (.aload_n 1, 1) := by decide +kernel
theorem dX7_spoil_4 : decode cX7_spoil 4 = .ok (.invokevirtual 15, 3) := by decide +kernel
theorem dX7_spoil_7 : decode cX7_spoil 7 = .ok (.if_icmp .gt 68, 3) := by decide +kernel
theorem dX7_spoil_10 : decode cX7_spoil 10 = .ok (.iconst 0, 1) := by decide +kernel
theorem dX7_spoil_11 : decode cX7_spoil 11 = .ok (.istore_n 3, 1) := by decide +kernel
theorem dX7_spoil_12 : decode cX7_spoil 12 = .ok (.iconst 0, 1) := by decide +kernel
theorem dX7_spoil_13 : decode cX7_spoil 13 = .ok (.istore 4, 2) := by decide +kernel
theorem dX7_spoil_15 : decode cX7_spoil 15 = .ok (.iload 4, 2) := by decide +kernel
theorem dX7_spoil_17 : decode cX7_spoil 17 = .ok (.aload_n 1, 1) := by decide +kernel
theorem dX7_spoil_18 : decode cX7_spoil 18 = .ok (.getfield 21, 3) := by decide +kernel
theorem dX7_spoil_21 : decode cX7_spoil 21 = .ok (.if_icmp .ge 32, 3) := by decide +kernel
theorem dX7_spoil_24 : decode cX7_spoil 24 = .ok (.iload_n 3, 1) := by decide +kernel
theorem dX7_spoil_25 : decode cX7_spoil 25 = .ok (.iload_n 2, 1) := by decide +kernel
theorem dX7_spoil_26 : decode cX7_spoil 26 = .ok (.iload 4, 2) := by decide +kernel
theorem dX7_spoil_28 : decode cX7_spoil 28 = .ok (.invokestatic 25, 3) := by decide +kernel
theorem dX7_spoil_31 : decode cX7_spoil 31 = .ok (.ifCond .eq 13, 3) := by decide +kernel
theorem dX7_spoil_34 : decode cX7_spoil 34 = .ok (.aload_n 1, 1) := by decide +kernel
theorem dX7_spoil_35 : decode cX7_spoil 35 = .ok (.getfield 29, 3) := by decide +kernel
theorem dX7_spoil_38 : decode cX7_spoil 38 = .ok (.iload 4, 2) := by decide +kernel
theorem dX7_spoil_40 : decode cX7_spoil 40 = .ok (.iaload, 1) := by decide +kernel
theorem dX7_spoil_41 : decode cX7_spoil 41 = .ok (.goto 4, 3) := by decide +kernel
theorem dX7_spoil_44 : decode cX7_spoil 44 = .ok (.iconst 0, 1) := by decide +kernel
theorem dX7_spoil_45 : decode cX7_spoil 45 = .ok (.ior, 1) := by decide +kernel
theorem dX7_spoil_46 : decode cX7_spoil 46 = .ok (.istore_n 3, 1) := by decide +kernel
theorem dX7_spoil_47 : decode cX7_spoil 47 = .ok (.iinc 4 1, 3) := by decide +kernel
theorem dX7_spoil_50 : decode cX7_spoil 50 = .ok (.goto (-35), 3) := by decide +kernel
theorem dX7_spoil_53 : decode cX7_spoil 53 = .ok (.aload_n 0, 1) := by decide +kernel
theorem dX7_spoil_54 : decode cX7_spoil 54 = .ok (.getfield 9, 3) := by decide +kernel
theorem dX7_spoil_57 : decode cX7_spoil 57 = .ok (.iload_n 2, 1) := by decide +kernel
theorem dX7_spoil_58 : decode cX7_spoil 58 = .ok (.aload_n 1, 1) := by decide +kernel
theorem dX7_spoil_59 : decode cX7_spoil 59 = .ok (.aload_n 1, 1) := by decide +kernel
theorem dX7_spoil_60 : decode cX7_spoil 60 = .ok (.iload_n 3, 1) := by decide +kernel
theorem dX7_spoil_61 : decode cX7_spoil 61 = .ok (.iconst (-1), 1) := by decide +kernel
theorem dX7_spoil_62 : decode cX7_spoil 62 = .ok (.invokevirtual 32, 3) := by decide +kernel
theorem dX7_spoil_65 : decode cX7_spoil 65 = .ok (.invokevirtual 36, 3) := by decide +kernel
theorem dX7_spoil_68 : decode cX7_spoil 68 = .ok (.iastore, 1) := by decide +kernel
theorem dX7_spoil_69 : decode cX7_spoil 69 = .ok (.iinc 2 1, 3) := by decide +kernel
theorem dX7_spoil_72 : decode cX7_spoil 72 = .ok (.goto (-70), 3) := by decide +kernel
theorem dX7_spoil_75 : decode cX7_spoil 75 = .ok (.return_, 1) := by decide +kernel
theorem dX7_got_0 : decode cX7_got 0 = .ok (.iload_n 1, 1) := by decide +kernel
theorem dX7_got_1 : decode cX7_got 1 = .ok (.ifCond .lt 19, 3) := by decide +kernel
theorem dX7_got_4 : decode cX7_got 4 = .ok (.iload_n 1, 1) := by decide +kernel
theorem dX7_got_5 : decode cX7_got 5 = .ok (.sipush 256, 3) := by decide +kernel
theorem dX7_got_8 : decode cX7_got 8 = .ok (.if_icmp .ge 12, 3) := by decide +kernel
theorem dX7_got_11 : decode cX7_got 11 = .ok (.aload_n 0, 1) := by decide +kernel
theorem dX7_got_12 : decode cX7_got 12 = .ok (.getfield 9, 3) := by decide +kernel
theorem dX7_got_15 : decode cX7_got 15 = .ok (.iload_n 1, 1) := by decide +kernel
theorem dX7_got_16 : decode cX7_got 16 = .ok (.iaload, 1) := by decide +kernel
theorem dX7_got_17 : decode cX7_got 17 = .ok (.goto 4, 3) := by decide +kernel
theorem dX7_got_20 : decode cX7_got 20 = .ok (.iconst 0, 1) := by decide +kernel
theorem dX7_got_21 : decode cX7_got 21 = .ok (.ireturn, 1) := by decide +kernel
theorem dX7_bestPieces_0 : decode cX7_bestPieces 0 = .ok (.iconst 0, 1) := by decide +kernel
theorem dX7_bestPieces_1 : decode cX7_bestPieces 1 = .ok (.istore_n 3, 1) := by decide +kernel
theorem dX7_bestPieces_2 : decode cX7_bestPieces 2 = .ok (.iconst 0, 1) := by decide +kernel
theorem dX7_bestPieces_3 : decode cX7_bestPieces 3 = .ok (.istore 4, 2) := by decide +kernel
theorem dX7_bestPieces_5 : decode cX7_bestPieces 5 = .ok (.iconst 1, 1) := by decide +kernel
theorem dX7_bestPieces_6 : decode cX7_bestPieces 6 = .ok (.istore 5, 2) := by decide +kernel
theorem dX7_bestPieces_8 : decode cX7_bestPieces 8 = .ok (.iload 5, 2) := by decide +kernel
theorem dX7_bestPieces_10 : decode cX7_bestPieces 10 = .ok (.sipush 256, 3) := by decide +kernel
theorem dX7_bestPieces_13 : decode cX7_bestPieces 13 = .ok (.if_icmp .ge 79, 3) := by decide +kernel
theorem dX7_bestPieces_16 : decode cX7_bestPieces 16 = .ok (.iload 4, 2) := by decide +kernel
theorem dX7_bestPieces_18 : decode cX7_bestPieces 18 = .ok (.iload_n 1, 1) := by decide +kernel
theorem dX7_bestPieces_19 : decode cX7_bestPieces 19 = .ok (.if_icmp .eq 73, 3) := by decide +kernel
theorem dX7_bestPieces_22 : decode cX7_bestPieces 22 = .ok (.iload 4, 2) := by decide +kernel
theorem dX7_bestPieces_24 : decode cX7_bestPieces 24 = .ok (.iload_n 1, 1) := by decide +kernel
theorem dX7_bestPieces_25 : decode cX7_bestPieces 25 = .ok (.isub, 1) := by decide +kernel
theorem dX7_bestPieces_26 : decode cX7_bestPieces 26 = .ok (.iload_n 1, 1) := by decide +kernel
theorem dX7_bestPieces_27 : decode cX7_bestPieces 27 = .ok (.iand, 1) := by decide +kernel
theorem dX7_bestPieces_28 : decode cX7_bestPieces 28 = .ok (.istore 4, 2) := by decide +kernel
theorem dX7_bestPieces_30 : decode cX7_bestPieces 30 = .ok (.iload 4, 2) := by decide +kernel
theorem dX7_bestPieces_32 : decode cX7_bestPieces 32 = .ok (.invokestatic 40, 3) := by decide +kernel
theorem dX7_bestPieces_35 : decode cX7_bestPieces 35 = .ok (.istore 6, 2) := by decide +kernel
theorem dX7_bestPieces_37 : decode cX7_bestPieces 37 = .ok (.iload 6, 2) := by decide +kernel
theorem dX7_bestPieces_39 : decode cX7_bestPieces 39 = .ok (.iload_n 2, 1) := by decide +kernel
theorem dX7_bestPieces_40 : decode cX7_bestPieces 40 = .ok (.if_icmp .le 6, 3) := by decide +kernel
theorem dX7_bestPieces_43 : decode cX7_bestPieces 43 = .ok (.goto 43, 3) := by decide +kernel
theorem dX7_bestPieces_46 : decode cX7_bestPieces 46 = .ok (.aload_n 0, 1) := by decide +kernel
theorem dX7_bestPieces_47 : decode cX7_bestPieces 47 = .ok (.iload 4, 2) := by decide +kernel
theorem dX7_bestPieces_49 : decode cX7_bestPieces 49 = .ok (.invokevirtual 45, 3) := by decide +kernel
theorem dX7_bestPieces_52 : decode cX7_bestPieces 52 = .ok (.aload_n 0, 1) := by decide +kernel
theorem dX7_bestPieces_53 : decode cX7_bestPieces 53 = .ok (.iload_n 3, 1) := by decide +kernel
theorem dX7_bestPieces_54 : decode cX7_bestPieces 54 = .ok (.invokevirtual 45, 3) := by decide +kernel
theorem dX7_bestPieces_57 : decode cX7_bestPieces 57 = .ok (.if_icmp .gt 26, 3) := by decide +kernel
theorem dX7_bestPieces_60 : decode cX7_bestPieces 60 = .ok (.aload_n 0, 1) := by decide +kernel
theorem dX7_bestPieces_61 : decode cX7_bestPieces 61 = .ok (.iload 4, 2) := by decide +kernel
theorem dX7_bestPieces_63 : decode cX7_bestPieces 63 = .ok (.invokevirtual 45, 3) := by decide +kernel
theorem dX7_bestPieces_66 : decode cX7_bestPieces 66 = .ok (.aload_n 0, 1) := by decide +kernel
theorem dX7_bestPieces_67 : decode cX7_bestPieces 67 = .ok (.iload_n 3, 1) := by decide +kernel
theorem dX7_bestPieces_68 : decode cX7_bestPieces 68 = .ok (.invokevirtual 45, 3) := by decide +kernel
theorem dX7_bestPieces_71 : decode cX7_bestPieces 71 = .ok (.if_icmp .ne 15, 3) := by decide +kernel
theorem dX7_bestPieces_74 : decode cX7_bestPieces 74 = .ok (.iload 6, 2) := by decide +kernel
theorem dX7_bestPieces_76 : decode cX7_bestPieces 76 = .ok (.iload_n 3, 1) := by decide +kernel
theorem dX7_bestPieces_77 : decode cX7_bestPieces 77 = .ok (.invokestatic 40, 3) := by decide +kernel
theorem dX7_bestPieces_80 : decode cX7_bestPieces 80 = .ok (.if_icmp .ge 6, 3) := by decide +kernel
theorem dX7_bestPieces_83 : decode cX7_bestPieces 83 = .ok (.iload 4, 2) := by decide +kernel
theorem dX7_bestPieces_85 : decode cX7_bestPieces 85 = .ok (.istore_n 3, 1) := by decide +kernel
theorem dX7_bestPieces_86 : decode cX7_bestPieces 86 = .ok (.iinc 5 1, 3) := by decide +kernel
theorem dX7_bestPieces_89 : decode cX7_bestPieces 89 = .ok (.goto (-81), 3) := by decide +kernel
theorem dX7_bestPieces_92 : decode cX7_bestPieces 92 = .ok (.iload_n 3, 1) := by decide +kernel
theorem dX7_bestPieces_93 : decode cX7_bestPieces 93 = .ok (.ireturn, 1) := by decide +kernel
theorem dX7_bestGuards_0 : decode cX7_bestGuards 0 = .ok (.iconst 0, 1) := by decide +kernel
theorem dX7_bestGuards_1 : decode cX7_bestGuards 1 = .ok (.istore 4, 2) := by decide +kernel
theorem dX7_bestGuards_3 : decode cX7_bestGuards 3 = .ok (.aload_n 0, 1) := by decide +kernel
theorem dX7_bestGuards_4 : decode cX7_bestGuards 4 = .ok (.aload_n 0, 1) := by decide +kernel
theorem dX7_bestGuards_5 : decode cX7_bestGuards 5 = .ok (.iload_n 1, 1) := by decide +kernel
theorem dX7_bestGuards_6 : decode cX7_bestGuards 6 = .ok (.iload_n 3, 1) := by decide +kernel
theorem dX7_bestGuards_7 : decode cX7_bestGuards 7 = .ok (.invokevirtual 48, 3) := by decide +kernel
theorem dX7_bestGuards_10 : decode cX7_bestGuards 10 = .ok (.invokevirtual 45, 3) := by decide +kernel
theorem dX7_bestGuards_13 : decode cX7_bestGuards 13 = .ok (.istore 5, 2) := by decide +kernel
theorem dX7_bestGuards_15 : decode cX7_bestGuards 15 = .ok (.iconst 1, 1) := by decide +kernel
theorem dX7_bestGuards_16 : decode cX7_bestGuards 16 = .ok (.istore 6, 2) := by decide +kernel
theorem dX7_bestGuards_18 : decode cX7_bestGuards 18 = .ok (.iload 6, 2) := by decide +kernel
theorem dX7_bestGuards_20 : decode cX7_bestGuards 20 = .ok (.iload_n 1, 1) := by decide +kernel
theorem dX7_bestGuards_21 : decode cX7_bestGuards 21 = .ok (.if_icmp .gt 74, 3) := by decide +kernel
theorem dX7_bestGuards_24 : decode cX7_bestGuards 24 = .ok (.iload 6, 2) := by decide +kernel
theorem dX7_bestGuards_26 : decode cX7_bestGuards 26 = .ok (.invokestatic 40, 3) := by decide +kernel
theorem dX7_bestGuards_29 : decode cX7_bestGuards 29 = .ok (.istore 7, 2) := by decide +kernel
theorem dX7_bestGuards_31 : decode cX7_bestGuards 31 = .ok (.iload 7, 2) := by decide +kernel
theorem dX7_bestGuards_33 : decode cX7_bestGuards 33 = .ok (.iload_n 2, 1) := by decide +kernel
theorem dX7_bestGuards_34 : decode cX7_bestGuards 34 = .ok (.if_icmp .le 6, 3) := by decide +kernel
theorem dX7_bestGuards_37 : decode cX7_bestGuards 37 = .ok (.goto 52, 3) := by decide +kernel
theorem dX7_bestGuards_40 : decode cX7_bestGuards 40 = .ok (.aload_n 0, 1) := by decide +kernel
theorem dX7_bestGuards_41 : decode cX7_bestGuards 41 = .ok (.aload_n 0, 1) := by decide +kernel
theorem dX7_bestGuards_42 : decode cX7_bestGuards 42 = .ok (.iload_n 1, 1) := by decide +kernel
theorem dX7_bestGuards_43 : decode cX7_bestGuards 43 = .ok (.iload 6, 2) := by decide +kernel
theorem dX7_bestGuards_45 : decode cX7_bestGuards 45 = .ok (.iconst (-1), 1) := by decide +kernel
theorem dX7_bestGuards_46 : decode cX7_bestGuards 46 = .ok (.ixor, 1) := by decide +kernel
theorem dX7_bestGuards_47 : decode cX7_bestGuards 47 = .ok (.iand, 1) := by decide +kernel
theorem dX7_bestGuards_48 : decode cX7_bestGuards 48 = .ok (.iload_n 3, 1) := by decide +kernel
theorem dX7_bestGuards_49 : decode cX7_bestGuards 49 = .ok (.invokevirtual 48, 3) := by decide +kernel
theorem dX7_bestGuards_52 : decode cX7_bestGuards 52 = .ok (.invokevirtual 45, 3) := by decide +kernel
theorem dX7_bestGuards_55 : decode cX7_bestGuards 55 = .ok (.istore 8, 2) := by decide +kernel
theorem dX7_bestGuards_57 : decode cX7_bestGuards 57 = .ok (.iload 8, 2) := by decide +kernel
theorem dX7_bestGuards_59 : decode cX7_bestGuards 59 = .ok (.iload 5, 2) := by decide +kernel
theorem dX7_bestGuards_61 : decode cX7_bestGuards 61 = .ok (.if_icmp .lt 20, 3) := by decide +kernel
theorem dX7_bestGuards_64 : decode cX7_bestGuards 64 = .ok (.iload 8, 2) := by decide +kernel
theorem dX7_bestGuards_66 : decode cX7_bestGuards 66 = .ok (.iload 5, 2) := by decide +kernel
theorem dX7_bestGuards_68 : decode cX7_bestGuards 68 = .ok (.if_icmp .ne 21, 3) := by decide +kernel
theorem dX7_bestGuards_71 : decode cX7_bestGuards 71 = .ok (.iload 7, 2) := by decide +kernel
theorem dX7_bestGuards_73 : decode cX7_bestGuards 73 = .ok (.iload 4, 2) := by decide +kernel
theorem dX7_bestGuards_75 : decode cX7_bestGuards 75 = .ok (.invokestatic 40, 3) := by decide +kernel
theorem dX7_bestGuards_78 : decode cX7_bestGuards 78 = .ok (.if_icmp .ge 11, 3) := by decide +kernel
theorem dX7_bestGuards_81 : decode cX7_bestGuards 81 = .ok (.iload 8, 2) := by decide +kernel
theorem dX7_bestGuards_83 : decode cX7_bestGuards 83 = .ok (.istore 5, 2) := by decide +kernel
theorem dX7_bestGuards_85 : decode cX7_bestGuards 85 = .ok (.iload 6, 2) := by decide +kernel
theorem dX7_bestGuards_87 : decode cX7_bestGuards 87 = .ok (.istore 4, 2) := by decide +kernel
theorem dX7_bestGuards_89 : decode cX7_bestGuards 89 = .ok (.iinc 6 1, 3) := by decide +kernel
theorem dX7_bestGuards_92 : decode cX7_bestGuards 92 = .ok (.goto (-74), 3) := by decide +kernel
theorem dX7_bestGuards_95 : decode cX7_bestGuards 95 = .ok (.iload 4, 2) := by decide +kernel
theorem dX7_bestGuards_97 : decode cX7_bestGuards 97 = .ok (.ireturn, 1) := by decide +kernel
theorem dX8_init_0 : decode cX8_init 0 = .ok (.aload_n 0, 1) := by decide +kernel
theorem dX8_init_1 : decode cX8_init 1 = .ok (.invokespecial 3, 3) := by decide +kernel
theorem dX8_init_4 : decode cX8_init 4 = .ok (.aload_n 0, 1) := by decide +kernel
theorem dX8_init_5 : decode cX8_init 5 = .ok (.sipush 600, 3) := by decide +kernel
theorem dX8_init_8 : decode cX8_init 8 = .ok (.newarray .byte, 2) := by decide +kernel
theorem dX8_init_10 : decode cX8_init 10 = .ok (.putfield 9, 3) := by decide +kernel
theorem dX8_init_13 : decode cX8_init 13 = .ok (.aload_n 0, 1) := by decide +kernel
theorem dX8_init_14 : decode cX8_init 14 = .ok (.iconst 0, 1) := by decide +kernel
theorem dX8_init_15 : decode cX8_init 15 = .ok (.putfield 15, 3) := by decide +kernel
theorem dX8_init_18 : decode cX8_init 18 = .ok (.aload_n 0, 1) := by decide +kernel
theorem dX8_init_19 : decode cX8_init 19 = .ok (.iconst 0, 1) := by decide +kernel
theorem dX8_init_20 : decode cX8_init 20 = .ok (.putfield 19, 3) := by decide +kernel
theorem dX8_init_23 : decode cX8_init 23 = .ok (.aload_n 0, 1) := by decide +kernel
theorem dX8_init_24 : decode cX8_init 24 = .ok (.iconst (-1), 1) := by decide +kernel
theorem dX8_init_25 : decode cX8_init 25 = .ok (.putfield 22, 3) := by decide +kernel
theorem dX8_init_28 : decode cX8_init 28 = .ok (.aload_n 0, 1) := by decide +kernel
theorem dX8_init_29 : decode cX8_init 29 = .ok (.iconst 4, 1) := by decide +kernel
theorem dX8_init_30 : decode cX8_init 30 = .ok (.newarray .int, 2) := by decide +kernel
theorem dX8_init_32 : decode cX8_init 32 = .ok (.putfield 25, 3) := by decide +kernel
theorem dX8_init_35 : decode cX8_init 35 = .ok (.aload_n 0, 1) := by decide +kernel
theorem dX8_init_36 : decode cX8_init 36 = .ok (.iconst 2, 1) := by decide +kernel
theorem dX8_init_37 : decode cX8_init 37 = .ok (.anewarray 29, 3) := by decide +kernel
theorem dX8_init_40 : decode cX8_init 40 = .ok (.putfield 31, 3) := by decide +kernel
theorem dX8_init_43 : decode cX8_init 43 = .ok (.aload_n 0, 1) := by decide +kernel
theorem dX8_init_44 : decode cX8_init 44 = .ok (.iconst 2, 1) := by decide +kernel
theorem dX8_init_45 : decode cX8_init 45 = .ok (.anewarray 35, 3) := by decide +kernel
theorem dX8_init_48 : decode cX8_init 48 = .ok (.putfield 37, 3) := by decide +kernel
theorem dX8_init_51 : decode cX8_init 51 = .ok (.aload_n 0, 1) := by decide +kernel
theorem dX8_init_52 : decode cX8_init 52 = .ok (.iconst 2, 1) := by decide +kernel
theorem dX8_init_53 : decode cX8_init 53 = .ok (.anewarray 35, 3) := by decide +kernel
theorem dX8_init_56 : decode cX8_init 56 = .ok (.putfield 41, 3) := by decide +kernel
theorem dX8_init_59 : decode cX8_init 59 = .ok (.aload_n 0, 1) := by decide +kernel
theorem dX8_init_60 : decode cX8_init 60 = .ok (.iconst 2, 1) := by decide +kernel
theorem dX8_init_61 : decode cX8_init 61 = .ok (.anewarray 35, 3) := by decide +kernel
theorem dX8_init_64 : decode cX8_init 64 = .ok (.putfield 44, 3) := by decide +kernel
theorem dX8_init_67 : decode cX8_init 67 = .ok (.iconst 0, 1) := by decide +kernel
theorem dX8_init_68 : decode cX8_init 68 = .ok (.istore_n 1, 1) := by decide +kernel
theorem dX8_init_69 : decode cX8_init 69 = .ok (.iload_n 1, 1) := by decide +kernel
theorem dX8_init_70 : decode cX8_init 70 = .ok (.iconst 2, 1) := by decide +kernel
theorem dX8_init_71 : decode cX8_init 71 = .ok (.if_icmp .ge 67, 3) := by decide +kernel
theorem dX8_init_74 : decode cX8_init 74 = .ok (.aload_n 0, 1) := by decide +kernel
theorem dX8_init_75 : decode cX8_init 75 = .ok (.getfield 31, 3) := by decide +kernel
theorem dX8_init_78 : decode cX8_init 78 = .ok (.iload_n 1, 1) := by decide +kernel
theorem dX8_init_79 : decode cX8_init 79 = .ok (.new 29, 3) := by decide +kernel
theorem dX8_init_82 : decode cX8_init 82 = .ok (.dup, 1) := by decide +kernel
theorem dX8_init_83 : decode cX8_init 83 = .ok (.invokespecial 47, 3) := by decide +kernel
theorem dX8_init_86 : decode cX8_init 86 = .ok (.aastore, 1) := by decide +kernel
theorem dX8_init_87 : decode cX8_init 87 = .ok (.aload_n 0, 1) := by decide +kernel
theorem dX8_init_88 : decode cX8_init 88 = .ok (.getfield 37, 3) := by decide +kernel
theorem dX8_init_91 : decode cX8_init 91 = .ok (.iload_n 1, 1) := by decide +kernel
theorem dX8_init_92 : decode cX8_init 92 = .ok (.new 35, 3) := by decide +kernel
theorem dX8_init_95 : decode cX8_init 95 = .ok (.dup, 1) := by decide +kernel
theorem dX8_init_96 : decode cX8_init 96 = .ok (.bipush 40, 2) := by decide +kernel
theorem dX8_init_98 : decode cX8_init 98 = .ok (.invokespecial 48, 3) := by decide +kernel
theorem dX8_init_101 : decode cX8_init 101 = .ok (.aastore, 1) := by decide +kernel
theorem dX8_init_102 : decode cX8_init 102 = .ok (.aload_n 0, 1) := by decide +kernel
theorem dX8_init_103 : decode cX8_init 103 = .ok (.getfield 41, 3) := by decide +kernel
theorem dX8_init_106 : decode cX8_init 106 = .ok (.iload_n 1, 1) := by decide +kernel
theorem dX8_init_107 : decode cX8_init 107 = .ok (.new 35, 3) := by decide +kernel
theorem dX8_init_110 : decode cX8_init 110 = .ok (.dup, 1) := by decide +kernel
theorem dX8_init_111 : decode cX8_init 111 = .ok (.bipush 8, 2) := by decide +kernel
theorem dX8_init_113 : decode cX8_init 113 = .ok (.invokespecial 48, 3) := by decide +kernel
theorem dX8_init_116 : decode cX8_init 116 = .ok (.aastore, 1) := by decide +kernel
theorem dX8_init_117 : decode cX8_init 117 = .ok (.aload_n 0, 1) := by decide +kernel
theorem dX8_init_118 : decode cX8_init 118 = .ok (.getfield 44, 3) := by decide +kernel
theorem dX8_init_121 : decode cX8_init 121 = .ok (.iload_n 1, 1) := by decide +kernel
theorem dX8_init_122 : decode cX8_init 122 = .ok (.new 35, 3) := by decide +kernel
theorem dX8_init_125 : decode cX8_init 125 = .ok (.dup, 1) := by decide +kernel
theorem dX8_init_126 : decode cX8_init 126 = .ok (.bipush 8, 2) := by decide +kernel
theorem dX8_init_128 : decode cX8_init 128 = .ok (.invokespecial 48, 3) := by decide +kernel
theorem dX8_init_131 : decode cX8_init 131 = .ok (.aastore, 1) := by decide +kernel
theorem dX8_init_132 : decode cX8_init 132 = .ok (.iinc 1 1, 3) := by decide +kernel
theorem dX8_init_135 : decode cX8_init 135 = .ok (.goto (-66), 3) := by decide +kernel
theorem dX8_init_138 : decode cX8_init 138 = .ok (.return_, 1) := by decide +kernel
theorem dX8_append_0 : decode cX8_append 0 = .ok (.bipush 24, 2) := by decide +kernel
theorem dX8_append_2 : decode cX8_append 2 = .ok (.istore_n 2, 1) := by decide +kernel
theorem dX8_append_3 : decode cX8_append 3 = .ok (.iload_n 2, 1) := by decide +kernel
theorem dX8_append_4 : decode cX8_append 4 = .ok (.ifCond .lt 42, 3) := by decide +kernel
theorem dX8_append_7 : decode cX8_append 7 = .ok (.aload_n 0, 1) := by decide +kernel
theorem dX8_append_8 : decode cX8_append 8 = .ok (.getfield 15, 3) := by decide +kernel
theorem dX8_append_11 : decode cX8_append 11 = .ok (.sipush 600, 3) := by decide +kernel
theorem dX8_append_14 : decode cX8_append 14 = .ok (.if_icmp .ge 32, 3) := by decide +kernel
theorem dX8_append_17 : decode cX8_append 17 = .ok (.aload_n 0, 1) := by decide +kernel
theorem dX8_append_18 : decode cX8_append 18 = .ok (.getfield 9, 3) := by decide +kernel
theorem dX8_append_21 : decode cX8_append 21 = .ok (.aload_n 0, 1) := by decide +kernel
theorem dX8_append_22 : decode cX8_append 22 = .ok (.getfield 15, 3) := by decide +kernel
theorem dX8_append_25 : decode cX8_append 25 = .ok (.iload_n 1, 1) := by decide +kernel
theorem dX8_append_26 : decode cX8_append 26 = .ok (.iload_n 2, 1) := by decide +kernel
theorem dX8_append_27 : decode cX8_append 27 = .ok (.ishr, 1) := by decide +kernel
theorem dX8_append_28 : decode cX8_append 28 = .ok (.i2b, 1) := by decide +kernel
theorem dX8_append_29 : decode cX8_append 29 = .ok (.bastore, 1) := by decide +kernel
theorem dX8_append_30 : decode cX8_append 30 = .ok (.aload_n 0, 1) := by decide +kernel
theorem dX8_append_31 : decode cX8_append 31 = .ok (.dup, 1) := by decide +kernel
theorem dX8_append_32 : decode cX8_append 32 = .ok (.getfield 15, 3) := by decide +kernel
theorem dX8_append_35 : decode cX8_append 35 = .ok (.iconst 1, 1) := by decide +kernel
theorem dX8_append_36 : decode cX8_append 36 = .ok (.iadd, 1) := by decide +kernel
theorem dX8_append_37 : decode cX8_append 37 = .ok (.putfield 15, 3) := by decide +kernel
theorem dX8_append_40 : decode cX8_append 40 = .ok (.iinc 2 (-8), 3) := by decide +kernel
theorem dX8_append_43 : decode cX8_append 43 = .ok (.goto (-40), 3) := by decide +kernel
theorem dX8_append_46 : decode cX8_append 46 = .ok (.return_, 1) := by decide +kernel
theorem dX8_houseAt_0 : decode cX8_houseAt 0 = .ok (.iload_n 1, 1) := by decide +kernel
theorem dX8_houseAt_1 : decode cX8_houseAt 1 = .ok (.ifCond .lt 13, 3) := by decide +kernel
theorem dX8_houseAt_4 : decode cX8_houseAt 4 = .ok (.iload_n 1, 1) := by decide +kernel
theorem dX8_houseAt_5 : decode cX8_houseAt 5 = .ok (.aload_n 0, 1) := by decide +kernel
theorem dX8_houseAt_6 : decode cX8_houseAt 6 = .ok (.getfield 25, 3) := by decide +kernel
theorem dX8_houseAt_9 : decode cX8_houseAt 9 = .ok (.iconst 0, 1) := by decide +kernel
theorem dX8_houseAt_10 : decode cX8_houseAt 10 = .ok (.iaload, 1) := by decide +kernel
theorem dX8_houseAt_11 : decode cX8_houseAt 11 = .ok (.if_icmp .lt 7, 3) := by decide +kernel
theorem dX8_houseAt_14 : decode cX8_houseAt 14 = .ok (.aconst_null, 1) := by decide +kernel
theorem dX8_houseAt_15 : decode cX8_houseAt 15 = .ok (.goto 9, 3) := by decide +kernel
theorem dX8_houseAt_18 : decode cX8_houseAt 18 = .ok (.aload_n 0, 1) := by decide +kernel
theorem dX8_houseAt_19 : decode cX8_houseAt 19 = .ok (.getfield 31, 3) := by decide +kernel
theorem dX8_houseAt_22 : decode cX8_houseAt 22 = .ok (.iload_n 1, 1) := by decide +kernel
theorem dX8_houseAt_23 : decode cX8_houseAt 23 = .ok (.aaload, 1) := by decide +kernel
theorem dX8_houseAt_24 : decode cX8_houseAt 24 = .ok (.areturn, 1) := by decide +kernel
theorem dX8_rowsAt_0 : decode cX8_rowsAt 0 = .ok (.iload_n 1, 1) := by decide +kernel
theorem dX8_rowsAt_1 : decode cX8_rowsAt 1 = .ok (.ifCond .lt 22, 3) := by decide +kernel
theorem dX8_rowsAt_4 : decode cX8_rowsAt 4 = .ok (.iload_n 1, 1) := by decide +kernel
theorem dX8_rowsAt_5 : decode cX8_rowsAt 5 = .ok (.iconst 4, 1) := by decide +kernel
theorem dX8_rowsAt_6 : decode cX8_rowsAt 6 = .ok (.if_icmp .ge 17, 3) := by decide +kernel
theorem dX8_rowsAt_9 : decode cX8_rowsAt 9 = .ok (.iload_n 2, 1) := by decide +kernel
theorem dX8_rowsAt_10 : decode cX8_rowsAt 10 = .ok (.ifCond .lt 13, 3) := by decide +kernel
theorem dX8_rowsAt_13 : decode cX8_rowsAt 13 = .ok (.iload_n 2, 1) := by decide +kernel
theorem dX8_rowsAt_14 : decode cX8_rowsAt 14 = .ok (.aload_n 0, 1) := by decide +kernel
theorem dX8_rowsAt_15 : decode cX8_rowsAt 15 = .ok (.getfield 25, 3) := by decide +kernel
theorem dX8_rowsAt_18 : decode cX8_rowsAt 18 = .ok (.iload_n 1, 1) := by decide +kernel
theorem dX8_rowsAt_19 : decode cX8_rowsAt 19 = .ok (.iaload, 1) := by decide +kernel
theorem dX8_rowsAt_20 : decode cX8_rowsAt 20 = .ok (.if_icmp .lt 5, 3) := by decide +kernel
theorem dX8_rowsAt_23 : decode cX8_rowsAt 23 = .ok (.aconst_null, 1) := by decide +kernel
theorem dX8_rowsAt_24 : decode cX8_rowsAt 24 = .ok (.areturn, 1) := by decide +kernel
theorem dX8_rowsAt_25 : decode cX8_rowsAt 25 = .ok (.iload_n 1, 1) := by decide +kernel
theorem dX8_rowsAt_26 : decode cX8_rowsAt 26 = .ok (.tableswitch 47 1 3 #[26, 33, 40], 26) := by decide +kernel
theorem dX8_rowsAt_52 : decode cX8_rowsAt 52 = .ok (.aload_n 0, 1) := by decide +kernel
theorem dX8_rowsAt_53 : decode cX8_rowsAt 53 = .ok (.getfield 37, 3) := by decide +kernel
theorem dX8_rowsAt_56 : decode cX8_rowsAt 56 = .ok (.iload_n 2, 1) := by decide +kernel
theorem dX8_rowsAt_57 : decode cX8_rowsAt 57 = .ok (.aaload, 1) := by decide +kernel
theorem dX8_rowsAt_58 : decode cX8_rowsAt 58 = .ok (.areturn, 1) := by decide +kernel
theorem dX8_rowsAt_59 : decode cX8_rowsAt 59 = .ok (.aload_n 0, 1) := by decide +kernel
theorem dX8_rowsAt_60 : decode cX8_rowsAt 60 = .ok (.getfield 41, 3) := by decide +kernel
theorem dX8_rowsAt_63 : decode cX8_rowsAt 63 = .ok (.iload_n 2, 1) := by decide +kernel
theorem dX8_rowsAt_64 : decode cX8_rowsAt 64 = .ok (.aaload, 1) := by decide +kernel
theorem dX8_rowsAt_65 : decode cX8_rowsAt 65 = .ok (.areturn, 1) := by decide +kernel
theorem dX8_rowsAt_66 : decode cX8_rowsAt 66 = .ok (.aload_n 0, 1) := by decide +kernel
theorem dX8_rowsAt_67 : decode cX8_rowsAt 67 = .ok (.getfield 44, 3) := by decide +kernel
theorem dX8_rowsAt_70 : decode cX8_rowsAt 70 = .ok (.iload_n 2, 1) := by decide +kernel
theorem dX8_rowsAt_71 : decode cX8_rowsAt 71 = .ok (.aaload, 1) := by decide +kernel
theorem dX8_rowsAt_72 : decode cX8_rowsAt 72 = .ok (.areturn, 1) := by decide +kernel
theorem dX8_rowsAt_73 : decode cX8_rowsAt 73 = .ok (.aconst_null, 1) := by decide +kernel
theorem dX8_rowsAt_74 : decode cX8_rowsAt 74 = .ok (.areturn, 1) := by decide +kernel
theorem dX8_copyFrom_0 : decode cX8_copyFrom 0 = .ok (.aload_n 1, 1) := by decide +kernel
theorem dX8_copyFrom_1 : decode cX8_copyFrom 1 = .ok (.getfield 9, 3) := by decide +kernel
theorem dX8_copyFrom_4 : decode cX8_copyFrom 4 = .ok (.iconst 0, 1) := by decide +kernel
theorem dX8_copyFrom_5 : decode cX8_copyFrom 5 = .ok (.aload_n 0, 1) := by decide +kernel
theorem dX8_copyFrom_6 : decode cX8_copyFrom 6 = .ok (.getfield 9, 3) := by decide +kernel
theorem dX8_copyFrom_9 : decode cX8_copyFrom 9 = .ok (.iconst 0, 1) := by decide +kernel
theorem dX8_copyFrom_10 : decode cX8_copyFrom 10 = .ok (.sipush 600, 3) := by decide +kernel
theorem dX8_copyFrom_13 : decode cX8_copyFrom 13 = .ok (.invokestatic 51, 3) := by decide +kernel
theorem dX8_copyFrom_16 : decode cX8_copyFrom 16 = .ok (.aload_n 0, 1) := by decide +kernel
theorem dX8_copyFrom_17 : decode cX8_copyFrom 17 = .ok (.aload_n 1, 1) := by decide +kernel
theorem dX8_copyFrom_18 : decode cX8_copyFrom 18 = .ok (.getfield 15, 3) := by decide +kernel
theorem dX8_copyFrom_21 : decode cX8_copyFrom 21 = .ok (.putfield 15, 3) := by decide +kernel
theorem dX8_copyFrom_24 : decode cX8_copyFrom 24 = .ok (.aload_n 0, 1) := by decide +kernel
theorem dX8_copyFrom_25 : decode cX8_copyFrom 25 = .ok (.aload_n 1, 1) := by decide +kernel
theorem dX8_copyFrom_26 : decode cX8_copyFrom 26 = .ok (.getfield 19, 3) := by decide +kernel
theorem dX8_copyFrom_29 : decode cX8_copyFrom 29 = .ok (.putfield 19, 3) := by decide +kernel
theorem dX8_copyFrom_32 : decode cX8_copyFrom 32 = .ok (.aload_n 0, 1) := by decide +kernel
theorem dX8_copyFrom_33 : decode cX8_copyFrom 33 = .ok (.aload_n 1, 1) := by decide +kernel
theorem dX8_copyFrom_34 : decode cX8_copyFrom 34 = .ok (.getfield 22, 3) := by decide +kernel
theorem dX8_copyFrom_37 : decode cX8_copyFrom 37 = .ok (.putfield 22, 3) := by decide +kernel
theorem dX8_copyFrom_40 : decode cX8_copyFrom 40 = .ok (.aload_n 1, 1) := by decide +kernel
theorem dX8_copyFrom_41 : decode cX8_copyFrom 41 = .ok (.getfield 25, 3) := by decide +kernel
theorem dX8_copyFrom_44 : decode cX8_copyFrom 44 = .ok (.iconst 0, 1) := by decide +kernel
theorem dX8_copyFrom_45 : decode cX8_copyFrom 45 = .ok (.aload_n 0, 1) := by decide +kernel
theorem dX8_copyFrom_46 : decode cX8_copyFrom 46 = .ok (.getfield 25, 3) := by decide +kernel
theorem dX8_copyFrom_49 : decode cX8_copyFrom 49 = .ok (.iconst 0, 1) := by decide +kernel
theorem dX8_copyFrom_50 : decode cX8_copyFrom 50 = .ok (.iconst 4, 1) := by decide +kernel
theorem dX8_copyFrom_51 : decode cX8_copyFrom 51 = .ok (.invokestatic 51, 3) := by decide +kernel
theorem dX8_copyFrom_54 : decode cX8_copyFrom 54 = .ok (.iconst 0, 1) := by decide +kernel
theorem dX8_copyFrom_55 : decode cX8_copyFrom 55 = .ok (.istore_n 2, 1) := by decide +kernel
theorem dX8_copyFrom_56 : decode cX8_copyFrom 56 = .ok (.iload_n 2, 1) := by decide +kernel
theorem dX8_copyFrom_57 : decode cX8_copyFrom 57 = .ok (.iconst 2, 1) := by decide +kernel
theorem dX8_copyFrom_58 : decode cX8_copyFrom 58 = .ok (.if_icmp .ge 69, 3) := by decide +kernel
theorem dX8_copyFrom_61 : decode cX8_copyFrom 61 = .ok (.aload_n 0, 1) := by decide +kernel
theorem dX8_copyFrom_62 : decode cX8_copyFrom 62 = .ok (.getfield 31, 3) := by decide +kernel
theorem dX8_copyFrom_65 : decode cX8_copyFrom 65 = .ok (.iload_n 2, 1) := by decide +kernel
theorem dX8_copyFrom_66 : decode cX8_copyFrom 66 = .ok (.aaload, 1) := by decide +kernel
theorem dX8_copyFrom_67 : decode cX8_copyFrom 67 = .ok (.aload_n 1, 1) := by decide +kernel
theorem dX8_copyFrom_68 : decode cX8_copyFrom 68 = .ok (.getfield 31, 3) := by decide +kernel
theorem dX8_copyFrom_71 : decode cX8_copyFrom 71 = .ok (.iload_n 2, 1) := by decide +kernel
theorem dX8_copyFrom_72 : decode cX8_copyFrom 72 = .ok (.aaload, 1) := by decide +kernel
theorem dX8_copyFrom_73 : decode cX8_copyFrom 73 = .ok (.invokevirtual 57, 3) := by decide +kernel
theorem dX8_copyFrom_76 : decode cX8_copyFrom 76 = .ok (.aload_n 0, 1) := by decide +kernel
theorem dX8_copyFrom_77 : decode cX8_copyFrom 77 = .ok (.getfield 37, 3) := by decide +kernel
theorem dX8_copyFrom_80 : decode cX8_copyFrom 80 = .ok (.iload_n 2, 1) := by decide +kernel
theorem dX8_copyFrom_81 : decode cX8_copyFrom 81 = .ok (.aaload, 1) := by decide +kernel
theorem dX8_copyFrom_82 : decode cX8_copyFrom 82 = .ok (.aload_n 1, 1) := by decide +kernel
theorem dX8_copyFrom_83 : decode cX8_copyFrom 83 = .ok (.getfield 37, 3) := by decide +kernel
theorem dX8_copyFrom_86 : decode cX8_copyFrom 86 = .ok (.iload_n 2, 1) := by decide +kernel
theorem dX8_copyFrom_87 : decode cX8_copyFrom 87 = .ok (.aaload, 1) := by decide +kernel
theorem dX8_copyFrom_88 : decode cX8_copyFrom 88 = .ok (.invokevirtual 61, 3) := by decide +kernel
theorem dX8_copyFrom_91 : decode cX8_copyFrom 91 = .ok (.aload_n 0, 1) := by decide +kernel
theorem dX8_copyFrom_92 : decode cX8_copyFrom 92 = .ok (.getfield 41, 3) := by decide +kernel
theorem dX8_copyFrom_95 : decode cX8_copyFrom 95 = .ok (.iload_n 2, 1) := by decide +kernel
theorem dX8_copyFrom_96 : decode cX8_copyFrom 96 = .ok (.aaload, 1) := by decide +kernel
theorem dX8_copyFrom_97 : decode cX8_copyFrom 97 = .ok (.aload_n 1, 1) := by decide +kernel
theorem dX8_copyFrom_98 : decode cX8_copyFrom 98 = .ok (.getfield 41, 3) := by decide +kernel
theorem dX8_copyFrom_101 : decode cX8_copyFrom 101 = .ok (.iload_n 2, 1) := by decide +kernel
theorem dX8_copyFrom_102 : decode cX8_copyFrom 102 = .ok (.aaload, 1) := by decide +kernel
theorem dX8_copyFrom_103 : decode cX8_copyFrom 103 = .ok (.invokevirtual 61, 3) := by decide +kernel
theorem dX8_copyFrom_106 : decode cX8_copyFrom 106 = .ok (.aload_n 0, 1) := by decide +kernel
theorem dX8_copyFrom_107 : decode cX8_copyFrom 107 = .ok (.getfield 44, 3) := by decide +kernel
theorem dX8_copyFrom_110 : decode cX8_copyFrom 110 = .ok (.iload_n 2, 1) := by decide +kernel
theorem dX8_copyFrom_111 : decode cX8_copyFrom 111 = .ok (.aaload, 1) := by decide +kernel
theorem dX8_copyFrom_112 : decode cX8_copyFrom 112 = .ok (.aload_n 1, 1) := by decide +kernel
theorem dX8_copyFrom_113 : decode cX8_copyFrom 113 = .ok (.getfield 44, 3) := by decide +kernel
theorem dX8_copyFrom_116 : decode cX8_copyFrom 116 = .ok (.iload_n 2, 1) := by decide +kernel
theorem dX8_copyFrom_117 : decode cX8_copyFrom 117 = .ok (.aaload, 1) := by decide +kernel
theorem dX8_copyFrom_118 : decode cX8_copyFrom 118 = .ok (.invokevirtual 61, 3) := by decide +kernel
theorem dX8_copyFrom_121 : decode cX8_copyFrom 121 = .ok (.iinc 2 1, 3) := by decide +kernel
theorem dX8_copyFrom_124 : decode cX8_copyFrom 124 = .ok (.goto (-68), 3) := by decide +kernel
theorem dX8_copyFrom_127 : decode cX8_copyFrom 127 = .ok (.return_, 1) := by decide +kernel
theorem dX9_init_0 : decode cX9_init 0 = .ok (.aload_n 0, 1) := by decide +kernel
theorem dX9_init_1 : decode cX9_init 1 = .ok (.invokespecial 1, 3) := by decide +kernel
theorem dX9_init_4 : decode cX9_init 4 = .ok (.aload_n 0, 1) := by decide +kernel
theorem dX9_init_5 : decode cX9_init 5 = .ok (.new 7, 3) := by decide +kernel
theorem dX9_init_8 : decode cX9_init 8 = .ok (.dup, 1) := by decide +kernel
theorem dX9_init_9 : decode cX9_init 9 = .ok (.invokespecial 9, 3) := by decide +kernel
theorem dX9_init_12 : decode cX9_init 12 = .ok (.putfield 10, 3) := by decide +kernel
theorem dX9_init_15 : decode cX9_init 15 = .ok (.aload_n 0, 1) := by decide +kernel
theorem dX9_init_16 : decode cX9_init 16 = .ok (.iconst 3, 1) := by decide +kernel
theorem dX9_init_17 : decode cX9_init 17 = .ok (.anewarray 7, 3) := by decide +kernel
theorem dX9_init_20 : decode cX9_init 20 = .ok (.putfield 16, 3) := by decide +kernel
theorem dX9_init_23 : decode cX9_init 23 = .ok (.aload_n 0, 1) := by decide +kernel
theorem dX9_init_24 : decode cX9_init 24 = .ok (.new 20, 3) := by decide +kernel
theorem dX9_init_27 : decode cX9_init 27 = .ok (.dup, 1) := by decide +kernel
theorem dX9_init_28 : decode cX9_init 28 = .ok (.invokespecial 22, 3) := by decide +kernel
theorem dX9_init_31 : decode cX9_init 31 = .ok (.putfield 23, 3) := by decide +kernel
theorem dX9_init_34 : decode cX9_init 34 = .ok (.aload_n 0, 1) := by decide +kernel
theorem dX9_init_35 : decode cX9_init 35 = .ok (.new 27, 3) := by decide +kernel
theorem dX9_init_38 : decode cX9_init 38 = .ok (.dup, 1) := by decide +kernel
theorem dX9_init_39 : decode cX9_init 39 = .ok (.invokespecial 29, 3) := by decide +kernel
theorem dX9_init_42 : decode cX9_init 42 = .ok (.putfield 30, 3) := by decide +kernel
theorem dX9_init_45 : decode cX9_init 45 = .ok (.aload_n 0, 1) := by decide +kernel
theorem dX9_init_46 : decode cX9_init 46 = .ok (.new 34, 3) := by decide +kernel
theorem dX9_init_49 : decode cX9_init 49 = .ok (.dup, 1) := by decide +kernel
theorem dX9_init_50 : decode cX9_init 50 = .ok (.invokespecial 36, 3) := by decide +kernel
theorem dX9_init_53 : decode cX9_init 53 = .ok (.putfield 37, 3) := by decide +kernel
theorem dX9_init_56 : decode cX9_init 56 = .ok (.aload_n 0, 1) := by decide +kernel
theorem dX9_init_57 : decode cX9_init 57 = .ok (.new 41, 3) := by decide +kernel
theorem dX9_init_60 : decode cX9_init 60 = .ok (.dup, 1) := by decide +kernel
theorem dX9_init_61 : decode cX9_init 61 = .ok (.invokespecial 43, 3) := by decide +kernel
theorem dX9_init_64 : decode cX9_init 64 = .ok (.putfield 44, 3) := by decide +kernel
theorem dX9_init_67 : decode cX9_init 67 = .ok (.aload_n 0, 1) := by decide +kernel
theorem dX9_init_68 : decode cX9_init 68 = .ok (.new 48, 3) := by decide +kernel
theorem dX9_init_71 : decode cX9_init 71 = .ok (.dup, 1) := by decide +kernel
theorem dX9_init_72 : decode cX9_init 72 = .ok (.invokespecial 50, 3) := by decide +kernel
theorem dX9_init_75 : decode cX9_init 75 = .ok (.putfield 51, 3) := by decide +kernel
theorem dX9_init_78 : decode cX9_init 78 = .ok (.aload_n 0, 1) := by decide +kernel
theorem dX9_init_79 : decode cX9_init 79 = .ok (.new 55, 3) := by decide +kernel
theorem dX9_init_82 : decode cX9_init 82 = .ok (.dup, 1) := by decide +kernel
theorem dX9_init_83 : decode cX9_init 83 = .ok (.invokespecial 57, 3) := by decide +kernel
theorem dX9_init_86 : decode cX9_init 86 = .ok (.putfield 58, 3) := by decide +kernel
theorem dX9_init_89 : decode cX9_init 89 = .ok (.return_, 1) := by decide +kernel
theorem dX9_feed_0 : decode cX9_feed 0 = .ok (.aload_n 0, 1) := by decide +kernel
theorem dX9_feed_1 : decode cX9_feed 1 = .ok (.getfield 10, 3) := by decide +kernel
theorem dX9_feed_4 : decode cX9_feed 4 = .ok (.getfield 62, 3) := by decide +kernel
theorem dX9_feed_7 : decode cX9_feed 7 = .ok (.bipush 20, 2) := by decide +kernel
theorem dX9_feed_9 : decode cX9_feed 9 = .ok (.iadd, 1) := by decide +kernel
theorem dX9_feed_10 : decode cX9_feed 10 = .ok (.sipush 600, 3) := by decide +kernel
theorem dX9_feed_13 : decode cX9_feed 13 = .ok (.if_icmp .le 5, 3) := by decide +kernel
theorem dX9_feed_16 : decode cX9_feed 16 = .ok (.iconst (-1), 1) := by decide +kernel
theorem dX9_feed_17 : decode cX9_feed 17 = .ok (.ireturn, 1) := by decide +kernel
theorem dX9_feed_18 : decode cX9_feed 18 = .ok (.aload_n 0, 1) := by decide +kernel
theorem dX9_feed_19 : decode cX9_feed 19 = .ok (.getfield 10, 3) := by decide +kernel
theorem dX9_feed_22 : decode cX9_feed 22 = .ok (.iload_n 1, 1) := by decide +kernel
theorem dX9_feed_23 : decode cX9_feed 23 = .ok (.invokevirtual 66, 3) := by decide +kernel
theorem dX9_feed_26 : decode cX9_feed 26 = .ok (.aload_n 0, 1) := by decide +kernel
theorem dX9_feed_27 : decode cX9_feed 27 = .ok (.getfield 10, 3) := by decide +kernel
theorem dX9_feed_30 : decode cX9_feed 30 = .ok (.iload_n 2, 1) := by decide +kernel
theorem dX9_feed_31 : decode cX9_feed 31 = .ok (.invokevirtual 66, 3) := by decide +kernel
theorem dX9_feed_34 : decode cX9_feed 34 = .ok (.aload_n 0, 1) := by decide +kernel
theorem dX9_feed_35 : decode cX9_feed 35 = .ok (.getfield 10, 3) := by decide +kernel
theorem dX9_feed_38 : decode cX9_feed 38 = .ok (.iload_n 3, 1) := by decide +kernel
theorem dX9_feed_39 : decode cX9_feed 39 = .ok (.invokevirtual 66, 3) := by decide +kernel
theorem dX9_feed_42 : decode cX9_feed 42 = .ok (.aload_n 0, 1) := by decide +kernel
theorem dX9_feed_43 : decode cX9_feed 43 = .ok (.getfield 10, 3) := by decide +kernel
theorem dX9_feed_46 : decode cX9_feed 46 = .ok (.iload 4, 2) := by decide +kernel
theorem dX9_feed_48 : decode cX9_feed 48 = .ok (.invokevirtual 66, 3) := by decide +kernel
theorem dX9_feed_51 : decode cX9_feed 51 = .ok (.aload_n 0, 1) := by decide +kernel
theorem dX9_feed_52 : decode cX9_feed 52 = .ok (.getfield 10, 3) := by decide +kernel
theorem dX9_feed_55 : decode cX9_feed 55 = .ok (.iload 5, 2) := by decide +kernel
theorem dX9_feed_57 : decode cX9_feed 57 = .ok (.invokevirtual 66, 3) := by decide +kernel
theorem dX9_feed_60 : decode cX9_feed 60 = .ok (.aload_n 0, 1) := by decide +kernel
theorem dX9_feed_61 : decode cX9_feed 61 = .ok (.getfield 10, 3) := by decide +kernel
theorem dX9_feed_64 : decode cX9_feed 64 = .ok (.getfield 62, 3) := by decide +kernel
theorem dX9_feed_67 : decode cX9_feed 67 = .ok (.ireturn, 1) := by decide +kernel
theorem dX9_end_0 : decode cX9_end 0 = .ok (.iload_n 1, 1) := by decide +kernel
theorem dX9_end_1 : decode cX9_end 1 = .ok (.ifCond .lt 14, 3) := by decide +kernel
theorem dX9_end_4 : decode cX9_end 4 = .ok (.iload_n 1, 1) := by decide +kernel
theorem dX9_end_5 : decode cX9_end 5 = .ok (.aload_n 0, 1) := by decide +kernel
theorem dX9_end_6 : decode cX9_end 6 = .ok (.getfield 10, 3) := by decide +kernel
theorem dX9_end_9 : decode cX9_end 9 = .ok (.getfield 62, 3) := by decide +kernel
theorem dX9_end_12 : decode cX9_end 12 = .ok (.if_icmp .le 5, 3) := by decide +kernel
theorem dX9_end_15 : decode cX9_end 15 = .ok (.iconst (-1), 1) := by decide +kernel
theorem dX9_end_16 : decode cX9_end 16 = .ok (.ireturn, 1) := by decide +kernel
theorem dX9_end_17 : decode cX9_end 17 = .ok (.aload_n 0, 1) := by decide +kernel
theorem dX9_end_18 : decode cX9_end 18 = .ok (.getfield 10, 3) := by decide +kernel
theorem dX9_end_21 : decode cX9_end 21 = .ok (.iload_n 1, 1) := by decide +kernel
theorem dX9_end_22 : decode cX9_end 22 = .ok (.putfield 62, 3) := by decide +kernel
theorem dX9_end_25 : decode cX9_end 25 = .ok (.iload_n 1, 1) := by decide +kernel
theorem dX9_end_26 : decode cX9_end 26 = .ok (.ireturn, 1) := by decide +kernel
theorem dX9_text_0 : decode cX9_text 0 = .ok (.aload_n 0, 1) := by decide +kernel
theorem dX9_text_1 : decode cX9_text 1 = .ok (.getfield 10, 3) := by decide +kernel
theorem dX9_text_4 : decode cX9_text 4 = .ok (.getfield 62, 3) := by decide +kernel
theorem dX9_text_7 : decode cX9_text 7 = .ok (.istore_n 3, 1) := by decide +kernel
theorem dX9_text_8 : decode cX9_text 8 = .ok (.aload_n 0, 1) := by decide +kernel
theorem dX9_text_9 : decode cX9_text 9 = .ok (.getfield 10, 3) := by decide +kernel
theorem dX9_text_12 : decode cX9_text 12 = .ok (.iconst 0, 1) := by decide +kernel
theorem dX9_text_13 : decode cX9_text 13 = .ok (.putfield 62, 3) := by decide +kernel
theorem dX9_text_16 : decode cX9_text 16 = .ok (.aload_n 0, 1) := by decide +kernel
theorem dX9_text_17 : decode cX9_text 17 = .ok (.getfield 10, 3) := by decide +kernel
theorem dX9_text_20 : decode cX9_text 20 = .ok (.iconst 0, 1) := by decide +kernel
theorem dX9_text_21 : decode cX9_text 21 = .ok (.putfield 70, 3) := by decide +kernel
theorem dX9_text_24 : decode cX9_text 24 = .ok (.aload_n 0, 1) := by decide +kernel
theorem dX9_text_25 : decode cX9_text 25 = .ok (.getfield 10, 3) := by decide +kernel
theorem dX9_text_28 : decode cX9_text 28 = .ok (.iconst (-1), 1) := by decide +kernel
theorem dX9_text_29 : decode cX9_text 29 = .ok (.putfield 73, 3) := by decide +kernel
theorem dX9_text_32 : decode cX9_text 32 = .ok (.iload_n 1, 1) := by decide +kernel
theorem dX9_text_33 : decode cX9_text 33 = .ok (.ifCond .lt 8, 3) := by decide +kernel
theorem dX9_text_36 : decode cX9_text 36 = .ok (.iload_n 1, 1) := by decide +kernel
theorem dX9_text_37 : decode cX9_text 37 = .ok (.iconst 4, 1) := by decide +kernel
theorem dX9_text_38 : decode cX9_text 38 = .ok (.if_icmp .lt 6, 3) := by decide +kernel
theorem dX9_text_41 : decode cX9_text 41 = .ok (.bipush (-2), 2) := by decide +kernel
theorem dX9_text_43 : decode cX9_text 43 = .ok (.ireturn, 1) := by decide +kernel
theorem dX9_text_44 : decode cX9_text 44 = .ok (.iload_n 2, 1) := by decide +kernel
theorem dX9_text_45 : decode cX9_text 45 = .ok (.iconst (-1), 1) := by decide +kernel
theorem dX9_text_46 : decode cX9_text 46 = .ok (.if_icmp .ne 15, 3) := by decide +kernel
theorem dX9_text_49 : decode cX9_text 49 = .ok (.aload_n 0, 1) := by decide +kernel
theorem dX9_text_50 : decode cX9_text 50 = .ok (.getfield 10, 3) := by decide +kernel
theorem dX9_text_53 : decode cX9_text 53 = .ok (.getfield 76, 3) := by decide +kernel
theorem dX9_text_56 : decode cX9_text 56 = .ok (.iload_n 1, 1) := by decide +kernel
theorem dX9_text_57 : decode cX9_text 57 = .ok (.iaload, 1) := by decide +kernel
theorem dX9_text_58 : decode cX9_text 58 = .ok (.goto 4, 3) := by decide +kernel
theorem dX9_text_61 : decode cX9_text 61 = .ok (.iload_n 2, 1) := by decide +kernel
theorem dX9_text_62 : decode cX9_text 62 = .ok (.istore 4, 2) := by decide +kernel
theorem dX9_text_64 : decode cX9_text 64 = .ok (.iload_n 2, 1) := by decide +kernel
theorem dX9_text_65 : decode cX9_text 65 = .ok (.iconst (-1), 1) := by decide +kernel
theorem dX9_text_66 : decode cX9_text 66 = .ok (.if_icmp .ne 7, 3) := by decide +kernel
theorem dX9_text_69 : decode cX9_text 69 = .ok (.iconst 2, 1) := by decide +kernel
theorem dX9_text_70 : decode cX9_text 70 = .ok (.goto 12, 3) := by decide +kernel
theorem dX9_text_73 : decode cX9_text 73 = .ok (.aload_n 0, 1) := by decide +kernel
theorem dX9_text_74 : decode cX9_text 74 = .ok (.getfield 10, 3) := by decide +kernel
theorem dX9_text_77 : decode cX9_text 77 = .ok (.getfield 76, 3) := by decide +kernel
theorem dX9_text_80 : decode cX9_text 80 = .ok (.iload_n 1, 1) := by decide +kernel
theorem dX9_text_81 : decode cX9_text 81 = .ok (.iaload, 1) := by decide +kernel
theorem dX9_text_82 : decode cX9_text 82 = .ok (.istore 5, 2) := by decide +kernel
theorem dX9_text_84 : decode cX9_text 84 = .ok (.iload 4, 2) := by decide +kernel
theorem dX9_text_86 : decode cX9_text 86 = .ok (.ifCond .lt 10, 3) := by decide +kernel
theorem dX9_text_89 : decode cX9_text 89 = .ok (.iload 4, 2) := by decide +kernel
theorem dX9_text_91 : decode cX9_text 91 = .ok (.iload 5, 2) := by decide +kernel
theorem dX9_text_93 : decode cX9_text 93 = .ok (.if_icmp .lt 6, 3) := by decide +kernel
theorem dX9_text_96 : decode cX9_text 96 = .ok (.bipush (-2), 2) := by decide +kernel
theorem dX9_text_98 : decode cX9_text 98 = .ok (.ireturn, 1) := by decide +kernel
theorem dX9_text_99 : decode cX9_text 99 = .ok (.aload_n 0, 1) := by decide +kernel
theorem dX9_text_100 : decode cX9_text 100 = .ok (.getfield 23, 3) := by decide +kernel
theorem dX9_text_103 : decode cX9_text 103 = .ok (.aload_n 0, 1) := by decide +kernel
theorem dX9_text_104 : decode cX9_text 104 = .ok (.getfield 10, 3) := by decide +kernel
theorem dX9_text_107 : decode cX9_text 107 = .ok (.getfield 80, 3) := by decide +kernel
theorem dX9_text_110 : decode cX9_text 110 = .ok (.iload_n 3, 1) := by decide +kernel
theorem dX9_text_111 : decode cX9_text 111 = .ok (.iload_n 1, 1) := by decide +kernel
theorem dX9_text_112 : decode cX9_text 112 = .ok (.invokevirtual 84, 3) := by decide +kernel
theorem dX9_text_115 : decode cX9_text 115 = .ok (.aload_n 0, 1) := by decide +kernel
theorem dX9_text_116 : decode cX9_text 116 = .ok (.getfield 10, 3) := by decide +kernel
theorem dX9_text_119 : decode cX9_text 119 = .ok (.aload_n 0, 1) := by decide +kernel
theorem dX9_text_120 : decode cX9_text 120 = .ok (.getfield 23, 3) := by decide +kernel
theorem dX9_text_123 : decode cX9_text 123 = .ok (.getfield 88, 3) := by decide +kernel
theorem dX9_text_126 : decode cX9_text 126 = .ok (.putfield 70, 3) := by decide +kernel
theorem dX9_text_129 : decode cX9_text 129 = .ok (.aload_n 0, 1) := by decide +kernel
theorem dX9_text_130 : decode cX9_text 130 = .ok (.getfield 10, 3) := by decide +kernel
theorem dX9_text_133 : decode cX9_text 133 = .ok (.aload_n 0, 1) := by decide +kernel
theorem dX9_text_134 : decode cX9_text 134 = .ok (.getfield 23, 3) := by decide +kernel
theorem dX9_text_137 : decode cX9_text 137 = .ok (.getfield 89, 3) := by decide +kernel
theorem dX9_text_140 : decode cX9_text 140 = .ok (.putfield 73, 3) := by decide +kernel
theorem dX9_text_143 : decode cX9_text 143 = .ok (.aload_n 0, 1) := by decide +kernel
theorem dX9_text_144 : decode cX9_text 144 = .ok (.getfield 23, 3) := by decide +kernel
theorem dX9_text_147 : decode cX9_text 147 = .ok (.getfield 88, 3) := by decide +kernel
theorem dX9_text_150 : decode cX9_text 150 = .ok (.ifCond .eq 5, 3) := by decide +kernel
theorem dX9_text_153 : decode cX9_text 153 = .ok (.iconst (-1), 1) := by decide +kernel
theorem dX9_text_154 : decode cX9_text 154 = .ok (.ireturn, 1) := by decide +kernel
theorem dX9_text_155 : decode cX9_text 155 = .ok (.aload_n 0, 1) := by decide +kernel
theorem dX9_text_156 : decode cX9_text 156 = .ok (.iload_n 1, 1) := by decide +kernel
theorem dX9_text_157 : decode cX9_text 157 = .ok (.iload 4, 2) := by decide +kernel
theorem dX9_text_159 : decode cX9_text 159 = .ok (.invokevirtual 90, 3) := by decide +kernel
theorem dX9_text_162 : decode cX9_text 162 = .ok (.iload 4, 2) := by decide +kernel
theorem dX9_text_164 : decode cX9_text 164 = .ok (.ireturn, 1) := by decide +kernel
theorem dX9_takeText_0 : decode cX9_takeText 0 = .ok (.iload_n 2, 1) := by decide +kernel
theorem dX9_takeText_1 : decode cX9_takeText 1 = .ok (.aload_n 0, 1) := by decide +kernel
theorem dX9_takeText_2 : decode cX9_takeText 2 = .ok (.getfield 10, 3) := by decide +kernel
theorem dX9_takeText_5 : decode cX9_takeText 5 = .ok (.getfield 76, 3) := by decide +kernel
theorem dX9_takeText_8 : decode cX9_takeText 8 = .ok (.iload_n 1, 1) := by decide +kernel
theorem dX9_takeText_9 : decode cX9_takeText 9 = .ok (.iaload, 1) := by decide +kernel
theorem dX9_takeText_10 : decode cX9_takeText 10 = .ok (.if_icmp .lt 15, 3) := by decide +kernel
theorem dX9_takeText_13 : decode cX9_takeText 13 = .ok (.aload_n 0, 1) := by decide +kernel
theorem dX9_takeText_14 : decode cX9_takeText 14 = .ok (.getfield 10, 3) := by decide +kernel
theorem dX9_takeText_17 : decode cX9_takeText 17 = .ok (.getfield 76, 3) := by decide +kernel
theorem dX9_takeText_20 : decode cX9_takeText 20 = .ok (.iload_n 1, 1) := by decide +kernel
theorem dX9_takeText_21 : decode cX9_takeText 21 = .ok (.iload_n 2, 1) := by decide +kernel
theorem dX9_takeText_22 : decode cX9_takeText 22 = .ok (.iconst 1, 1) := by decide +kernel
theorem dX9_takeText_23 : decode cX9_takeText 23 = .ok (.iadd, 1) := by decide +kernel
theorem dX9_takeText_24 : decode cX9_takeText 24 = .ok (.iastore, 1) := by decide +kernel
theorem dX9_takeText_25 : decode cX9_takeText 25 = .ok (.iload_n 1, 1) := by decide +kernel
theorem dX9_takeText_26 : decode cX9_takeText 26 = .ok (.ifCond .ne 21, 3) := by decide +kernel
theorem dX9_takeText_29 : decode cX9_takeText 29 = .ok (.aload_n 0, 1) := by decide +kernel
theorem dX9_takeText_30 : decode cX9_takeText 30 = .ok (.getfield 23, 3) := by decide +kernel
theorem dX9_takeText_33 : decode cX9_takeText 33 = .ok (.aload_n 0, 1) := by decide +kernel
theorem dX9_takeText_34 : decode cX9_takeText 34 = .ok (.getfield 10, 3) := by decide +kernel
theorem dX9_takeText_37 : decode cX9_takeText 37 = .ok (.iload_n 2, 1) := by decide +kernel
theorem dX9_takeText_38 : decode cX9_takeText 38 = .ok (.invokevirtual 94, 3) := by decide +kernel
theorem dX9_takeText_41 : decode cX9_takeText 41 = .ok (.invokevirtual 98, 3) := by decide +kernel
theorem dX9_takeText_44 : decode cX9_takeText 44 = .ok (.goto 19, 3) := by decide +kernel
theorem dX9_takeText_47 : decode cX9_takeText 47 = .ok (.aload_n 0, 1) := by decide +kernel
theorem dX9_takeText_48 : decode cX9_takeText 48 = .ok (.getfield 23, 3) := by decide +kernel
theorem dX9_takeText_51 : decode cX9_takeText 51 = .ok (.aload_n 0, 1) := by decide +kernel
theorem dX9_takeText_52 : decode cX9_takeText 52 = .ok (.getfield 10, 3) := by decide +kernel
theorem dX9_takeText_55 : decode cX9_takeText 55 = .ok (.iload_n 1, 1) := by decide +kernel
theorem dX9_takeText_56 : decode cX9_takeText 56 = .ok (.iload_n 2, 1) := by decide +kernel
theorem dX9_takeText_57 : decode cX9_takeText 57 = .ok (.invokevirtual 102, 3) := by decide +kernel
theorem dX9_takeText_60 : decode cX9_takeText 60 = .ok (.invokevirtual 106, 3) := by decide +kernel
theorem dX9_takeText_63 : decode cX9_takeText 63 = .ok (.return_, 1) := by decide +kernel
theorem dX9_fault_0 : decode cX9_fault 0 = .ok (.iload_n 1, 1) := by decide +kernel
theorem dX9_fault_1 : decode cX9_fault 1 = .ok (.ifCond .ne 11, 3) := by decide +kernel
theorem dX9_fault_4 : decode cX9_fault 4 = .ok (.aload_n 0, 1) := by decide +kernel
theorem dX9_fault_5 : decode cX9_fault 5 = .ok (.getfield 10, 3) := by decide +kernel
theorem dX9_fault_8 : decode cX9_fault 8 = .ok (.getfield 70, 3) := by decide +kernel
theorem dX9_fault_11 : decode cX9_fault 11 = .ok (.ireturn, 1) := by decide +kernel
theorem dX9_fault_12 : decode cX9_fault 12 = .ok (.iload_n 1, 1) := by decide +kernel
theorem dX9_fault_13 : decode cX9_fault 13 = .ok (.iconst 1, 1) := by decide +kernel
theorem dX9_fault_14 : decode cX9_fault 14 = .ok (.if_icmp .ne 13, 3) := by decide +kernel
theorem dX9_fault_17 : decode cX9_fault 17 = .ok (.aload_n 0, 1) := by decide +kernel
theorem dX9_fault_18 : decode cX9_fault 18 = .ok (.getfield 10, 3) := by decide +kernel
theorem dX9_fault_21 : decode cX9_fault 21 = .ok (.getfield 73, 3) := by decide +kernel
theorem dX9_fault_24 : decode cX9_fault 24 = .ok (.goto 4, 3) := by decide +kernel
theorem dX9_fault_27 : decode cX9_fault 27 = .ok (.iconst (-1), 1) := by decide +kernel
theorem dX9_fault_28 : decode cX9_fault 28 = .ok (.ireturn, 1) := by decide +kernel
theorem dX9_house_0 : decode cX9_house 0 = .ok (.aload_n 0, 1) := by decide +kernel
theorem dX9_house_1 : decode cX9_house 1 = .ok (.getfield 10, 3) := by decide +kernel
theorem dX9_house_4 : decode cX9_house 4 = .ok (.iload_n 1, 1) := by decide +kernel
theorem dX9_house_5 : decode cX9_house 5 = .ok (.invokevirtual 94, 3) := by decide +kernel
theorem dX9_house_8 : decode cX9_house 8 = .ok (.astore_n 3, 1) := by decide +kernel
theorem dX9_house_9 : decode cX9_house 9 = .ok (.aload_n 3, 1) := by decide +kernel
theorem dX9_house_10 : decode cX9_house 10 = .ok (.ifnull 7, 3) := by decide +kernel
theorem dX9_house_13 : decode cX9_house 13 = .ok (.iload_n 2, 1) := by decide +kernel
theorem dX9_house_14 : decode cX9_house 14 = .ok (.ifCond .ge 5, 3) := by decide +kernel
theorem dX9_house_17 : decode cX9_house 17 = .ok (.iconst (-1), 1) := by decide +kernel
theorem dX9_house_18 : decode cX9_house 18 = .ok (.ireturn, 1) := by decide +kernel
theorem dX9_house_19 : decode cX9_house 19 = .ok (.iload_n 2, 1) := by decide +kernel
theorem dX9_house_20 : decode cX9_house 20 = .ok (.tableswitch 43 0 2 #[28, 33, 38], 28) := by decide +kernel
theorem dX9_house_48 : decode cX9_house 48 = .ok (.aload_n 3, 1) := by decide +kernel
theorem dX9_house_49 : decode cX9_house 49 = .ok (.getfield 110, 3) := by decide +kernel
theorem dX9_house_52 : decode cX9_house 52 = .ok (.ireturn, 1) := by decide +kernel
theorem dX9_house_53 : decode cX9_house 53 = .ok (.aload_n 3, 1) := by decide +kernel
theorem dX9_house_54 : decode cX9_house 54 = .ok (.getfield 115, 3) := by decide +kernel
theorem dX9_house_57 : decode cX9_house 57 = .ok (.ireturn, 1) := by decide +kernel
theorem dX9_house_58 : decode cX9_house 58 = .ok (.aload_n 3, 1) := by decide +kernel
theorem dX9_house_59 : decode cX9_house 59 = .ok (.getfield 118, 3) := by decide +kernel
theorem dX9_house_62 : decode cX9_house 62 = .ok (.ireturn, 1) := by decide +kernel
theorem dX9_house_63 : decode cX9_house 63 = .ok (.aload_n 3, 1) := by decide +kernel
theorem dX9_house_64 : decode cX9_house 64 = .ok (.iload_n 2, 1) := by decide +kernel
theorem dX9_house_65 : decode cX9_house 65 = .ok (.bipush 10, 2) := by decide +kernel
theorem dX9_house_67 : decode cX9_house 67 = .ok (.idiv, 1) := by decide +kernel
theorem dX9_house_68 : decode cX9_house 68 = .ok (.iload_n 2, 1) := by decide +kernel
theorem dX9_house_69 : decode cX9_house 69 = .ok (.bipush 10, 2) := by decide +kernel
theorem dX9_house_71 : decode cX9_house 71 = .ok (.irem, 1) := by decide +kernel
theorem dX9_house_72 : decode cX9_house 72 = .ok (.invokevirtual 121, 3) := by decide +kernel
theorem dX9_house_75 : decode cX9_house 75 = .ok (.ireturn, 1) := by decide +kernel
theorem dX9_worth_0 : decode cX9_worth 0 = .ok (.aload_n 0, 1) := by decide +kernel
theorem dX9_worth_1 : decode cX9_worth 1 = .ok (.getfield 10, 3) := by decide +kernel
theorem dX9_worth_4 : decode cX9_worth 4 = .ok (.iload_n 1, 1) := by decide +kernel
theorem dX9_worth_5 : decode cX9_worth 5 = .ok (.invokevirtual 94, 3) := by decide +kernel
theorem dX9_worth_8 : decode cX9_worth 8 = .ok (.astore 4, 2) := by decide +kernel
theorem dX9_worth_10 : decode cX9_worth 10 = .ok (.aload 4, 2) := by decide +kernel
theorem dX9_worth_12 : decode cX9_worth 12 = .ok (.ifnull 21, 3) := by decide +kernel
theorem dX9_worth_15 : decode cX9_worth 15 = .ok (.aload 4, 2) := by decide +kernel
theorem dX9_worth_17 : decode cX9_worth 17 = .ok (.iload_n 2, 1) := by decide +kernel
theorem dX9_worth_18 : decode cX9_worth 18 = .ok (.invokevirtual 125, 3) := by decide +kernel
theorem dX9_worth_21 : decode cX9_worth 21 = .ok (.ifCond .eq 12, 3) := by decide +kernel
theorem dX9_worth_24 : decode cX9_worth 24 = .ok (.aload 4, 2) := by decide +kernel
theorem dX9_worth_26 : decode cX9_worth 26 = .ok (.iload_n 3, 1) := by decide +kernel
theorem dX9_worth_27 : decode cX9_worth 27 = .ok (.invokevirtual 129, 3) := by decide +kernel
theorem dX9_worth_30 : decode cX9_worth 30 = .ok (.ifCond .ne 5, 3) := by decide +kernel
theorem dX9_worth_33 : decode cX9_worth 33 = .ok (.iconst (-1), 1) := by decide +kernel
theorem dX9_worth_34 : decode cX9_worth 34 = .ok (.ireturn, 1) := by decide +kernel
theorem dX9_worth_35 : decode cX9_worth 35 = .ok (.aload 4, 2) := by decide +kernel
theorem dX9_worth_37 : decode cX9_worth 37 = .ok (.iload_n 2, 1) := by decide +kernel
theorem dX9_worth_38 : decode cX9_worth 38 = .ok (.iload_n 3, 1) := by decide +kernel
theorem dX9_worth_39 : decode cX9_worth 39 = .ok (.invokevirtual 132, 3) := by decide +kernel
theorem dX9_worth_42 : decode cX9_worth 42 = .ok (.ireturn, 1) := by decide +kernel
theorem dX9_deed_0 : decode cX9_deed 0 = .ok (.aload_n 0, 1) := by decide +kernel
theorem dX9_deed_1 : decode cX9_deed 1 = .ok (.getfield 10, 3) := by decide +kernel
theorem dX9_deed_4 : decode cX9_deed 4 = .ok (.iconst 1, 1) := by decide +kernel
theorem dX9_deed_5 : decode cX9_deed 5 = .ok (.iload_n 1, 1) := by decide +kernel
theorem dX9_deed_6 : decode cX9_deed 6 = .ok (.invokevirtual 102, 3) := by decide +kernel
theorem dX9_deed_9 : decode cX9_deed 9 = .ok (.astore 4, 2) := by decide +kernel
theorem dX9_deed_11 : decode cX9_deed 11 = .ok (.aload 4, 2) := by decide +kernel
theorem dX9_deed_13 : decode cX9_deed 13 = .ok (.ifnonnull 6, 3) := by decide +kernel
theorem dX9_deed_16 : decode cX9_deed 16 = .ok (.bipush (-2), 2) := by decide +kernel
theorem dX9_deed_18 : decode cX9_deed 18 = .ok (.ireturn, 1) := by decide +kernel
theorem dX9_deed_19 : decode cX9_deed 19 = .ok (.iload_n 2, 1) := by decide +kernel
theorem dX9_deed_20 : decode cX9_deed 20 = .ok (.iconst (-1), 1) := by decide +kernel
theorem dX9_deed_21 : decode cX9_deed 21 = .ok (.if_icmp .ne 18, 3) := by decide +kernel
theorem dX9_deed_24 : decode cX9_deed 24 = .ok (.iload_n 3, 1) := by decide +kernel
theorem dX9_deed_25 : decode cX9_deed 25 = .ok (.ifCond .ne 11, 3) := by decide +kernel
theorem dX9_deed_28 : decode cX9_deed 28 = .ok (.aload 4, 2) := by decide +kernel
theorem dX9_deed_30 : decode cX9_deed 30 = .ok (.getfield 135, 3) := by decide +kernel
theorem dX9_deed_33 : decode cX9_deed 33 = .ok (.goto 5, 3) := by decide +kernel
theorem dX9_deed_36 : decode cX9_deed 36 = .ok (.bipush (-2), 2) := by decide +kernel
theorem dX9_deed_38 : decode cX9_deed 38 = .ok (.ireturn, 1) := by decide +kernel
theorem dX9_deed_39 : decode cX9_deed 39 = .ok (.aload 4, 2) := by decide +kernel
theorem dX9_deed_41 : decode cX9_deed 41 = .ok (.iload_n 2, 1) := by decide +kernel
theorem dX9_deed_42 : decode cX9_deed 42 = .ok (.invokevirtual 140, 3) := by decide +kernel
theorem dX9_deed_45 : decode cX9_deed 45 = .ok (.ifCond .eq 12, 3) := by decide +kernel
theorem dX9_deed_48 : decode cX9_deed 48 = .ok (.iload_n 3, 1) := by decide +kernel
theorem dX9_deed_49 : decode cX9_deed 49 = .ok (.ifCond .lt 8, 3) := by decide +kernel
theorem dX9_deed_52 : decode cX9_deed 52 = .ok (.iload_n 3, 1) := by decide +kernel
theorem dX9_deed_53 : decode cX9_deed 53 = .ok (.iconst 3, 1) := by decide +kernel
theorem dX9_deed_54 : decode cX9_deed 54 = .ok (.if_icmp .le 6, 3) := by decide +kernel
theorem dX9_deed_57 : decode cX9_deed 57 = .ok (.bipush (-2), 2) := by decide +kernel
theorem dX9_deed_59 : decode cX9_deed 59 = .ok (.ireturn, 1) := by decide +kernel
theorem dX9_deed_60 : decode cX9_deed 60 = .ok (.aload 4, 2) := by decide +kernel
theorem dX9_deed_62 : decode cX9_deed 62 = .ok (.iload_n 2, 1) := by decide +kernel
theorem dX9_deed_63 : decode cX9_deed 63 = .ok (.iload_n 3, 1) := by decide +kernel
theorem dX9_deed_64 : decode cX9_deed 64 = .ok (.invokevirtual 143, 3) := by decide +kernel
theorem dX9_deed_67 : decode cX9_deed 67 = .ok (.istore 5, 2) := by decide +kernel
theorem dX9_deed_69 : decode cX9_deed 69 = .ok (.iload_n 3, 1) := by decide +kernel
theorem dX9_deed_70 : decode cX9_deed 70 = .ok (.ifCond .ne 10, 3) := by decide +kernel
theorem dX9_deed_73 : decode cX9_deed 73 = .ok (.iload 5, 2) := by decide +kernel
theorem dX9_deed_75 : decode cX9_deed 75 = .ok (.iconst 4, 1) := by decide +kernel
theorem dX9_deed_76 : decode cX9_deed 76 = .ok (.isub, 1) := by decide +kernel
theorem dX9_deed_77 : decode cX9_deed 77 = .ok (.goto 5, 3) := by decide +kernel
theorem dX9_deed_80 : decode cX9_deed 80 = .ok (.iload 5, 2) := by decide +kernel
theorem dX9_deed_82 : decode cX9_deed 82 = .ok (.ireturn, 1) := by decide +kernel
theorem dX9_till_0 : decode cX9_till 0 = .ok (.aload_n 0, 1) := by decide +kernel
theorem dX9_till_1 : decode cX9_till 1 = .ok (.getfield 10, 3) := by decide +kernel
theorem dX9_till_4 : decode cX9_till 4 = .ok (.iload_n 1, 1) := by decide +kernel
theorem dX9_till_5 : decode cX9_till 5 = .ok (.invokevirtual 94, 3) := by decide +kernel
theorem dX9_till_8 : decode cX9_till 8 = .ok (.astore_n 3, 1) := by decide +kernel
theorem dX9_till_9 : decode cX9_till 9 = .ok (.aload_n 0, 1) := by decide +kernel
theorem dX9_till_10 : decode cX9_till 10 = .ok (.getfield 10, 3) := by decide +kernel
theorem dX9_till_13 : decode cX9_till 13 = .ok (.iconst 1, 1) := by decide +kernel
theorem dX9_till_14 : decode cX9_till 14 = .ok (.iload_n 2, 1) := by decide +kernel
theorem dX9_till_15 : decode cX9_till 15 = .ok (.invokevirtual 102, 3) := by decide +kernel
theorem dX9_till_18 : decode cX9_till 18 = .ok (.astore 4, 2) := by decide +kernel
theorem dX9_till_20 : decode cX9_till 20 = .ok (.aload_n 3, 1) := by decide +kernel
theorem dX9_till_21 : decode cX9_till 21 = .ok (.ifnull 8, 3) := by decide +kernel
theorem dX9_till_24 : decode cX9_till 24 = .ok (.aload 4, 2) := by decide +kernel
theorem dX9_till_26 : decode cX9_till 26 = .ok (.ifnonnull 5, 3) := by decide +kernel
theorem dX9_till_29 : decode cX9_till 29 = .ok (.iconst (-1), 1) := by decide +kernel
theorem dX9_till_30 : decode cX9_till 30 = .ok (.ireturn, 1) := by decide +kernel
theorem dX9_till_31 : decode cX9_till 31 = .ok (.aload_n 0, 1) := by decide +kernel
theorem dX9_till_32 : decode cX9_till 32 = .ok (.getfield 30, 3) := by decide +kernel
theorem dX9_till_35 : decode cX9_till 35 = .ok (.aload_n 3, 1) := by decide +kernel
theorem dX9_till_36 : decode cX9_till 36 = .ok (.aload 4, 2) := by decide +kernel
theorem dX9_till_38 : decode cX9_till 38 = .ok (.aload 4, 2) := by decide +kernel
theorem dX9_till_40 : decode cX9_till 40 = .ok (.getfield 135, 3) := by decide +kernel
theorem dX9_till_43 : decode cX9_till 43 = .ok (.invokevirtual 146, 3) := by decide +kernel
theorem dX9_till_46 : decode cX9_till 46 = .ok (.ireturn, 1) := by decide +kernel
theorem dX9_state_0 : decode cX9_state 0 = .ok (.aload_n 0, 1) := by decide +kernel
theorem dX9_state_1 : decode cX9_state 1 = .ok (.getfield 10, 3) := by decide +kernel
theorem dX9_state_4 : decode cX9_state 4 = .ok (.iload_n 1, 1) := by decide +kernel
theorem dX9_state_5 : decode cX9_state 5 = .ok (.invokevirtual 94, 3) := by decide +kernel
theorem dX9_state_8 : decode cX9_state 8 = .ok (.astore 5, 2) := by decide +kernel
theorem dX9_state_10 : decode cX9_state 10 = .ok (.aload_n 0, 1) := by decide +kernel
theorem dX9_state_11 : decode cX9_state 11 = .ok (.getfield 10, 3) := by decide +kernel
theorem dX9_state_14 : decode cX9_state 14 = .ok (.iconst 1, 1) := by decide +kernel
theorem dX9_state_15 : decode cX9_state 15 = .ok (.iload_n 2, 1) := by decide +kernel
theorem dX9_state_16 : decode cX9_state 16 = .ok (.invokevirtual 102, 3) := by decide +kernel
theorem dX9_state_19 : decode cX9_state 19 = .ok (.astore 6, 2) := by decide +kernel
theorem dX9_state_21 : decode cX9_state 21 = .ok (.aload 5, 2) := by decide +kernel
theorem dX9_state_23 : decode cX9_state 23 = .ok (.ifnull 21, 3) := by decide +kernel
theorem dX9_state_26 : decode cX9_state 26 = .ok (.aload 6, 2) := by decide +kernel
theorem dX9_state_28 : decode cX9_state 28 = .ok (.ifnull 16, 3) := by decide +kernel
theorem dX9_state_31 : decode cX9_state 31 = .ok (.iload_n 3, 1) := by decide +kernel
theorem dX9_state_32 : decode cX9_state 32 = .ok (.ifCond .lt 12, 3) := by decide +kernel
theorem dX9_state_35 : decode cX9_state 35 = .ok (.iload_n 3, 1) := by decide +kernel
theorem dX9_state_36 : decode cX9_state 36 = .ok (.aload 6, 2) := by decide +kernel
theorem dX9_state_38 : decode cX9_state 38 = .ok (.getfield 135, 3) := by decide +kernel
theorem dX9_state_41 : decode cX9_state 41 = .ok (.if_icmp .le 6, 3) := by decide +kernel
theorem dX9_state_44 : decode cX9_state 44 = .ok (.bipush (-2), 2) := by decide +kernel
theorem dX9_state_46 : decode cX9_state 46 = .ok (.ireturn, 1) := by decide +kernel
theorem dX9_state_47 : decode cX9_state 47 = .ok (.aload_n 0, 1) := by decide +kernel
theorem dX9_state_48 : decode cX9_state 48 = .ok (.getfield 30, 3) := by decide +kernel
theorem dX9_state_51 : decode cX9_state 51 = .ok (.aload 5, 2) := by decide +kernel
theorem dX9_state_53 : decode cX9_state 53 = .ok (.aload 6, 2) := by decide +kernel
theorem dX9_state_55 : decode cX9_state 55 = .ok (.iload_n 3, 1) := by decide +kernel
theorem dX9_state_56 : decode cX9_state 56 = .ok (.invokevirtual 146, 3) := by decide +kernel
theorem dX9_state_59 : decode cX9_state 59 = .ok (.iload_n 3, 1) := by decide +kernel
theorem dX9_state_60 : decode cX9_state 60 = .ok (.if_icmp .ne 15, 3) := by decide +kernel
theorem dX9_state_63 : decode cX9_state 63 = .ok (.aload_n 0, 1) := by decide +kernel
theorem dX9_state_64 : decode cX9_state 64 = .ok (.getfield 30, 3) := by decide +kernel
theorem dX9_state_67 : decode cX9_state 67 = .ok (.iload 4, 2) := by decide +kernel
theorem dX9_state_69 : decode cX9_state 69 = .ok (.invokevirtual 150, 3) := by decide +kernel
theorem dX9_state_72 : decode cX9_state 72 = .ok (.goto 5, 3) := by decide +kernel
theorem dX9_state_75 : decode cX9_state 75 = .ok (.bipush (-2), 2) := by decide +kernel
theorem dX9_state_77 : decode cX9_state 77 = .ok (.ireturn, 1) := by decide +kernel
theorem dX9_dinner_0 : decode cX9_dinner 0 = .ok (.aload_n 0, 1) := by decide +kernel
theorem dX9_dinner_1 : decode cX9_dinner 1 = .ok (.getfield 10, 3) := by decide +kernel
theorem dX9_dinner_4 : decode cX9_dinner 4 = .ok (.iconst 2, 1) := by decide +kernel
theorem dX9_dinner_5 : decode cX9_dinner 5 = .ok (.iload_n 1, 1) := by decide +kernel
theorem dX9_dinner_6 : decode cX9_dinner 6 = .ok (.invokevirtual 102, 3) := by decide +kernel
theorem dX9_dinner_9 : decode cX9_dinner 9 = .ok (.iload_n 2, 1) := by decide +kernel
theorem dX9_dinner_10 : decode cX9_dinner 10 = .ok (.iload_n 3, 1) := by decide +kernel
theorem dX9_dinner_11 : decode cX9_dinner 11 = .ok (.iconst 3, 1) := by decide +kernel
theorem dX9_dinner_12 : decode cX9_dinner 12 = .ok (.invokestatic 154, 3) := by decide +kernel
theorem dX9_dinner_15 : decode cX9_dinner 15 = .ok (.ireturn, 1) := by decide +kernel
theorem dX9_rowNumber_0 : decode cX9_rowNumber 0 = .ok (.aload_n 0, 1) := by decide +kernel
theorem dX9_rowNumber_1 : decode cX9_rowNumber 1 = .ok (.ifnonnull 6, 3) := by decide +kernel
theorem dX9_rowNumber_4 : decode cX9_rowNumber 4 = .ok (.bipush (-2), 2) := by decide +kernel
theorem dX9_rowNumber_6 : decode cX9_rowNumber 6 = .ok (.ireturn, 1) := by decide +kernel
theorem dX9_rowNumber_7 : decode cX9_rowNumber 7 = .ok (.iload_n 1, 1) := by decide +kernel
theorem dX9_rowNumber_8 : decode cX9_rowNumber 8 = .ok (.iconst (-1), 1) := by decide +kernel
theorem dX9_rowNumber_9 : decode cX9_rowNumber 9 = .ok (.if_icmp .ne 17, 3) := by decide +kernel
theorem dX9_rowNumber_12 : decode cX9_rowNumber 12 = .ok (.iload_n 2, 1) := by decide +kernel
theorem dX9_rowNumber_13 : decode cX9_rowNumber 13 = .ok (.ifCond .ne 10, 3) := by decide +kernel
theorem dX9_rowNumber_16 : decode cX9_rowNumber 16 = .ok (.aload_n 0, 1) := by decide +kernel
theorem dX9_rowNumber_17 : decode cX9_rowNumber 17 = .ok (.getfield 135, 3) := by decide +kernel
theorem dX9_rowNumber_20 : decode cX9_rowNumber 20 = .ok (.goto 5, 3) := by decide +kernel
theorem dX9_rowNumber_23 : decode cX9_rowNumber 23 = .ok (.bipush (-2), 2) := by decide +kernel
theorem dX9_rowNumber_25 : decode cX9_rowNumber 25 = .ok (.ireturn, 1) := by decide +kernel
theorem dX9_rowNumber_26 : decode cX9_rowNumber 26 = .ok (.aload_n 0, 1) := by decide +kernel
theorem dX9_rowNumber_27 : decode cX9_rowNumber 27 = .ok (.iload_n 1, 1) := by decide +kernel
theorem dX9_rowNumber_28 : decode cX9_rowNumber 28 = .ok (.invokevirtual 140, 3) := by decide +kernel
theorem dX9_rowNumber_31 : decode cX9_rowNumber 31 = .ok (.ifCond .eq 12, 3) := by decide +kernel
theorem dX9_rowNumber_34 : decode cX9_rowNumber 34 = .ok (.iload_n 2, 1) := by decide +kernel
theorem dX9_rowNumber_35 : decode cX9_rowNumber 35 = .ok (.ifCond .lt 8, 3) := by decide +kernel
theorem dX9_rowNumber_38 : decode cX9_rowNumber 38 = .ok (.iload_n 2, 1) := by decide +kernel
theorem dX9_rowNumber_39 : decode cX9_rowNumber 39 = .ok (.iload_n 3, 1) := by decide +kernel
theorem dX9_rowNumber_40 : decode cX9_rowNumber 40 = .ok (.if_icmp .lt 6, 3) := by decide +kernel
theorem dX9_rowNumber_43 : decode cX9_rowNumber 43 = .ok (.bipush (-2), 2) := by decide +kernel
theorem dX9_rowNumber_45 : decode cX9_rowNumber 45 = .ok (.ireturn, 1) := by decide +kernel
theorem dX9_rowNumber_46 : decode cX9_rowNumber 46 = .ok (.aload_n 0, 1) := by decide +kernel
theorem dX9_rowNumber_47 : decode cX9_rowNumber 47 = .ok (.iload_n 1, 1) := by decide +kernel
theorem dX9_rowNumber_48 : decode cX9_rowNumber 48 = .ok (.iload_n 2, 1) := by decide +kernel
theorem dX9_rowNumber_49 : decode cX9_rowNumber 49 = .ok (.iconst 1, 1) := by decide +kernel
theorem dX9_rowNumber_50 : decode cX9_rowNumber 50 = .ok (.iadd, 1) := by decide +kernel
theorem dX9_rowNumber_51 : decode cX9_rowNumber 51 = .ok (.invokevirtual 143, 3) := by decide +kernel
theorem dX9_rowNumber_54 : decode cX9_rowNumber 54 = .ok (.ireturn, 1) := by decide +kernel
