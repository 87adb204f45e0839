theorem dX2_roundsTo_0 : decode cX2_roundsTo 0 = .ok (.iload_n 1, 1) := by decide +kernel
theorem dX2_roundsTo_1 : decode cX2_roundsTo 1 = .ok (.istore_n 3, 1) := by decide +kernel
theorem dX2_roundsTo_2 : decode cX2_roundsTo 2 = .ok (.iconst 0, 1) := by decide +kernel
theorem dX2_roundsTo_3 : decode cX2_roundsTo 3 = .ok (.istore 4, 2) := by decide +kernel
theorem dX2_roundsTo_5 : decode cX2_roundsTo 5 = .ok (.iload 4, 2) := by decide +kernel
theorem dX2_roundsTo_7 : decode cX2_roundsTo 7 = .ok (.bipush 10, 2) := by decide +kernel
theorem dX2_roundsTo_9 : decode cX2_roundsTo 9 = .ok (.if_icmp .gt 68, 3) := by decide +kernel
theorem dX2_roundsTo_12 : decode cX2_roundsTo 12 = .ok (.iload_n 3, 1) := by decide +kernel
theorem dX2_roundsTo_13 : decode cX2_roundsTo 13 = .ok (.iload_n 2, 1) := by decide +kernel
theorem dX2_roundsTo_14 : decode cX2_roundsTo 14 = .ok (.invokestatic 91, 3) := by decide +kernel
theorem dX2_roundsTo_17 : decode cX2_roundsTo 17 = .ok (.ifCond .eq 6, 3) := by decide +kernel
theorem dX2_roundsTo_20 : decode cX2_roundsTo 20 = .ok (.iload 4, 2) := by decide +kernel
theorem dX2_roundsTo_22 : decode cX2_roundsTo 22 = .ok (.ireturn, 1) := by decide +kernel
theorem dX2_roundsTo_23 : decode cX2_roundsTo 23 = .ok (.iload_n 3, 1) := by decide +kernel
theorem dX2_roundsTo_24 : decode cX2_roundsTo 24 = .ok (.istore 5, 2) := by decide +kernel
theorem dX2_roundsTo_26 : decode cX2_roundsTo 26 = .ok (.iconst 0, 1) := by decide +kernel
theorem dX2_roundsTo_27 : decode cX2_roundsTo 27 = .ok (.istore 6, 2) := by decide +kernel
theorem dX2_roundsTo_29 : decode cX2_roundsTo 29 = .ok (.iload 6, 2) := by decide +kernel
theorem dX2_roundsTo_31 : decode cX2_roundsTo 31 = .ok (.aload_n 0, 1) := by decide +kernel
theorem dX2_roundsTo_32 : decode cX2_roundsTo 32 = .ok (.getfield 18, 3) := by decide +kernel
theorem dX2_roundsTo_35 : decode cX2_roundsTo 35 = .ok (.if_icmp .ge 33, 3) := by decide +kernel
theorem dX2_roundsTo_38 : decode cX2_roundsTo 38 = .ok (.aload_n 0, 1) := by decide +kernel
theorem dX2_roundsTo_39 : decode cX2_roundsTo 39 = .ok (.iload 6, 2) := by decide +kernel
theorem dX2_roundsTo_41 : decode cX2_roundsTo 41 = .ok (.iload_n 3, 1) := by decide +kernel
theorem dX2_roundsTo_42 : decode cX2_roundsTo 42 = .ok (.invokevirtual 99, 3) := by decide +kernel
theorem dX2_roundsTo_45 : decode cX2_roundsTo 45 = .ok (.ifCond .eq 17, 3) := by decide +kernel
theorem dX2_roundsTo_48 : decode cX2_roundsTo 48 = .ok (.iload 5, 2) := by decide +kernel
theorem dX2_roundsTo_50 : decode cX2_roundsTo 50 = .ok (.iconst 1, 1) := by decide +kernel
theorem dX2_roundsTo_51 : decode cX2_roundsTo 51 = .ok (.aload_n 0, 1) := by decide +kernel
theorem dX2_roundsTo_52 : decode cX2_roundsTo 52 = .ok (.getfield 43, 3) := by decide +kernel
theorem dX2_roundsTo_55 : decode cX2_roundsTo 55 = .ok (.iload 6, 2) := by decide +kernel
theorem dX2_roundsTo_57 : decode cX2_roundsTo 57 = .ok (.iaload, 1) := by decide +kernel
theorem dX2_roundsTo_58 : decode cX2_roundsTo 58 = .ok (.ishl, 1) := by decide +kernel
theorem dX2_roundsTo_59 : decode cX2_roundsTo 59 = .ok (.ior, 1) := by decide +kernel
theorem dX2_roundsTo_60 : decode cX2_roundsTo 60 = .ok (.istore 5, 2) := by decide +kernel
theorem dX2_roundsTo_62 : decode cX2_roundsTo 62 = .ok (.iinc 6 1, 3) := by decide +kernel
theorem dX2_roundsTo_65 : decode cX2_roundsTo 65 = .ok (.goto (-36), 3) := by decide +kernel
theorem dX2_roundsTo_68 : decode cX2_roundsTo 68 = .ok (.iload 5, 2) := by decide +kernel
theorem dX2_roundsTo_70 : decode cX2_roundsTo 70 = .ok (.istore_n 3, 1) := by decide +kernel
theorem dX2_roundsTo_71 : decode cX2_roundsTo 71 = .ok (.iinc 4 1, 3) := by decide +kernel
theorem dX2_roundsTo_74 : decode cX2_roundsTo 74 = .ok (.goto (-69), 3) := by decide +kernel
theorem dX2_roundsTo_77 : decode cX2_roundsTo 77 = .ok (.iconst (-1), 1) := by decide +kernel
theorem dX2_roundsTo_78 : decode cX2_roundsTo 78 = .ok (.ireturn, 1) := by decide +kernel
theorem dX2_spareLinks_0 : decode cX2_spareLinks 0 = .ok (.iconst 0, 1) := by decide +kernel
theorem dX2_spareLinks_1 : decode cX2_spareLinks 1 = .ok (.istore_n 1, 1) := by decide +kernel
theorem dX2_spareLinks_2 : decode cX2_spareLinks 2 = .ok (.iconst 0, 1) := by decide +kernel
theorem dX2_spareLinks_3 : decode cX2_spareLinks 3 = .ok (.istore_n 2, 1) := by decide +kernel
theorem dX2_spareLinks_4 : decode cX2_spareLinks 4 = .ok (.iload_n 2, 1) := by decide +kernel
theorem dX2_spareLinks_5 : decode cX2_spareLinks 5 = .ok (.aload_n 0, 1) := by decide +kernel
theorem dX2_spareLinks_6 : decode cX2_spareLinks 6 = .ok (.getfield 18, 3) := by decide +kernel
theorem dX2_spareLinks_9 : decode cX2_spareLinks 9 = .ok (.if_icmp .ge 51, 3) := by decide +kernel
theorem dX2_spareLinks_12 : decode cX2_spareLinks 12 = .ok (.iconst 1, 1) := by decide +kernel
theorem dX2_spareLinks_13 : decode cX2_spareLinks 13 = .ok (.aload_n 0, 1) := by decide +kernel
theorem dX2_spareLinks_14 : decode cX2_spareLinks 14 = .ok (.getfield 37, 3) := by decide +kernel
theorem dX2_spareLinks_17 : decode cX2_spareLinks 17 = .ok (.iload_n 2, 1) := by decide +kernel
theorem dX2_spareLinks_18 : decode cX2_spareLinks 18 = .ok (.iaload, 1) := by decide +kernel
theorem dX2_spareLinks_19 : decode cX2_spareLinks 19 = .ok (.ishl, 1) := by decide +kernel
theorem dX2_spareLinks_20 : decode cX2_spareLinks 20 = .ok (.iconst 1, 1) := by decide +kernel
theorem dX2_spareLinks_21 : decode cX2_spareLinks 21 = .ok (.aload_n 0, 1) := by decide +kernel
theorem dX2_spareLinks_22 : decode cX2_spareLinks 22 = .ok (.getfield 40, 3) := by decide +kernel
theorem dX2_spareLinks_25 : decode cX2_spareLinks 25 = .ok (.iload_n 2, 1) := by decide +kernel
theorem dX2_spareLinks_26 : decode cX2_spareLinks 26 = .ok (.iaload, 1) := by decide +kernel
theorem dX2_spareLinks_27 : decode cX2_spareLinks 27 = .ok (.ishl, 1) := by decide +kernel
theorem dX2_spareLinks_28 : decode cX2_spareLinks 28 = .ok (.ior, 1) := by decide +kernel
theorem dX2_spareLinks_29 : decode cX2_spareLinks 29 = .ok (.istore_n 3, 1) := by decide +kernel
theorem dX2_spareLinks_30 : decode cX2_spareLinks 30 = .ok (.aload_n 0, 1) := by decide +kernel
theorem dX2_spareLinks_31 : decode cX2_spareLinks 31 = .ok (.iload_n 3, 1) := by decide +kernel
theorem dX2_spareLinks_32 : decode cX2_spareLinks 32 = .ok (.iload_n 2, 1) := by decide +kernel
theorem dX2_spareLinks_33 : decode cX2_spareLinks 33 = .ok (.invokevirtual 102, 3) := by decide +kernel
theorem dX2_spareLinks_36 : decode cX2_spareLinks 36 = .ok (.aload_n 0, 1) := by decide +kernel
theorem dX2_spareLinks_37 : decode cX2_spareLinks 37 = .ok (.getfield 43, 3) := by decide +kernel
theorem dX2_spareLinks_40 : decode cX2_spareLinks 40 = .ok (.iload_n 2, 1) := by decide +kernel
theorem dX2_spareLinks_41 : decode cX2_spareLinks 41 = .ok (.iaload, 1) := by decide +kernel
theorem dX2_spareLinks_42 : decode cX2_spareLinks 42 = .ok (.invokestatic 91, 3) := by decide +kernel
theorem dX2_spareLinks_45 : decode cX2_spareLinks 45 = .ok (.ifCond .eq 9, 3) := by decide +kernel
theorem dX2_spareLinks_48 : decode cX2_spareLinks 48 = .ok (.iload_n 1, 1) := by decide +kernel
theorem dX2_spareLinks_49 : decode cX2_spareLinks 49 = .ok (.iconst 1, 1) := by decide +kernel
theorem dX2_spareLinks_50 : decode cX2_spareLinks 50 = .ok (.iload_n 2, 1) := by decide +kernel
theorem dX2_spareLinks_51 : decode cX2_spareLinks 51 = .ok (.ishl, 1) := by decide +kernel
theorem dX2_spareLinks_52 : decode cX2_spareLinks 52 = .ok (.ior, 1) := by decide +kernel
theorem dX2_spareLinks_53 : decode cX2_spareLinks 53 = .ok (.istore_n 1, 1) := by decide +kernel
theorem dX2_spareLinks_54 : decode cX2_spareLinks 54 = .ok (.iinc 2 1, 3) := by decide +kernel
theorem dX2_spareLinks_57 : decode cX2_spareLinks 57 = .ok (.goto (-53), 3) := by decide +kernel
theorem dX2_spareLinks_60 : decode cX2_spareLinks 60 = .ok (.iload_n 1, 1) := by decide +kernel
theorem dX2_spareLinks_61 : decode cX2_spareLinks 61 = .ok (.ireturn, 1) := by decide +kernel
theorem dX2_fewestKept_0 : decode cX2_fewestKept 0 = .ok (.iconst (-1), 1) := by decide +kernel
theorem dX2_fewestKept_1 : decode cX2_fewestKept 1 = .ok (.istore_n 2, 1) := by decide +kernel
theorem dX2_fewestKept_2 : decode cX2_fewestKept 2 = .ok (.bipush 11, 2) := by decide +kernel
theorem dX2_fewestKept_4 : decode cX2_fewestKept 4 = .ok (.istore_n 3, 1) := by decide +kernel
theorem dX2_fewestKept_5 : decode cX2_fewestKept 5 = .ok (.iconst 0, 1) := by decide +kernel
theorem dX2_fewestKept_6 : decode cX2_fewestKept 6 = .ok (.istore 4, 2) := by decide +kernel
theorem dX2_fewestKept_8 : decode cX2_fewestKept 8 = .ok (.iload 4, 2) := by decide +kernel
theorem dX2_fewestKept_10 : decode cX2_fewestKept 10 = .ok (.aload_n 0, 1) := by decide +kernel
theorem dX2_fewestKept_11 : decode cX2_fewestKept 11 = .ok (.invokevirtual 58, 3) := by decide +kernel
theorem dX2_fewestKept_14 : decode cX2_fewestKept 14 = .ok (.if_icmp .ge 58, 3) := by decide +kernel
theorem dX2_fewestKept_17 : decode cX2_fewestKept 17 = .ok (.iload 4, 2) := by decide +kernel
theorem dX2_fewestKept_19 : decode cX2_fewestKept 19 = .ok (.invokestatic 105, 3) := by decide +kernel
theorem dX2_fewestKept_22 : decode cX2_fewestKept 22 = .ok (.istore 5, 2) := by decide +kernel
theorem dX2_fewestKept_24 : decode cX2_fewestKept 24 = .ok (.iload 5, 2) := by decide +kernel
theorem dX2_fewestKept_26 : decode cX2_fewestKept 26 = .ok (.iload_n 3, 1) := by decide +kernel
theorem dX2_fewestKept_27 : decode cX2_fewestKept 27 = .ok (.if_icmp .ge 39, 3) := by decide +kernel
theorem dX2_fewestKept_30 : decode cX2_fewestKept 30 = .ok (.iload 4, 2) := by decide +kernel
theorem dX2_fewestKept_32 : decode cX2_fewestKept 32 = .ok (.iload_n 1, 1) := by decide +kernel
theorem dX2_fewestKept_33 : decode cX2_fewestKept 33 = .ok (.invokestatic 91, 3) := by decide +kernel
theorem dX2_fewestKept_36 : decode cX2_fewestKept 36 = .ok (.ifCond .eq 30, 3) := by decide +kernel
theorem dX2_fewestKept_39 : decode cX2_fewestKept 39 = .ok (.aload_n 0, 1) := by decide +kernel
theorem dX2_fewestKept_40 : decode cX2_fewestKept 40 = .ok (.aload_n 0, 1) := by decide +kernel
theorem dX2_fewestKept_41 : decode cX2_fewestKept 41 = .ok (.invokevirtual 111, 3) := by decide +kernel
theorem dX2_fewestKept_44 : decode cX2_fewestKept 44 = .ok (.iload 4, 2) := by decide +kernel
theorem dX2_fewestKept_46 : decode cX2_fewestKept 46 = .ok (.iconst (-1), 1) := by decide +kernel
theorem dX2_fewestKept_47 : decode cX2_fewestKept 47 = .ok (.ixor, 1) := by decide +kernel
theorem dX2_fewestKept_48 : decode cX2_fewestKept 48 = .ok (.iand, 1) := by decide +kernel
theorem dX2_fewestKept_49 : decode cX2_fewestKept 49 = .ok (.iconst (-1), 1) := by decide +kernel
theorem dX2_fewestKept_50 : decode cX2_fewestKept 50 = .ok (.invokevirtual 102, 3) := by decide +kernel
theorem dX2_fewestKept_53 : decode cX2_fewestKept 53 = .ok (.iload_n 1, 1) := by decide +kernel
theorem dX2_fewestKept_54 : decode cX2_fewestKept 54 = .ok (.invokestatic 91, 3) := by decide +kernel
theorem dX2_fewestKept_57 : decode cX2_fewestKept 57 = .ok (.ifCond .ne 9, 3) := by decide +kernel
theorem dX2_fewestKept_60 : decode cX2_fewestKept 60 = .ok (.iload 4, 2) := by decide +kernel
theorem dX2_fewestKept_62 : decode cX2_fewestKept 62 = .ok (.istore_n 2, 1) := by decide +kernel
theorem dX2_fewestKept_63 : decode cX2_fewestKept 63 = .ok (.iload 5, 2) := by decide +kernel
theorem dX2_fewestKept_65 : decode cX2_fewestKept 65 = .ok (.istore_n 3, 1) := by decide +kernel
theorem dX2_fewestKept_66 : decode cX2_fewestKept 66 = .ok (.iinc 4 1, 3) := by decide +kernel
theorem dX2_fewestKept_69 : decode cX2_fewestKept 69 = .ok (.goto (-61), 3) := by decide +kernel
theorem dX2_fewestKept_72 : decode cX2_fewestKept 72 = .ok (.iload_n 2, 1) := by decide +kernel
theorem dX2_fewestKept_73 : decode cX2_fewestKept 73 = .ok (.ireturn, 1) := by decide +kernel
theorem dX2_fewestGiving_0 : decode cX2_fewestGiving 0 = .ok (.iconst (-1), 1) := by decide +kernel
theorem dX2_fewestGiving_1 : decode cX2_fewestGiving 1 = .ok (.istore_n 2, 1) := by decide +kernel
theorem dX2_fewestGiving_2 : decode cX2_fewestGiving 2 = .ok (.bipush 11, 2) := by decide +kernel
theorem dX2_fewestGiving_4 : decode cX2_fewestGiving 4 = .ok (.istore_n 3, 1) := by decide +kernel
theorem dX2_fewestGiving_5 : decode cX2_fewestGiving 5 = .ok (.iconst 0, 1) := by decide +kernel
theorem dX2_fewestGiving_6 : decode cX2_fewestGiving 6 = .ok (.istore 4, 2) := by decide +kernel
theorem dX2_fewestGiving_8 : decode cX2_fewestGiving 8 = .ok (.iload 4, 2) := by decide +kernel
theorem dX2_fewestGiving_10 : decode cX2_fewestGiving 10 = .ok (.aload_n 0, 1) := by decide +kernel
theorem dX2_fewestGiving_11 : decode cX2_fewestGiving 11 = .ok (.invokevirtual 58, 3) := by decide +kernel
theorem dX2_fewestGiving_14 : decode cX2_fewestGiving 14 = .ok (.if_icmp .ge 51, 3) := by decide +kernel
theorem dX2_fewestGiving_17 : decode cX2_fewestGiving 17 = .ok (.iload 4, 2) := by decide +kernel
theorem dX2_fewestGiving_19 : decode cX2_fewestGiving 19 = .ok (.invokestatic 105, 3) := by decide +kernel
theorem dX2_fewestGiving_22 : decode cX2_fewestGiving 22 = .ok (.istore 5, 2) := by decide +kernel
theorem dX2_fewestGiving_24 : decode cX2_fewestGiving 24 = .ok (.iload 5, 2) := by decide +kernel
theorem dX2_fewestGiving_26 : decode cX2_fewestGiving 26 = .ok (.iload_n 3, 1) := by decide +kernel
theorem dX2_fewestGiving_27 : decode cX2_fewestGiving 27 = .ok (.if_icmp .ge 32, 3) := by decide +kernel
theorem dX2_fewestGiving_30 : decode cX2_fewestGiving 30 = .ok (.iload 4, 2) := by decide +kernel
theorem dX2_fewestGiving_32 : decode cX2_fewestGiving 32 = .ok (.iload_n 1, 1) := by decide +kernel
theorem dX2_fewestGiving_33 : decode cX2_fewestGiving 33 = .ok (.invokestatic 91, 3) := by decide +kernel
theorem dX2_fewestGiving_36 : decode cX2_fewestGiving 36 = .ok (.ifCond .ne 23, 3) := by decide +kernel
theorem dX2_fewestGiving_39 : decode cX2_fewestGiving 39 = .ok (.aload_n 0, 1) := by decide +kernel
theorem dX2_fewestGiving_40 : decode cX2_fewestGiving 40 = .ok (.iload 4, 2) := by decide +kernel
theorem dX2_fewestGiving_42 : decode cX2_fewestGiving 42 = .ok (.iconst (-1), 1) := by decide +kernel
theorem dX2_fewestGiving_43 : decode cX2_fewestGiving 43 = .ok (.invokevirtual 102, 3) := by decide +kernel
theorem dX2_fewestGiving_46 : decode cX2_fewestGiving 46 = .ok (.iload_n 1, 1) := by decide +kernel
theorem dX2_fewestGiving_47 : decode cX2_fewestGiving 47 = .ok (.invokestatic 91, 3) := by decide +kernel
theorem dX2_fewestGiving_50 : decode cX2_fewestGiving 50 = .ok (.ifCond .eq 9, 3) := by decide +kernel
theorem dX2_fewestGiving_53 : decode cX2_fewestGiving 53 = .ok (.iload 4, 2) := by decide +kernel
theorem dX2_fewestGiving_55 : decode cX2_fewestGiving 55 = .ok (.istore_n 2, 1) := by decide +kernel
theorem dX2_fewestGiving_56 : decode cX2_fewestGiving 56 = .ok (.iload 5, 2) := by decide +kernel
theorem dX2_fewestGiving_58 : decode cX2_fewestGiving 58 = .ok (.istore_n 3, 1) := by decide +kernel
theorem dX2_fewestGiving_59 : decode cX2_fewestGiving 59 = .ok (.iinc 4 1, 3) := by decide +kernel
theorem dX2_fewestGiving_62 : decode cX2_fewestGiving 62 = .ok (.goto (-54), 3) := by decide +kernel
theorem dX2_fewestGiving_65 : decode cX2_fewestGiving 65 = .ok (.iload_n 2, 1) := by decide +kernel
theorem dX2_fewestGiving_66 : decode cX2_fewestGiving 66 = .ok (.ireturn, 1) := by decide +kernel
theorem dX2_mayBeTold_0 : decode cX2_mayBeTold 0 = .ok (.iload_n 1, 1) := by decide +kernel
theorem dX2_mayBeTold_1 : decode cX2_mayBeTold 1 = .ok (.iconst 1, 1) := by decide +kernel
theorem dX2_mayBeTold_2 : decode cX2_mayBeTold 2 = .ok (.if_icmp .lt 9, 3) := by decide +kernel
theorem dX2_mayBeTold_5 : decode cX2_mayBeTold 5 = .ok (.iload_n 1, 1) := by decide +kernel
theorem dX2_mayBeTold_6 : decode cX2_mayBeTold 6 = .ok (.bipush 99, 2) := by decide +kernel
theorem dX2_mayBeTold_8 : decode cX2_mayBeTold 8 = .ok (.if_icmp .le 5, 3) := by decide +kernel
theorem dX2_mayBeTold_11 : decode cX2_mayBeTold 11 = .ok (.iconst 0, 1) := by decide +kernel
theorem dX2_mayBeTold_12 : decode cX2_mayBeTold 12 = .ok (.ireturn, 1) := by decide +kernel
theorem dX2_mayBeTold_13 : decode cX2_mayBeTold 13 = .ok (.iconst 0, 1) := by decide +kernel
theorem dX2_mayBeTold_14 : decode cX2_mayBeTold 14 = .ok (.istore_n 2, 1) := by decide +kernel
theorem dX2_mayBeTold_15 : decode cX2_mayBeTold 15 = .ok (.iload_n 2, 1) := by decide +kernel
theorem dX2_mayBeTold_16 : decode cX2_mayBeTold 16 = .ok (.aload_n 0, 1) := by decide +kernel
theorem dX2_mayBeTold_17 : decode cX2_mayBeTold 17 = .ok (.getfield 15, 3) := by decide +kernel
theorem dX2_mayBeTold_20 : decode cX2_mayBeTold 20 = .ok (.if_icmp .ge 21, 3) := by decide +kernel
theorem dX2_mayBeTold_23 : decode cX2_mayBeTold 23 = .ok (.aload_n 0, 1) := by decide +kernel
theorem dX2_mayBeTold_24 : decode cX2_mayBeTold 24 = .ok (.getfield 34, 3) := by decide +kernel
theorem dX2_mayBeTold_27 : decode cX2_mayBeTold 27 = .ok (.iload_n 2, 1) := by decide +kernel
theorem dX2_mayBeTold_28 : decode cX2_mayBeTold 28 = .ok (.iaload, 1) := by decide +kernel
theorem dX2_mayBeTold_29 : decode cX2_mayBeTold 29 = .ok (.iload_n 1, 1) := by decide +kernel
theorem dX2_mayBeTold_30 : decode cX2_mayBeTold 30 = .ok (.if_icmp .le 5, 3) := by decide +kernel
theorem dX2_mayBeTold_33 : decode cX2_mayBeTold 33 = .ok (.iconst 0, 1) := by decide +kernel
theorem dX2_mayBeTold_34 : decode cX2_mayBeTold 34 = .ok (.ireturn, 1) := by decide +kernel
theorem dX2_mayBeTold_35 : decode cX2_mayBeTold 35 = .ok (.iinc 2 1, 3) := by decide +kernel
theorem dX2_mayBeTold_38 : decode cX2_mayBeTold 38 = .ok (.goto (-23), 3) := by decide +kernel
theorem dX2_mayBeTold_41 : decode cX2_mayBeTold 41 = .ok (.iconst 1, 1) := by decide +kernel
theorem dX2_mayBeTold_42 : decode cX2_mayBeTold 42 = .ok (.ireturn, 1) := by decide +kernel
theorem dX2_countSets_0 : decode cX2_countSets 0 = .ok (.iconst 0, 1) := by decide +kernel
theorem dX2_countSets_1 : decode cX2_countSets 1 = .ok (.istore_n 2, 1) := by decide +kernel
theorem dX2_countSets_2 : decode cX2_countSets 2 = .ok (.iconst 0, 1) := by decide +kernel
theorem dX2_countSets_3 : decode cX2_countSets 3 = .ok (.istore_n 3, 1) := by decide +kernel
theorem dX2_countSets_4 : decode cX2_countSets 4 = .ok (.iload_n 3, 1) := by decide +kernel
theorem dX2_countSets_5 : decode cX2_countSets 5 = .ok (.aload_n 0, 1) := by decide +kernel
theorem dX2_countSets_6 : decode cX2_countSets 6 = .ok (.invokevirtual 58, 3) := by decide +kernel
theorem dX2_countSets_9 : decode cX2_countSets 9 = .ok (.if_icmp .ge 25, 3) := by decide +kernel
theorem dX2_countSets_12 : decode cX2_countSets 12 = .ok (.iload_n 2, 1) := by decide +kernel
theorem dX2_countSets_13 : decode cX2_countSets 13 = .ok (.iload_n 3, 1) := by decide +kernel
theorem dX2_countSets_14 : decode cX2_countSets 14 = .ok (.invokestatic 105, 3) := by decide +kernel
theorem dX2_countSets_17 : decode cX2_countSets 17 = .ok (.iload_n 1, 1) := by decide +kernel
theorem dX2_countSets_18 : decode cX2_countSets 18 = .ok (.if_icmp .ne 7, 3) := by decide +kernel
theorem dX2_countSets_21 : decode cX2_countSets 21 = .ok (.iconst 1, 1) := by decide +kernel
theorem dX2_countSets_22 : decode cX2_countSets 22 = .ok (.goto 4, 3) := by decide +kernel
theorem dX2_countSets_25 : decode cX2_countSets 25 = .ok (.iconst 0, 1) := by decide +kernel
theorem dX2_countSets_26 : decode cX2_countSets 26 = .ok (.iadd, 1) := by decide +kernel
theorem dX2_countSets_27 : decode cX2_countSets 27 = .ok (.istore_n 2, 1) := by decide +kernel
theorem dX2_countSets_28 : decode cX2_countSets 28 = .ok (.iinc 3 1, 3) := by decide +kernel
theorem dX2_countSets_31 : decode cX2_countSets 31 = .ok (.goto (-27), 3) := by decide +kernel
theorem dX2_countSets_34 : decode cX2_countSets 34 = .ok (.iload_n 2, 1) := by decide +kernel
theorem dX2_countSets_35 : decode cX2_countSets 35 = .ok (.ireturn, 1) := by decide +kernel
theorem dX2_countHiding_0 : decode cX2_countHiding 0 = .ok (.iconst 0, 1) := by decide +kernel
theorem dX2_countHiding_1 : decode cX2_countHiding 1 = .ok (.istore_n 3, 1) := by decide +kernel
theorem dX2_countHiding_2 : decode cX2_countHiding 2 = .ok (.iconst 0, 1) := by decide +kernel
theorem dX2_countHiding_3 : decode cX2_countHiding 3 = .ok (.istore 4, 2) := by decide +kernel
theorem dX2_countHiding_5 : decode cX2_countHiding 5 = .ok (.iload 4, 2) := by decide +kernel
theorem dX2_countHiding_7 : decode cX2_countHiding 7 = .ok (.aload_n 0, 1) := by decide +kernel
theorem dX2_countHiding_8 : decode cX2_countHiding 8 = .ok (.invokevirtual 58, 3) := by decide +kernel
theorem dX2_countHiding_11 : decode cX2_countHiding 11 = .ok (.if_icmp .ge 35, 3) := by decide +kernel
theorem dX2_countHiding_14 : decode cX2_countHiding 14 = .ok (.iload 4, 2) := by decide +kernel
theorem dX2_countHiding_16 : decode cX2_countHiding 16 = .ok (.invokestatic 105, 3) := by decide +kernel
theorem dX2_countHiding_19 : decode cX2_countHiding 19 = .ok (.iload_n 2, 1) := by decide +kernel
theorem dX2_countHiding_20 : decode cX2_countHiding 20 = .ok (.if_icmp .ne 20, 3) := by decide +kernel
theorem dX2_countHiding_23 : decode cX2_countHiding 23 = .ok (.aload_n 0, 1) := by decide +kernel
theorem dX2_countHiding_24 : decode cX2_countHiding 24 = .ok (.iload 4, 2) := by decide +kernel
theorem dX2_countHiding_26 : decode cX2_countHiding 26 = .ok (.iconst (-1), 1) := by decide +kernel
theorem dX2_countHiding_27 : decode cX2_countHiding 27 = .ok (.invokevirtual 102, 3) := by decide +kernel
theorem dX2_countHiding_30 : decode cX2_countHiding 30 = .ok (.iload_n 1, 1) := by decide +kernel
theorem dX2_countHiding_31 : decode cX2_countHiding 31 = .ok (.invokestatic 91, 3) := by decide +kernel
theorem dX2_countHiding_34 : decode cX2_countHiding 34 = .ok (.ifCond .ne 6, 3) := by decide +kernel
theorem dX2_countHiding_37 : decode cX2_countHiding 37 = .ok (.iinc 3 1, 3) := by decide +kernel
theorem dX2_countHiding_40 : decode cX2_countHiding 40 = .ok (.iinc 4 1, 3) := by decide +kernel
theorem dX2_countHiding_43 : decode cX2_countHiding 43 = .ok (.goto (-38), 3) := by decide +kernel
theorem dX2_countHiding_46 : decode cX2_countHiding 46 = .ok (.iload_n 3, 1) := by decide +kernel
theorem dX2_countHiding_47 : decode cX2_countHiding 47 = .ok (.ireturn, 1) := by decide +kernel
theorem dX2_weightLeaking_0 : decode cX2_weightLeaking 0 = .ok (.iconst 0, 1) := by decide +kernel
theorem dX2_weightLeaking_1 : decode cX2_weightLeaking 1 = .ok (.istore_n 2, 1) := by decide +kernel
theorem dX2_weightLeaking_2 : decode cX2_weightLeaking 2 = .ok (.iconst 0, 1) := by decide +kernel
theorem dX2_weightLeaking_3 : decode cX2_weightLeaking 3 = .ok (.istore_n 3, 1) := by decide +kernel
theorem dX2_weightLeaking_4 : decode cX2_weightLeaking 4 = .ok (.iload_n 3, 1) := by decide +kernel
theorem dX2_weightLeaking_5 : decode cX2_weightLeaking 5 = .ok (.aload_n 0, 1) := by decide +kernel
theorem dX2_weightLeaking_6 : decode cX2_weightLeaking 6 = .ok (.invokevirtual 58, 3) := by decide +kernel
theorem dX2_weightLeaking_9 : decode cX2_weightLeaking 9 = .ok (.if_icmp .ge 30, 3) := by decide +kernel
theorem dX2_weightLeaking_12 : decode cX2_weightLeaking 12 = .ok (.iload_n 3, 1) := by decide +kernel
theorem dX2_weightLeaking_13 : decode cX2_weightLeaking 13 = .ok (.invokestatic 105, 3) := by decide +kernel
theorem dX2_weightLeaking_16 : decode cX2_weightLeaking 16 = .ok (.iload_n 1, 1) := by decide +kernel
theorem dX2_weightLeaking_17 : decode cX2_weightLeaking 17 = .ok (.if_icmp .ne 16, 3) := by decide +kernel
theorem dX2_weightLeaking_20 : decode cX2_weightLeaking 20 = .ok (.iload_n 2, 1) := by decide +kernel
theorem dX2_weightLeaking_21 : decode cX2_weightLeaking 21 = .ok (.aload_n 0, 1) := by decide +kernel
theorem dX2_weightLeaking_22 : decode cX2_weightLeaking 22 = .ok (.aload_n 0, 1) := by decide +kernel
theorem dX2_weightLeaking_23 : decode cX2_weightLeaking 23 = .ok (.iload_n 3, 1) := by decide +kernel
theorem dX2_weightLeaking_24 : decode cX2_weightLeaking 24 = .ok (.iconst (-1), 1) := by decide +kernel
theorem dX2_weightLeaking_25 : decode cX2_weightLeaking 25 = .ok (.invokevirtual 102, 3) := by decide +kernel
theorem dX2_weightLeaking_28 : decode cX2_weightLeaking 28 = .ok (.invokevirtual 114, 3) := by decide +kernel
theorem dX2_weightLeaking_31 : decode cX2_weightLeaking 31 = .ok (.iadd, 1) := by decide +kernel
theorem dX2_weightLeaking_32 : decode cX2_weightLeaking 32 = .ok (.istore_n 2, 1) := by decide +kernel
theorem dX2_weightLeaking_33 : decode cX2_weightLeaking 33 = .ok (.iinc 3 1, 3) := by decide +kernel
theorem dX2_weightLeaking_36 : decode cX2_weightLeaking 36 = .ok (.goto (-32), 3) := by decide +kernel
theorem dX2_weightLeaking_39 : decode cX2_weightLeaking 39 = .ok (.iload_n 2, 1) := by decide +kernel
theorem dX2_weightLeaking_40 : decode cX2_weightLeaking 40 = .ok (.ireturn, 1) := by decide +kernel
theorem dX2_weightKeptOut_0 : decode cX2_weightKeptOut 0 = .ok (.aload_n 0, 1) := by decide +kernel
theorem dX2_weightKeptOut_1 : decode cX2_weightKeptOut 1 = .ok (.aload_n 0, 1) := by decide +kernel
theorem dX2_weightKeptOut_2 : decode cX2_weightKeptOut 2 = .ok (.invokevirtual 111, 3) := by decide +kernel
theorem dX2_weightKeptOut_5 : decode cX2_weightKeptOut 5 = .ok (.aload_n 0, 1) := by decide +kernel
theorem dX2_weightKeptOut_6 : decode cX2_weightKeptOut 6 = .ok (.aload_n 0, 1) := by decide +kernel
theorem dX2_weightKeptOut_7 : decode cX2_weightKeptOut 7 = .ok (.invokevirtual 111, 3) := by decide +kernel
theorem dX2_weightKeptOut_10 : decode cX2_weightKeptOut 10 = .ok (.iload_n 1, 1) := by decide +kernel
theorem dX2_weightKeptOut_11 : decode cX2_weightKeptOut 11 = .ok (.iconst (-1), 1) := by decide +kernel
theorem dX2_weightKeptOut_12 : decode cX2_weightKeptOut 12 = .ok (.ixor, 1) := by decide +kernel
theorem dX2_weightKeptOut_13 : decode cX2_weightKeptOut 13 = .ok (.iand, 1) := by decide +kernel
theorem dX2_weightKeptOut_14 : decode cX2_weightKeptOut 14 = .ok (.iconst (-1), 1) := by decide +kernel
theorem dX2_weightKeptOut_15 : decode cX2_weightKeptOut 15 = .ok (.invokevirtual 102, 3) := by decide +kernel
theorem dX2_weightKeptOut_18 : decode cX2_weightKeptOut 18 = .ok (.iconst (-1), 1) := by decide +kernel
theorem dX2_weightKeptOut_19 : decode cX2_weightKeptOut 19 = .ok (.ixor, 1) := by decide +kernel
theorem dX2_weightKeptOut_20 : decode cX2_weightKeptOut 20 = .ok (.iand, 1) := by decide +kernel
theorem dX2_weightKeptOut_21 : decode cX2_weightKeptOut 21 = .ok (.invokevirtual 114, 3) := by decide +kernel
theorem dX2_weightKeptOut_24 : decode cX2_weightKeptOut 24 = .ok (.ireturn, 1) := by decide +kernel
theorem dX2_bestTakenAway_0 : decode cX2_bestTakenAway 0 = .ok (.iconst 0, 1) := by decide +kernel
theorem dX2_bestTakenAway_1 : decode cX2_bestTakenAway 1 = .ok (.istore_n 2, 1) := by decide +kernel
theorem dX2_bestTakenAway_2 : decode cX2_bestTakenAway 2 = .ok (.iconst 0, 1) := by decide +kernel
theorem dX2_bestTakenAway_3 : decode cX2_bestTakenAway 3 = .ok (.istore_n 3, 1) := by decide +kernel
theorem dX2_bestTakenAway_4 : decode cX2_bestTakenAway 4 = .ok (.iconst 1, 1) := by decide +kernel
theorem dX2_bestTakenAway_5 : decode cX2_bestTakenAway 5 = .ok (.istore 4, 2) := by decide +kernel
theorem dX2_bestTakenAway_7 : decode cX2_bestTakenAway 7 = .ok (.iload 4, 2) := by decide +kernel
theorem dX2_bestTakenAway_9 : decode cX2_bestTakenAway 9 = .ok (.aload_n 0, 1) := by decide +kernel
theorem dX2_bestTakenAway_10 : decode cX2_bestTakenAway 10 = .ok (.invokevirtual 58, 3) := by decide +kernel
theorem dX2_bestTakenAway_13 : decode cX2_bestTakenAway 13 = .ok (.if_icmp .ge 60, 3) := by decide +kernel
theorem dX2_bestTakenAway_16 : decode cX2_bestTakenAway 16 = .ok (.iload 4, 2) := by decide +kernel
theorem dX2_bestTakenAway_18 : decode cX2_bestTakenAway 18 = .ok (.invokestatic 105, 3) := by decide +kernel
theorem dX2_bestTakenAway_21 : decode cX2_bestTakenAway 21 = .ok (.istore 5, 2) := by decide +kernel
theorem dX2_bestTakenAway_23 : decode cX2_bestTakenAway 23 = .ok (.iload 5, 2) := by decide +kernel
theorem dX2_bestTakenAway_25 : decode cX2_bestTakenAway 25 = .ok (.iload_n 1, 1) := by decide +kernel
theorem dX2_bestTakenAway_26 : decode cX2_bestTakenAway 26 = .ok (.if_icmp .le 6, 3) := by decide +kernel
theorem dX2_bestTakenAway_29 : decode cX2_bestTakenAway 29 = .ok (.goto 38, 3) := by decide +kernel
theorem dX2_bestTakenAway_32 : decode cX2_bestTakenAway 32 = .ok (.aload_n 0, 1) := by decide +kernel
theorem dX2_bestTakenAway_33 : decode cX2_bestTakenAway 33 = .ok (.iload 4, 2) := by decide +kernel
theorem dX2_bestTakenAway_35 : decode cX2_bestTakenAway 35 = .ok (.invokevirtual 117, 3) := by decide +kernel
theorem dX2_bestTakenAway_38 : decode cX2_bestTakenAway 38 = .ok (.istore 6, 2) := by decide +kernel
theorem dX2_bestTakenAway_40 : decode cX2_bestTakenAway 40 = .ok (.iload 6, 2) := by decide +kernel
theorem dX2_bestTakenAway_42 : decode cX2_bestTakenAway 42 = .ok (.iload_n 3, 1) := by decide +kernel
theorem dX2_bestTakenAway_43 : decode cX2_bestTakenAway 43 = .ok (.if_icmp .gt 18, 3) := by decide +kernel
theorem dX2_bestTakenAway_46 : decode cX2_bestTakenAway 46 = .ok (.iload 6, 2) := by decide +kernel
theorem dX2_bestTakenAway_48 : decode cX2_bestTakenAway 48 = .ok (.iload_n 3, 1) := by decide +kernel
theorem dX2_bestTakenAway_49 : decode cX2_bestTakenAway 49 = .ok (.if_icmp .ne 18, 3) := by decide +kernel
theorem dX2_bestTakenAway_52 : decode cX2_bestTakenAway 52 = .ok (.iload 5, 2) := by decide +kernel
theorem dX2_bestTakenAway_54 : decode cX2_bestTakenAway 54 = .ok (.iload_n 2, 1) := by decide +kernel
theorem dX2_bestTakenAway_55 : decode cX2_bestTakenAway 55 = .ok (.invokestatic 105, 3) := by decide +kernel
theorem dX2_bestTakenAway_58 : decode cX2_bestTakenAway 58 = .ok (.if_icmp .ge 9, 3) := by decide +kernel
theorem dX2_bestTakenAway_61 : decode cX2_bestTakenAway 61 = .ok (.iload 4, 2) := by decide +kernel
theorem dX2_bestTakenAway_63 : decode cX2_bestTakenAway 63 = .ok (.istore_n 2, 1) := by decide +kernel
theorem dX2_bestTakenAway_64 : decode cX2_bestTakenAway 64 = .ok (.iload 6, 2) := by decide +kernel
theorem dX2_bestTakenAway_66 : decode cX2_bestTakenAway 66 = .ok (.istore_n 3, 1) := by decide +kernel
theorem dX2_bestTakenAway_67 : decode cX2_bestTakenAway 67 = .ok (.iinc 4 1, 3) := by decide +kernel
theorem dX2_bestTakenAway_70 : decode cX2_bestTakenAway 70 = .ok (.goto (-63), 3) := by decide +kernel
theorem dX2_bestTakenAway_73 : decode cX2_bestTakenAway 73 = .ok (.iload_n 2, 1) := by decide +kernel
theorem dX2_bestTakenAway_74 : decode cX2_bestTakenAway 74 = .ok (.ireturn, 1) := by decide +kernel
theorem dX2_shareGap_0 : decode cX2_shareGap 0 = .ok (.iconst 0, 1) := by decide +kernel
theorem dX2_shareGap_1 : decode cX2_shareGap 1 = .ok (.istore_n 2, 1) := by decide +kernel
theorem dX2_shareGap_2 : decode cX2_shareGap 2 = .ok (.iconst 0, 1) := by decide +kernel
theorem dX2_shareGap_3 : decode cX2_shareGap 3 = .ok (.istore_n 3, 1) := by decide +kernel
theorem dX2_shareGap_4 : decode cX2_shareGap 4 = .ok (.iload_n 3, 1) := by decide +kernel
theorem dX2_shareGap_5 : decode cX2_shareGap 5 = .ok (.aload_n 0, 1) := by decide +kernel
theorem dX2_shareGap_6 : decode cX2_shareGap 6 = .ok (.getfield 9, 3) := by decide +kernel
theorem dX2_shareGap_9 : decode cX2_shareGap 9 = .ok (.if_icmp .ge 40, 3) := by decide +kernel
theorem dX2_shareGap_12 : decode cX2_shareGap 12 = .ok (.aload_n 0, 1) := by decide +kernel
theorem dX2_shareGap_13 : decode cX2_shareGap 13 = .ok (.aload_n 0, 1) := by decide +kernel
theorem dX2_shareGap_14 : decode cX2_shareGap 14 = .ok (.getfield 28, 3) := by decide +kernel
theorem dX2_shareGap_17 : decode cX2_shareGap 17 = .ok (.iload_n 3, 1) := by decide +kernel
theorem dX2_shareGap_18 : decode cX2_shareGap 18 = .ok (.iaload, 1) := by decide +kernel
theorem dX2_shareGap_19 : decode cX2_shareGap 19 = .ok (.invokevirtual 114, 3) := by decide +kernel
theorem dX2_shareGap_22 : decode cX2_shareGap 22 = .ok (.istore 4, 2) := by decide +kernel
theorem dX2_shareGap_24 : decode cX2_shareGap 24 = .ok (.iload_n 2, 1) := by decide +kernel
theorem dX2_shareGap_25 : decode cX2_shareGap 25 = .ok (.iload_n 1, 1) := by decide +kernel
theorem dX2_shareGap_26 : decode cX2_shareGap 26 = .ok (.iload_n 3, 1) := by decide +kernel
theorem dX2_shareGap_27 : decode cX2_shareGap 27 = .ok (.invokestatic 91, 3) := by decide +kernel
theorem dX2_shareGap_30 : decode cX2_shareGap 30 = .ok (.ifCond .eq 8, 3) := by decide +kernel
theorem dX2_shareGap_33 : decode cX2_shareGap 33 = .ok (.iload 4, 2) := by decide +kernel
theorem dX2_shareGap_35 : decode cX2_shareGap 35 = .ok (.goto 6, 3) := by decide +kernel
theorem dX2_shareGap_38 : decode cX2_shareGap 38 = .ok (.iload 4, 2) := by decide +kernel
theorem dX2_shareGap_40 : decode cX2_shareGap 40 = .ok (.ineg, 1) := by decide +kernel
theorem dX2_shareGap_41 : decode cX2_shareGap 41 = .ok (.iadd, 1) := by decide +kernel
theorem dX2_shareGap_42 : decode cX2_shareGap 42 = .ok (.istore_n 2, 1) := by decide +kernel
theorem dX2_shareGap_43 : decode cX2_shareGap 43 = .ok (.iinc 3 1, 3) := by decide +kernel
theorem dX2_shareGap_46 : decode cX2_shareGap 46 = .ok (.goto (-42), 3) := by decide +kernel
theorem dX2_shareGap_49 : decode cX2_shareGap 49 = .ok (.iload_n 2, 1) := by decide +kernel
theorem dX2_shareGap_50 : decode cX2_shareGap 50 = .ok (.invokestatic 120, 3) := by decide +kernel
theorem dX2_shareGap_53 : decode cX2_shareGap 53 = .ok (.ireturn, 1) := by decide +kernel
theorem dX2_evenestShare_0 : decode cX2_evenestShare 0 = .ok (.iconst 0, 1) := by decide +kernel
theorem dX2_evenestShare_1 : decode cX2_evenestShare 1 = .ok (.istore_n 1, 1) := by decide +kernel
theorem dX2_evenestShare_2 : decode cX2_evenestShare 2 = .ok (.aload_n 0, 1) := by decide +kernel
theorem dX2_evenestShare_3 : decode cX2_evenestShare 3 = .ok (.iconst 0, 1) := by decide +kernel
theorem dX2_evenestShare_4 : decode cX2_evenestShare 4 = .ok (.invokevirtual 125, 3) := by decide +kernel
theorem dX2_evenestShare_7 : decode cX2_evenestShare 7 = .ok (.istore_n 2, 1) := by decide +kernel
theorem dX2_evenestShare_8 : decode cX2_evenestShare 8 = .ok (.iconst 1, 1) := by decide +kernel
theorem dX2_evenestShare_9 : decode cX2_evenestShare 9 = .ok (.istore_n 3, 1) := by decide +kernel
theorem dX2_evenestShare_10 : decode cX2_evenestShare 10 = .ok (.iload_n 3, 1) := by decide +kernel
theorem dX2_evenestShare_11 : decode cX2_evenestShare 11 = .ok (.aload_n 0, 1) := by decide +kernel
theorem dX2_evenestShare_12 : decode cX2_evenestShare 12 = .ok (.invokevirtual 128, 3) := by decide +kernel
theorem dX2_evenestShare_15 : decode cX2_evenestShare 15 = .ok (.if_icmp .gt 27, 3) := by decide +kernel
theorem dX2_evenestShare_18 : decode cX2_evenestShare 18 = .ok (.aload_n 0, 1) := by decide +kernel
theorem dX2_evenestShare_19 : decode cX2_evenestShare 19 = .ok (.iload_n 3, 1) := by decide +kernel
theorem dX2_evenestShare_20 : decode cX2_evenestShare 20 = .ok (.invokevirtual 125, 3) := by decide +kernel
theorem dX2_evenestShare_23 : decode cX2_evenestShare 23 = .ok (.istore 4, 2) := by decide +kernel
theorem dX2_evenestShare_25 : decode cX2_evenestShare 25 = .ok (.iload 4, 2) := by decide +kernel
theorem dX2_evenestShare_27 : decode cX2_evenestShare 27 = .ok (.iload_n 2, 1) := by decide +kernel
theorem dX2_evenestShare_28 : decode cX2_evenestShare 28 = .ok (.if_icmp .ge 8, 3) := by decide +kernel
theorem dX2_evenestShare_31 : decode cX2_evenestShare 31 = .ok (.iload_n 3, 1) := by decide +kernel
theorem dX2_evenestShare_32 : decode cX2_evenestShare 32 = .ok (.istore_n 1, 1) := by decide +kernel
theorem dX2_evenestShare_33 : decode cX2_evenestShare 33 = .ok (.iload 4, 2) := by decide +kernel
theorem dX2_evenestShare_35 : decode cX2_evenestShare 35 = .ok (.istore_n 2, 1) := by decide +kernel
theorem dX2_evenestShare_36 : decode cX2_evenestShare 36 = .ok (.iinc 3 1, 3) := by decide +kernel
theorem dX2_evenestShare_39 : decode cX2_evenestShare 39 = .ok (.goto (-29), 3) := by decide +kernel
theorem dX2_evenestShare_42 : decode cX2_evenestShare 42 = .ok (.iload_n 1, 1) := by decide +kernel
theorem dX2_evenestShare_43 : decode cX2_evenestShare 43 = .ok (.ireturn, 1) := by decide +kernel
theorem dX2_shineBehind_0 : decode cX2_shineBehind 0 = .ok (.iconst 0, 1) := by decide +kernel
theorem dX2_shineBehind_1 : decode cX2_shineBehind 1 = .ok (.aload_n 0, 1) := by decide +kernel
theorem dX2_shineBehind_2 : decode cX2_shineBehind 2 = .ok (.iload_n 1, 1) := by decide +kernel
theorem dX2_shineBehind_3 : decode cX2_shineBehind 3 = .ok (.iload_n 2, 1) := by decide +kernel
theorem dX2_shineBehind_4 : decode cX2_shineBehind 4 = .ok (.invokevirtual 131, 3) := by decide +kernel
theorem dX2_shineBehind_7 : decode cX2_shineBehind 7 = .ok (.iload_n 3, 1) := by decide +kernel
theorem dX2_shineBehind_8 : decode cX2_shineBehind 8 = .ok (.aload_n 0, 1) := by decide +kernel
theorem dX2_shineBehind_9 : decode cX2_shineBehind 9 = .ok (.getfield 25, 3) := by decide +kernel
theorem dX2_shineBehind_12 : decode cX2_shineBehind 12 = .ok (.iload_n 2, 1) := by decide +kernel
theorem dX2_shineBehind_13 : decode cX2_shineBehind 13 = .ok (.iaload, 1) := by decide +kernel
theorem dX2_shineBehind_14 : decode cX2_shineBehind 14 = .ok (.imul, 1) := by decide +kernel
theorem dX2_shineBehind_15 : decode cX2_shineBehind 15 = .ok (.isub, 1) := by decide +kernel
theorem dX2_shineBehind_16 : decode cX2_shineBehind 16 = .ok (.invokestatic 134, 3) := by decide +kernel
theorem dX2_shineBehind_19 : decode cX2_shineBehind 19 = .ok (.ireturn, 1) := by decide +kernel
theorem dX2_longestShining_0 : decode cX2_longestShining 0 = .ok (.iconst 0, 1) := by decide +kernel
theorem dX2_longestShining_1 : decode cX2_longestShining 1 = .ok (.istore_n 3, 1) := by decide +kernel
theorem dX2_longestShining_2 : decode cX2_longestShining 2 = .ok (.iconst 1, 1) := by decide +kernel
theorem dX2_longestShining_3 : decode cX2_longestShining 3 = .ok (.istore 4, 2) := by decide +kernel
theorem dX2_longestShining_5 : decode cX2_longestShining 5 = .ok (.iload 4, 2) := by decide +kernel
theorem dX2_longestShining_7 : decode cX2_longestShining 7 = .ok (.aload_n 0, 1) := by decide +kernel
theorem dX2_longestShining_8 : decode cX2_longestShining 8 = .ok (.getfield 15, 3) := by decide +kernel
theorem dX2_longestShining_11 : decode cX2_longestShining 11 = .ok (.if_icmp .ge 30, 3) := by decide +kernel
theorem dX2_longestShining_14 : decode cX2_longestShining 14 = .ok (.aload_n 0, 1) := by decide +kernel
theorem dX2_longestShining_15 : decode cX2_longestShining 15 = .ok (.iload 4, 2) := by decide +kernel
theorem dX2_longestShining_17 : decode cX2_longestShining 17 = .ok (.iload_n 1, 1) := by decide +kernel
theorem dX2_longestShining_18 : decode cX2_longestShining 18 = .ok (.iload_n 2, 1) := by decide +kernel
theorem dX2_longestShining_19 : decode cX2_longestShining 19 = .ok (.invokevirtual 137, 3) := by decide +kernel
theorem dX2_longestShining_22 : decode cX2_longestShining 22 = .ok (.aload_n 0, 1) := by decide +kernel
theorem dX2_longestShining_23 : decode cX2_longestShining 23 = .ok (.iload_n 3, 1) := by decide +kernel
theorem dX2_longestShining_24 : decode cX2_longestShining 24 = .ok (.iload_n 1, 1) := by decide +kernel
theorem dX2_longestShining_25 : decode cX2_longestShining 25 = .ok (.iload_n 2, 1) := by decide +kernel
theorem dX2_longestShining_26 : decode cX2_longestShining 26 = .ok (.invokevirtual 137, 3) := by decide +kernel
theorem dX2_longestShining_29 : decode cX2_longestShining 29 = .ok (.if_icmp .le 6, 3) := by decide +kernel
theorem dX2_longestShining_32 : decode cX2_longestShining 32 = .ok (.iload 4, 2) := by decide +kernel
theorem dX2_longestShining_34 : decode cX2_longestShining 34 = .ok (.istore_n 3, 1) := by decide +kernel
theorem dX2_longestShining_35 : decode cX2_longestShining 35 = .ok (.iinc 4 1, 3) := by decide +kernel
theorem dX2_longestShining_38 : decode cX2_longestShining 38 = .ok (.goto (-33), 3) := by decide +kernel
theorem dX2_longestShining_41 : decode cX2_longestShining 41 = .ok (.iload_n 3, 1) := by decide +kernel
theorem dX2_longestShining_42 : decode cX2_longestShining 42 = .ok (.ireturn, 1) := by decide +kernel
theorem dX2_longestLit_0 : decode cX2_longestLit 0 = .ok (.iconst 0, 1) := by decide +kernel
theorem dX2_longestLit_1 : decode cX2_longestLit 1 = .ok (.istore_n 3, 1) := by decide +kernel
theorem dX2_longestLit_2 : decode cX2_longestLit 2 = .ok (.iconst 0, 1) := by decide +kernel
theorem dX2_longestLit_3 : decode cX2_longestLit 3 = .ok (.istore 4, 2) := by decide +kernel
theorem dX2_longestLit_5 : decode cX2_longestLit 5 = .ok (.iload 4, 2) := by decide +kernel
theorem dX2_longestLit_7 : decode cX2_longestLit 7 = .ok (.aload_n 0, 1) := by decide +kernel
theorem dX2_longestLit_8 : decode cX2_longestLit 8 = .ok (.getfield 9, 3) := by decide +kernel
theorem dX2_longestLit_11 : decode cX2_longestLit 11 = .ok (.if_icmp .ge 35, 3) := by decide +kernel
theorem dX2_longestLit_14 : decode cX2_longestLit 14 = .ok (.iload_n 3, 1) := by decide +kernel
theorem dX2_longestLit_15 : decode cX2_longestLit 15 = .ok (.aload_n 0, 1) := by decide +kernel
theorem dX2_longestLit_16 : decode cX2_longestLit 16 = .ok (.iload_n 1, 1) := by decide +kernel
theorem dX2_longestLit_17 : decode cX2_longestLit 17 = .ok (.iload 4, 2) := by decide +kernel
theorem dX2_longestLit_19 : decode cX2_longestLit 19 = .ok (.invokevirtual 131, 3) := by decide +kernel
theorem dX2_longestLit_22 : decode cX2_longestLit 22 = .ok (.iload_n 2, 1) := by decide +kernel
theorem dX2_longestLit_23 : decode cX2_longestLit 23 = .ok (.iconst 1, 1) := by decide +kernel
theorem dX2_longestLit_24 : decode cX2_longestLit 24 = .ok (.isub, 1) := by decide +kernel
theorem dX2_longestLit_25 : decode cX2_longestLit 25 = .ok (.isub, 1) := by decide +kernel
theorem dX2_longestLit_26 : decode cX2_longestLit 26 = .ok (.aload_n 0, 1) := by decide +kernel
theorem dX2_longestLit_27 : decode cX2_longestLit 27 = .ok (.getfield 25, 3) := by decide +kernel
theorem dX2_longestLit_30 : decode cX2_longestLit 30 = .ok (.iload 4, 2) := by decide +kernel
theorem dX2_longestLit_32 : decode cX2_longestLit 32 = .ok (.iaload, 1) := by decide +kernel
theorem dX2_longestLit_33 : decode cX2_longestLit 33 = .ok (.invokestatic 140, 3) := by decide +kernel
theorem dX2_longestLit_36 : decode cX2_longestLit 36 = .ok (.invokestatic 134, 3) := by decide +kernel
theorem dX2_longestLit_39 : decode cX2_longestLit 39 = .ok (.istore_n 3, 1) := by decide +kernel
theorem dX2_longestLit_40 : decode cX2_longestLit 40 = .ok (.iinc 4 1, 3) := by decide +kernel
theorem dX2_longestLit_43 : decode cX2_longestLit 43 = .ok (.goto (-38), 3) := by decide +kernel
theorem dX2_longestLit_46 : decode cX2_longestLit 46 = .ok (.iload_n 3, 1) := by decide +kernel
theorem dX2_longestLit_47 : decode cX2_longestLit 47 = .ok (.ireturn, 1) := by decide +kernel
theorem dX2_duskHours_0 : decode cX2_duskHours 0 = .ok (.aload_n 0, 1) := by decide +kernel
theorem dX2_duskHours_1 : decode cX2_duskHours 1 = .ok (.iload_n 2, 1) := by decide +kernel
theorem dX2_duskHours_2 : decode cX2_duskHours 2 = .ok (.invokevirtual 71, 3) := by decide +kernel
theorem dX2_duskHours_5 : decode cX2_duskHours 5 = .ok (.ifCond .eq 11, 3) := by decide +kernel
theorem dX2_duskHours_8 : decode cX2_duskHours 8 = .ok (.aload_n 0, 1) := by decide +kernel
theorem dX2_duskHours_9 : decode cX2_duskHours 9 = .ok (.iload_n 3, 1) := by decide +kernel
theorem dX2_duskHours_10 : decode cX2_duskHours 10 = .ok (.invokevirtual 71, 3) := by decide +kernel
theorem dX2_duskHours_13 : decode cX2_duskHours 13 = .ok (.ifCond .ne 5, 3) := by decide +kernel
theorem dX2_duskHours_16 : decode cX2_duskHours 16 = .ok (.iconst 0, 1) := by decide +kernel
theorem dX2_duskHours_17 : decode cX2_duskHours 17 = .ok (.ireturn, 1) := by decide +kernel
theorem dX2_duskHours_18 : decode cX2_duskHours 18 = .ok (.aload_n 0, 1) := by decide +kernel
theorem dX2_duskHours_19 : decode cX2_duskHours 19 = .ok (.iload_n 1, 1) := by decide +kernel
theorem dX2_duskHours_20 : decode cX2_duskHours 20 = .ok (.iload_n 2, 1) := by decide +kernel
theorem dX2_duskHours_21 : decode cX2_duskHours 21 = .ok (.invokevirtual 131, 3) := by decide +kernel
theorem dX2_duskHours_24 : decode cX2_duskHours 24 = .ok (.iconst 2, 1) := by decide +kernel
theorem dX2_duskHours_25 : decode cX2_duskHours 25 = .ok (.idiv, 1) := by decide +kernel
theorem dX2_duskHours_26 : decode cX2_duskHours 26 = .ok (.aload_n 0, 1) := by decide +kernel
theorem dX2_duskHours_27 : decode cX2_duskHours 27 = .ok (.getfield 25, 3) := by decide +kernel
theorem dX2_duskHours_30 : decode cX2_duskHours 30 = .ok (.iload_n 2, 1) := by decide +kernel
theorem dX2_duskHours_31 : decode cX2_duskHours 31 = .ok (.iaload, 1) := by decide +kernel
theorem dX2_duskHours_32 : decode cX2_duskHours 32 = .ok (.invokestatic 140, 3) := by decide +kernel
theorem dX2_duskHours_35 : decode cX2_duskHours 35 = .ok (.aload_n 0, 1) := by decide +kernel
theorem dX2_duskHours_36 : decode cX2_duskHours 36 = .ok (.iload_n 1, 1) := by decide +kernel
theorem dX2_duskHours_37 : decode cX2_duskHours 37 = .ok (.iload_n 3, 1) := by decide +kernel
theorem dX2_duskHours_38 : decode cX2_duskHours 38 = .ok (.invokevirtual 131, 3) := by decide +kernel
theorem dX2_duskHours_41 : decode cX2_duskHours 41 = .ok (.iconst 2, 1) := by decide +kernel
theorem dX2_duskHours_42 : decode cX2_duskHours 42 = .ok (.idiv, 1) := by decide +kernel
theorem dX2_duskHours_43 : decode cX2_duskHours 43 = .ok (.aload_n 0, 1) := by decide +kernel
theorem dX2_duskHours_44 : decode cX2_duskHours 44 = .ok (.getfield 25, 3) := by decide +kernel
theorem dX2_duskHours_47 : decode cX2_duskHours 47 = .ok (.iload_n 3, 1) := by decide +kernel
theorem dX2_duskHours_48 : decode cX2_duskHours 48 = .ok (.iaload, 1) := by decide +kernel
theorem dX2_duskHours_49 : decode cX2_duskHours 49 = .ok (.invokestatic 140, 3) := by decide +kernel
theorem dX2_duskHours_52 : decode cX2_duskHours 52 = .ok (.invokestatic 143, 3) := by decide +kernel
theorem dX2_duskHours_55 : decode cX2_duskHours 55 = .ok (.ireturn, 1) := by decide +kernel
theorem dX2_duskiestCouple_0 : decode cX2_duskiestCouple 0 = .ok (.iconst (-1), 1) := by decide +kernel
theorem dX2_duskiestCouple_1 : decode cX2_duskiestCouple 1 = .ok (.istore_n 2, 1) := by decide +kernel
theorem dX2_duskiestCouple_2 : decode cX2_duskiestCouple 2 = .ok (.iconst (-1), 1) := by decide +kernel
theorem dX2_duskiestCouple_3 : decode cX2_duskiestCouple 3 = .ok (.istore_n 3, 1) := by decide +kernel
theorem dX2_duskiestCouple_4 : decode cX2_duskiestCouple 4 = .ok (.iconst 0, 1) := by decide +kernel
theorem dX2_duskiestCouple_5 : decode cX2_duskiestCouple 5 = .ok (.istore 4, 2) := by decide +kernel
theorem dX2_duskiestCouple_7 : decode cX2_duskiestCouple 7 = .ok (.iload 4, 2) := by decide +kernel
theorem dX2_duskiestCouple_9 : decode cX2_duskiestCouple 9 = .ok (.aload_n 0, 1) := by decide +kernel
theorem dX2_duskiestCouple_10 : decode cX2_duskiestCouple 10 = .ok (.getfield 9, 3) := by decide +kernel
theorem dX2_duskiestCouple_13 : decode cX2_duskiestCouple 13 = .ok (.if_icmp .ge 59, 3) := by decide +kernel
theorem dX2_duskiestCouple_16 : decode cX2_duskiestCouple 16 = .ok (.iload 4, 2) := by decide +kernel
theorem dX2_duskiestCouple_18 : decode cX2_duskiestCouple 18 = .ok (.iconst 1, 1) := by decide +kernel
theorem dX2_duskiestCouple_19 : decode cX2_duskiestCouple 19 = .ok (.iadd, 1) := by decide +kernel
theorem dX2_duskiestCouple_20 : decode cX2_duskiestCouple 20 = .ok (.istore 5, 2) := by decide +kernel
theorem dX2_duskiestCouple_22 : decode cX2_duskiestCouple 22 = .ok (.iload 5, 2) := by decide +kernel
theorem dX2_duskiestCouple_24 : decode cX2_duskiestCouple 24 = .ok (.aload_n 0, 1) := by decide +kernel
theorem dX2_duskiestCouple_25 : decode cX2_duskiestCouple 25 = .ok (.getfield 9, 3) := by decide +kernel
theorem dX2_duskiestCouple_28 : decode cX2_duskiestCouple 28 = .ok (.if_icmp .ge 38, 3) := by decide +kernel
theorem dX2_duskiestCouple_31 : decode cX2_duskiestCouple 31 = .ok (.aload_n 0, 1) := by decide +kernel
theorem dX2_duskiestCouple_32 : decode cX2_duskiestCouple 32 = .ok (.iload_n 1, 1) := by decide +kernel
theorem dX2_duskiestCouple_33 : decode cX2_duskiestCouple 33 = .ok (.iload 4, 2) := by decide +kernel
theorem dX2_duskiestCouple_35 : decode cX2_duskiestCouple 35 = .ok (.iload 5, 2) := by decide +kernel
theorem dX2_duskiestCouple_37 : decode cX2_duskiestCouple 37 = .ok (.invokevirtual 146, 3) := by decide +kernel
theorem dX2_duskiestCouple_40 : decode cX2_duskiestCouple 40 = .ok (.istore 6, 2) := by decide +kernel
theorem dX2_duskiestCouple_42 : decode cX2_duskiestCouple 42 = .ok (.iload 6, 2) := by decide +kernel
theorem dX2_duskiestCouple_44 : decode cX2_duskiestCouple 44 = .ok (.iload_n 3, 1) := by decide +kernel
theorem dX2_duskiestCouple_45 : decode cX2_duskiestCouple 45 = .ok (.if_icmp .le 15, 3) := by decide +kernel
theorem dX2_duskiestCouple_48 : decode cX2_duskiestCouple 48 = .ok (.iload 6, 2) := by decide +kernel
theorem dX2_duskiestCouple_50 : decode cX2_duskiestCouple 50 = .ok (.istore_n 3, 1) := by decide +kernel
theorem dX2_duskiestCouple_51 : decode cX2_duskiestCouple 51 = .ok (.bipush 10, 2) := by decide +kernel
theorem dX2_duskiestCouple_53 : decode cX2_duskiestCouple 53 = .ok (.iload 4, 2) := by decide +kernel
theorem dX2_duskiestCouple_55 : decode cX2_duskiestCouple 55 = .ok (.imul, 1) := by decide +kernel
theorem dX2_duskiestCouple_56 : decode cX2_duskiestCouple 56 = .ok (.iload 5, 2) := by decide +kernel
theorem dX2_duskiestCouple_58 : decode cX2_duskiestCouple 58 = .ok (.iadd, 1) := by decide +kernel
theorem dX2_duskiestCouple_59 : decode cX2_duskiestCouple 59 = .ok (.istore_n 2, 1) := by decide +kernel
theorem dX2_duskiestCouple_60 : decode cX2_duskiestCouple 60 = .ok (.iinc 5 1, 3) := by decide +kernel
theorem dX2_duskiestCouple_63 : decode cX2_duskiestCouple 63 = .ok (.goto (-41), 3) := by decide +kernel
theorem dX2_duskiestCouple_66 : decode cX2_duskiestCouple 66 = .ok (.iinc 4 1, 3) := by decide +kernel
theorem dX2_duskiestCouple_69 : decode cX2_duskiestCouple 69 = .ok (.goto (-62), 3) := by decide +kernel
theorem dX2_duskiestCouple_72 : decode cX2_duskiestCouple 72 = .ok (.iload_n 2, 1) := by decide +kernel
theorem dX2_duskiestCouple_73 : decode cX2_duskiestCouple 73 = .ok (.ireturn, 1) := by decide +kernel
theorem dX2_worthOfAll_0 : decode cX2_worthOfAll 0 = .ok (.iconst 0, 1) := by decide +kernel
theorem dX2_worthOfAll_1 : decode cX2_worthOfAll 1 = .ok (.istore_n 3, 1) := by decide +kernel
theorem dX2_worthOfAll_2 : decode cX2_worthOfAll 2 = .ok (.iconst 0, 1) := by decide +kernel
theorem dX2_worthOfAll_3 : decode cX2_worthOfAll 3 = .ok (.istore 4, 2) := by decide +kernel
theorem dX2_worthOfAll_5 : decode cX2_worthOfAll 5 = .ok (.iload 4, 2) := by decide +kernel
theorem dX2_worthOfAll_7 : decode cX2_worthOfAll 7 = .ok (.aload_n 0, 1) := by decide +kernel
theorem dX2_worthOfAll_8 : decode cX2_worthOfAll 8 = .ok (.getfield 9, 3) := by decide +kernel
theorem dX2_worthOfAll_11 : decode cX2_worthOfAll 11 = .ok (.if_icmp .ge 55, 3) := by decide +kernel
theorem dX2_worthOfAll_14 : decode cX2_worthOfAll 14 = .ok (.iconst 0, 1) := by decide +kernel
theorem dX2_worthOfAll_15 : decode cX2_worthOfAll 15 = .ok (.istore 5, 2) := by decide +kernel
theorem dX2_worthOfAll_17 : decode cX2_worthOfAll 17 = .ok (.iload 5, 2) := by decide +kernel
theorem dX2_worthOfAll_19 : decode cX2_worthOfAll 19 = .ok (.aload_n 0, 1) := by decide +kernel
theorem dX2_worthOfAll_20 : decode cX2_worthOfAll 20 = .ok (.getfield 15, 3) := by decide +kernel
theorem dX2_worthOfAll_23 : decode cX2_worthOfAll 23 = .ok (.if_icmp .ge 37, 3) := by decide +kernel
theorem dX2_worthOfAll_26 : decode cX2_worthOfAll 26 = .ok (.iload_n 3, 1) := by decide +kernel
theorem dX2_worthOfAll_27 : decode cX2_worthOfAll 27 = .ok (.aload_n 0, 1) := by decide +kernel
theorem dX2_worthOfAll_28 : decode cX2_worthOfAll 28 = .ok (.iload 5, 2) := by decide +kernel
theorem dX2_worthOfAll_30 : decode cX2_worthOfAll 30 = .ok (.iload 4, 2) := by decide +kernel
theorem dX2_worthOfAll_32 : decode cX2_worthOfAll 32 = .ok (.iload 4, 2) := by decide +kernel
theorem dX2_worthOfAll_34 : decode cX2_worthOfAll 34 = .ok (.iload_n 1, 1) := by decide +kernel
theorem dX2_worthOfAll_35 : decode cX2_worthOfAll 35 = .ok (.if_icmp .ne 7, 3) := by decide +kernel
theorem dX2_worthOfAll_38 : decode cX2_worthOfAll 38 = .ok (.iload_n 2, 1) := by decide +kernel
theorem dX2_worthOfAll_39 : decode cX2_worthOfAll 39 = .ok (.goto 10, 3) := by decide +kernel
theorem dX2_worthOfAll_42 : decode cX2_worthOfAll 42 = .ok (.aload_n 0, 1) := by decide +kernel
theorem dX2_worthOfAll_43 : decode cX2_worthOfAll 43 = .ok (.getfield 21, 3) := by decide +kernel
theorem dX2_worthOfAll_46 : decode cX2_worthOfAll 46 = .ok (.iload 4, 2) := by decide +kernel
theorem dX2_worthOfAll_48 : decode cX2_worthOfAll 48 = .ok (.iaload, 1) := by decide +kernel
theorem dX2_worthOfAll_49 : decode cX2_worthOfAll 49 = .ok (.invokevirtual 87, 3) := by decide +kernel
theorem dX2_worthOfAll_52 : decode cX2_worthOfAll 52 = .ok (.iadd, 1) := by decide +kernel
theorem dX2_worthOfAll_53 : decode cX2_worthOfAll 53 = .ok (.istore_n 3, 1) := by decide +kernel
theorem dX2_worthOfAll_54 : decode cX2_worthOfAll 54 = .ok (.iinc 5 1, 3) := by decide +kernel
theorem dX2_worthOfAll_57 : decode cX2_worthOfAll 57 = .ok (.goto (-40), 3) := by decide +kernel
theorem dX2_worthOfAll_60 : decode cX2_worthOfAll 60 = .ok (.iinc 4 1, 3) := by decide +kernel
theorem dX2_worthOfAll_63 : decode cX2_worthOfAll 63 = .ok (.goto (-58), 3) := by decide +kernel
theorem dX2_worthOfAll_66 : decode cX2_worthOfAll 66 = .ok (.iload_n 3, 1) := by decide +kernel
theorem dX2_worthOfAll_67 : decode cX2_worthOfAll 67 = .ok (.ireturn, 1) := by decide +kernel
theorem dX2_fittestTaste_0 : decode cX2_fittestTaste 0 = .ok (.iconst 0, 1) := by decide +kernel
theorem dX2_fittestTaste_1 : decode cX2_fittestTaste 1 = .ok (.istore_n 1, 1) := by decide +kernel
theorem dX2_fittestTaste_2 : decode cX2_fittestTaste 2 = .ok (.iconst (-1), 1) := by decide +kernel
theorem dX2_fittestTaste_3 : decode cX2_fittestTaste 3 = .ok (.istore_n 2, 1) := by decide +kernel
theorem dX2_fittestTaste_4 : decode cX2_fittestTaste 4 = .ok (.iconst 0, 1) := by decide +kernel
theorem dX2_fittestTaste_5 : decode cX2_fittestTaste 5 = .ok (.istore_n 3, 1) := by decide +kernel
theorem dX2_fittestTaste_6 : decode cX2_fittestTaste 6 = .ok (.iload_n 3, 1) := by decide +kernel
theorem dX2_fittestTaste_7 : decode cX2_fittestTaste 7 = .ok (.aload_n 0, 1) := by decide +kernel
theorem dX2_fittestTaste_8 : decode cX2_fittestTaste 8 = .ok (.getfield 9, 3) := by decide +kernel
theorem dX2_fittestTaste_11 : decode cX2_fittestTaste 11 = .ok (.if_icmp .ge 50, 3) := by decide +kernel
theorem dX2_fittestTaste_14 : decode cX2_fittestTaste 14 = .ok (.iconst 0, 1) := by decide +kernel
theorem dX2_fittestTaste_15 : decode cX2_fittestTaste 15 = .ok (.istore 4, 2) := by decide +kernel
theorem dX2_fittestTaste_17 : decode cX2_fittestTaste 17 = .ok (.iload 4, 2) := by decide +kernel
theorem dX2_fittestTaste_19 : decode cX2_fittestTaste 19 = .ok (.iconst 4, 1) := by decide +kernel
theorem dX2_fittestTaste_20 : decode cX2_fittestTaste 20 = .ok (.if_icmp .ge 35, 3) := by decide +kernel
theorem dX2_fittestTaste_23 : decode cX2_fittestTaste 23 = .ok (.aload_n 0, 1) := by decide +kernel
theorem dX2_fittestTaste_24 : decode cX2_fittestTaste 24 = .ok (.iload_n 3, 1) := by decide +kernel
theorem dX2_fittestTaste_25 : decode cX2_fittestTaste 25 = .ok (.iload 4, 2) := by decide +kernel
theorem dX2_fittestTaste_27 : decode cX2_fittestTaste 27 = .ok (.invokevirtual 149, 3) := by decide +kernel
theorem dX2_fittestTaste_30 : decode cX2_fittestTaste 30 = .ok (.istore 5, 2) := by decide +kernel
theorem dX2_fittestTaste_32 : decode cX2_fittestTaste 32 = .ok (.iload 5, 2) := by decide +kernel
theorem dX2_fittestTaste_34 : decode cX2_fittestTaste 34 = .ok (.iload_n 2, 1) := by decide +kernel
theorem dX2_fittestTaste_35 : decode cX2_fittestTaste 35 = .ok (.if_icmp .le 14, 3) := by decide +kernel
theorem dX2_fittestTaste_38 : decode cX2_fittestTaste 38 = .ok (.iload 5, 2) := by decide +kernel
theorem dX2_fittestTaste_40 : decode cX2_fittestTaste 40 = .ok (.istore_n 2, 1) := by decide +kernel
theorem dX2_fittestTaste_41 : decode cX2_fittestTaste 41 = .ok (.bipush 10, 2) := by decide +kernel
theorem dX2_fittestTaste_43 : decode cX2_fittestTaste 43 = .ok (.iload_n 3, 1) := by decide +kernel
theorem dX2_fittestTaste_44 : decode cX2_fittestTaste 44 = .ok (.imul, 1) := by decide +kernel
theorem dX2_fittestTaste_45 : decode cX2_fittestTaste 45 = .ok (.iload 4, 2) := by decide +kernel
theorem dX2_fittestTaste_47 : decode cX2_fittestTaste 47 = .ok (.iadd, 1) := by decide +kernel
theorem dX2_fittestTaste_48 : decode cX2_fittestTaste 48 = .ok (.istore_n 1, 1) := by decide +kernel
theorem dX2_fittestTaste_49 : decode cX2_fittestTaste 49 = .ok (.iinc 4 1, 3) := by decide +kernel
theorem dX2_fittestTaste_52 : decode cX2_fittestTaste 52 = .ok (.goto (-35), 3) := by decide +kernel
theorem dX2_fittestTaste_55 : decode cX2_fittestTaste 55 = .ok (.iinc 3 1, 3) := by decide +kernel
theorem dX2_fittestTaste_58 : decode cX2_fittestTaste 58 = .ok (.goto (-52), 3) := by decide +kernel
theorem dX2_fittestTaste_61 : decode cX2_fittestTaste 61 = .ok (.iload_n 1, 1) := by decide +kernel
theorem dX2_fittestTaste_62 : decode cX2_fittestTaste 62 = .ok (.ireturn, 1) := by decide +kernel
theorem dX2_knownBy_0 : decode cX2_knownBy 0 = .ok (.iconst 0, 1) := by decide +kernel
theorem dX2_knownBy_1 : decode cX2_knownBy 1 = .ok (.istore_n 2, 1) := by decide +kernel
theorem dX2_knownBy_2 : decode cX2_knownBy 2 = .ok (.iconst 0, 1) := by decide +kernel
theorem dX2_knownBy_3 : decode cX2_knownBy 3 = .ok (.istore_n 3, 1) := by decide +kernel
theorem dX2_knownBy_4 : decode cX2_knownBy 4 = .ok (.iload_n 3, 1) := by decide +kernel
theorem dX2_knownBy_5 : decode cX2_knownBy 5 = .ok (.aload_n 0, 1) := by decide +kernel
theorem dX2_knownBy_6 : decode cX2_knownBy 6 = .ok (.getfield 15, 3) := by decide +kernel
theorem dX2_knownBy_9 : decode cX2_knownBy 9 = .ok (.if_icmp .ge 70, 3) := by decide +kernel
theorem dX2_knownBy_12 : decode cX2_knownBy 12 = .ok (.iconst 0, 1) := by decide +kernel
theorem dX2_knownBy_13 : decode cX2_knownBy 13 = .ok (.istore 4, 2) := by decide +kernel
theorem dX2_knownBy_15 : decode cX2_knownBy 15 = .ok (.iconst 0, 1) := by decide +kernel
theorem dX2_knownBy_16 : decode cX2_knownBy 16 = .ok (.istore 5, 2) := by decide +kernel
theorem dX2_knownBy_18 : decode cX2_knownBy 18 = .ok (.iload 5, 2) := by decide +kernel
theorem dX2_knownBy_20 : decode cX2_knownBy 20 = .ok (.aload_n 0, 1) := by decide +kernel
theorem dX2_knownBy_21 : decode cX2_knownBy 21 = .ok (.getfield 9, 3) := by decide +kernel
theorem dX2_knownBy_24 : decode cX2_knownBy 24 = .ok (.if_icmp .ge 33, 3) := by decide +kernel
theorem dX2_knownBy_27 : decode cX2_knownBy 27 = .ok (.iload 4, 2) := by decide +kernel
theorem dX2_knownBy_29 : decode cX2_knownBy 29 = .ok (.aload_n 0, 1) := by decide +kernel
theorem dX2_knownBy_30 : decode cX2_knownBy 30 = .ok (.getfield 28, 3) := by decide +kernel
theorem dX2_knownBy_33 : decode cX2_knownBy 33 = .ok (.iload 5, 2) := by decide +kernel
theorem dX2_knownBy_35 : decode cX2_knownBy 35 = .ok (.iaload, 1) := by decide +kernel
theorem dX2_knownBy_36 : decode cX2_knownBy 36 = .ok (.iload_n 3, 1) := by decide +kernel
theorem dX2_knownBy_37 : decode cX2_knownBy 37 = .ok (.invokestatic 91, 3) := by decide +kernel
theorem dX2_knownBy_40 : decode cX2_knownBy 40 = .ok (.ifCond .eq 7, 3) := by decide +kernel
theorem dX2_knownBy_43 : decode cX2_knownBy 43 = .ok (.iconst 1, 1) := by decide +kernel
theorem dX2_knownBy_44 : decode cX2_knownBy 44 = .ok (.goto 4, 3) := by decide +kernel
theorem dX2_knownBy_47 : decode cX2_knownBy 47 = .ok (.iconst 0, 1) := by decide +kernel
theorem dX2_knownBy_48 : decode cX2_knownBy 48 = .ok (.iadd, 1) := by decide +kernel
theorem dX2_knownBy_49 : decode cX2_knownBy 49 = .ok (.istore 4, 2) := by decide +kernel
theorem dX2_knownBy_51 : decode cX2_knownBy 51 = .ok (.iinc 5 1, 3) := by decide +kernel
theorem dX2_knownBy_54 : decode cX2_knownBy 54 = .ok (.goto (-36), 3) := by decide +kernel
theorem dX2_knownBy_57 : decode cX2_knownBy 57 = .ok (.iload_n 2, 1) := by decide +kernel
theorem dX2_knownBy_58 : decode cX2_knownBy 58 = .ok (.iload 4, 2) := by decide +kernel
theorem dX2_knownBy_60 : decode cX2_knownBy 60 = .ok (.iload_n 1, 1) := by decide +kernel
theorem dX2_knownBy_61 : decode cX2_knownBy 61 = .ok (.if_icmp .ne 9, 3) := by decide +kernel
theorem dX2_knownBy_64 : decode cX2_knownBy 64 = .ok (.iconst 1, 1) := by decide +kernel
theorem dX2_knownBy_65 : decode cX2_knownBy 65 = .ok (.iload_n 3, 1) := by decide +kernel
theorem dX2_knownBy_66 : decode cX2_knownBy 66 = .ok (.ishl, 1) := by decide +kernel
theorem dX2_knownBy_67 : decode cX2_knownBy 67 = .ok (.goto 4, 3) := by decide +kernel
theorem dX2_knownBy_70 : decode cX2_knownBy 70 = .ok (.iconst 0, 1) := by decide +kernel
theorem dX2_knownBy_71 : decode cX2_knownBy 71 = .ok (.ior, 1) := by decide +kernel
theorem dX2_knownBy_72 : decode cX2_knownBy 72 = .ok (.istore_n 2, 1) := by decide +kernel
theorem dX2_knownBy_73 : decode cX2_knownBy 73 = .ok (.iinc 3 1, 3) := by decide +kernel
theorem dX2_knownBy_76 : decode cX2_knownBy 76 = .ok (.goto (-72), 3) := by decide +kernel
theorem dX2_knownBy_79 : decode cX2_knownBy 79 = .ok (.iload_n 2, 1) := by decide +kernel
theorem dX2_knownBy_80 : decode cX2_knownBy 80 = .ok (.ireturn, 1) := by decide +kernel
theorem dX2_hoursTold_0 : decode cX2_hoursTold 0 = .ok (.aload_n 0, 1) := by decide +kernel
theorem dX2_hoursTold_1 : decode cX2_hoursTold 1 = .ok (.iload_n 2, 1) := by decide +kernel
theorem dX2_hoursTold_2 : decode cX2_hoursTold 2 = .ok (.invokevirtual 71, 3) := by decide +kernel
theorem dX2_hoursTold_5 : decode cX2_hoursTold 5 = .ok (.ifCond .ne 5, 3) := by decide +kernel
theorem dX2_hoursTold_8 : decode cX2_hoursTold 8 = .ok (.iconst 0, 1) := by decide +kernel
theorem dX2_hoursTold_9 : decode cX2_hoursTold 9 = .ok (.ireturn, 1) := by decide +kernel
theorem dX2_hoursTold_10 : decode cX2_hoursTold 10 = .ok (.iload_n 1, 1) := by decide +kernel
theorem dX2_hoursTold_11 : decode cX2_hoursTold 11 = .ok (.invokestatic 152, 3) := by decide +kernel
theorem dX2_hoursTold_14 : decode cX2_hoursTold 14 = .ok (.iload_n 1, 1) := by decide +kernel
theorem dX2_hoursTold_15 : decode cX2_hoursTold 15 = .ok (.invokestatic 155, 3) := by decide +kernel
theorem dX2_hoursTold_18 : decode cX2_hoursTold 18 = .ok (.aload_n 0, 1) := by decide +kernel
theorem dX2_hoursTold_19 : decode cX2_hoursTold 19 = .ok (.getfield 21, 3) := by decide +kernel
theorem dX2_hoursTold_22 : decode cX2_hoursTold 22 = .ok (.iload_n 2, 1) := by decide +kernel
theorem dX2_hoursTold_23 : decode cX2_hoursTold 23 = .ok (.iaload, 1) := by decide +kernel
theorem dX2_hoursTold_24 : decode cX2_hoursTold 24 = .ok (.if_icmp .ne 7, 3) := by decide +kernel
theorem dX2_hoursTold_27 : decode cX2_hoursTold 27 = .ok (.iconst 1, 1) := by decide +kernel
theorem dX2_hoursTold_28 : decode cX2_hoursTold 28 = .ok (.goto 4, 3) := by decide +kernel
theorem dX2_hoursTold_31 : decode cX2_hoursTold 31 = .ok (.iconst 0, 1) := by decide +kernel
theorem dX2_hoursTold_32 : decode cX2_hoursTold 32 = .ok (.iconst 0, 1) := by decide +kernel
theorem dX2_hoursTold_33 : decode cX2_hoursTold 33 = .ok (.invokestatic 95, 3) := by decide +kernel
theorem dX2_hoursTold_36 : decode cX2_hoursTold 36 = .ok (.aload_n 0, 1) := by decide +kernel
theorem dX2_hoursTold_37 : decode cX2_hoursTold 37 = .ok (.getfield 25, 3) := by decide +kernel
theorem dX2_hoursTold_40 : decode cX2_hoursTold 40 = .ok (.iload_n 2, 1) := by decide +kernel
theorem dX2_hoursTold_41 : decode cX2_hoursTold 41 = .ok (.iaload, 1) := by decide +kernel
theorem dX2_hoursTold_42 : decode cX2_hoursTold 42 = .ok (.invokestatic 140, 3) := by decide +kernel
theorem dX2_hoursTold_45 : decode cX2_hoursTold 45 = .ok (.ireturn, 1) := by decide +kernel
theorem dX3_init_0 : decode cX3_init 0 = .ok (.aload_n 0, 1) := by decide +kernel
theorem dX3_init_1 : decode cX3_init 1 = .ok (.invokespecial 3, 3) := by decide +kernel
theorem dX3_init_4 : decode cX3_init 4 = .ok (.aload_n 0, 1) := by decide +kernel
theorem dX3_init_5 : decode cX3_init 5 = .ok (.sipush 1024, 3) := by decide +kernel
theorem dX3_init_8 : decode cX3_init 8 = .ok (.newarray .int, 2) := by decide +kernel
theorem dX3_init_10 : decode cX3_init 10 = .ok (.putfield 9, 3) := by decide +kernel
theorem dX3_init_13 : decode cX3_init 13 = .ok (.aload_n 0, 1) := by decide +kernel
theorem dX3_init_14 : decode cX3_init 14 = .ok (.bipush 10, 2) := by decide +kernel
theorem dX3_init_16 : decode cX3_init 16 = .ok (.newarray .int, 2) := by decide +kernel
theorem dX3_init_18 : decode cX3_init 18 = .ok (.putfield 15, 3) := by decide +kernel
theorem dX3_init_21 : decode cX3_init 21 = .ok (.aload_n 0, 1) := by decide +kernel
theorem dX3_init_22 : decode cX3_init 22 = .ok (.bipush 10, 2) := by decide +kernel
theorem dX3_init_24 : decode cX3_init 24 = .ok (.newarray .int, 2) := by decide +kernel
theorem dX3_init_26 : decode cX3_init 26 = .ok (.putfield 18, 3) := by decide +kernel
theorem dX3_init_29 : decode cX3_init 29 = .ok (.return_, 1) := by decide +kernel
theorem dX3_fewest_0 : decode cX3_fewest 0 = .ok (.aload_n 0, 1) := by decide +kernel
theorem dX3_fewest_1 : decode cX3_fewest 1 = .ok (.getfield 9, 3) := by decide +kernel
theorem dX3_fewest_4 : decode cX3_fewest 4 = .ok (.iconst 0, 1) := by decide +kernel
theorem dX3_fewest_5 : decode cX3_fewest 5 = .ok (.iload_n 2, 1) := by decide +kernel
theorem dX3_fewest_6 : decode cX3_fewest 6 = .ok (.iastore, 1) := by decide +kernel
theorem dX3_fewest_7 : decode cX3_fewest 7 = .ok (.iconst 1, 1) := by decide +kernel
theorem dX3_fewest_8 : decode cX3_fewest 8 = .ok (.istore_n 3, 1) := by decide +kernel
theorem dX3_fewest_9 : decode cX3_fewest 9 = .ok (.iload_n 3, 1) := by decide +kernel
theorem dX3_fewest_10 : decode cX3_fewest 10 = .ok (.aload_n 1, 1) := by decide +kernel
theorem dX3_fewest_11 : decode cX3_fewest 11 = .ok (.invokevirtual 21, 3) := by decide +kernel
theorem dX3_fewest_14 : decode cX3_fewest 14 = .ok (.if_icmp .ge 80, 3) := by decide +kernel
theorem dX3_fewest_17 : decode cX3_fewest 17 = .ok (.sipush 1408, 3) := by decide +kernel
theorem dX3_fewest_20 : decode cX3_fewest 20 = .ok (.istore 4, 2) := by decide +kernel
theorem dX3_fewest_22 : decode cX3_fewest 22 = .ok (.iconst 0, 1) := by decide +kernel
theorem dX3_fewest_23 : decode cX3_fewest 23 = .ok (.istore 5, 2) := by decide +kernel
theorem dX3_fewest_25 : decode cX3_fewest 25 = .ok (.iload 5, 2) := by decide +kernel
theorem dX3_fewest_27 : decode cX3_fewest 27 = .ok (.aload_n 1, 1) := by decide +kernel
theorem dX3_fewest_28 : decode cX3_fewest 28 = .ok (.getfield 27, 3) := by decide +kernel
theorem dX3_fewest_31 : decode cX3_fewest 31 = .ok (.if_icmp .ge 49, 3) := by decide +kernel
theorem dX3_fewest_34 : decode cX3_fewest 34 = .ok (.iload_n 3, 1) := by decide +kernel
theorem dX3_fewest_35 : decode cX3_fewest 35 = .ok (.iload 5, 2) := by decide +kernel
theorem dX3_fewest_37 : decode cX3_fewest 37 = .ok (.invokestatic 31, 3) := by decide +kernel
theorem dX3_fewest_40 : decode cX3_fewest 40 = .ok (.ifCond .eq 34, 3) := by decide +kernel
theorem dX3_fewest_43 : decode cX3_fewest 43 = .ok (.iload 4, 2) := by decide +kernel
theorem dX3_fewest_45 : decode cX3_fewest 45 = .ok (.aload_n 0, 1) := by decide +kernel
theorem dX3_fewest_46 : decode cX3_fewest 46 = .ok (.getfield 9, 3) := by decide +kernel
theorem dX3_fewest_49 : decode cX3_fewest 49 = .ok (.iload_n 3, 1) := by decide +kernel
theorem dX3_fewest_50 : decode cX3_fewest 50 = .ok (.iconst 1, 1) := by decide +kernel
theorem dX3_fewest_51 : decode cX3_fewest 51 = .ok (.iload 5, 2) := by decide +kernel
theorem dX3_fewest_53 : decode cX3_fewest 53 = .ok (.ishl, 1) := by decide +kernel
theorem dX3_fewest_54 : decode cX3_fewest 54 = .ok (.iconst (-1), 1) := by decide +kernel
theorem dX3_fewest_55 : decode cX3_fewest 55 = .ok (.ixor, 1) := by decide +kernel
theorem dX3_fewest_56 : decode cX3_fewest 56 = .ok (.iand, 1) := by decide +kernel
theorem dX3_fewest_57 : decode cX3_fewest 57 = .ok (.iaload, 1) := by decide +kernel
theorem dX3_fewest_58 : decode cX3_fewest 58 = .ok (.aload_n 1, 1) := by decide +kernel
theorem dX3_fewest_59 : decode cX3_fewest 59 = .ok (.getfield 35, 3) := by decide +kernel
theorem dX3_fewest_62 : decode cX3_fewest 62 = .ok (.iload 5, 2) := by decide +kernel
theorem dX3_fewest_64 : decode cX3_fewest 64 = .ok (.iaload, 1) := by decide +kernel
theorem dX3_fewest_65 : decode cX3_fewest 65 = .ok (.iload_n 2, 1) := by decide +kernel
theorem dX3_fewest_66 : decode cX3_fewest 66 = .ok (.invokestatic 38, 3) := by decide +kernel
theorem dX3_fewest_69 : decode cX3_fewest 69 = .ok (.invokestatic 42, 3) := by decide +kernel
theorem dX3_fewest_72 : decode cX3_fewest 72 = .ok (.istore 4, 2) := by decide +kernel
theorem dX3_fewest_74 : decode cX3_fewest 74 = .ok (.iinc 5 1, 3) := by decide +kernel
theorem dX3_fewest_77 : decode cX3_fewest 77 = .ok (.goto (-52), 3) := by decide +kernel
theorem dX3_fewest_80 : decode cX3_fewest 80 = .ok (.aload_n 0, 1) := by decide +kernel
theorem dX3_fewest_81 : decode cX3_fewest 81 = .ok (.getfield 9, 3) := by decide +kernel
theorem dX3_fewest_84 : decode cX3_fewest 84 = .ok (.iload_n 3, 1) := by decide +kernel
theorem dX3_fewest_85 : decode cX3_fewest 85 = .ok (.iload 4, 2) := by decide +kernel
theorem dX3_fewest_87 : decode cX3_fewest 87 = .ok (.iastore, 1) := by decide +kernel
theorem dX3_fewest_88 : decode cX3_fewest 88 = .ok (.iinc 3 1, 3) := by decide +kernel
theorem dX3_fewest_91 : decode cX3_fewest 91 = .ok (.goto (-82), 3) := by decide +kernel
theorem dX3_fewest_94 : decode cX3_fewest 94 = .ok (.aload_n 0, 1) := by decide +kernel
theorem dX3_fewest_95 : decode cX3_fewest 95 = .ok (.getfield 9, 3) := by decide +kernel
theorem dX3_fewest_98 : decode cX3_fewest 98 = .ok (.aload_n 1, 1) := by decide +kernel
theorem dX3_fewest_99 : decode cX3_fewest 99 = .ok (.invokevirtual 48, 3) := by decide +kernel
theorem dX3_fewest_102 : decode cX3_fewest 102 = .ok (.iaload, 1) := by decide +kernel
theorem dX3_fewest_103 : decode cX3_fewest 103 = .ok (.sipush 128, 3) := by decide +kernel
theorem dX3_fewest_106 : decode cX3_fewest 106 = .ok (.idiv, 1) := by decide +kernel
theorem dX3_fewest_107 : decode cX3_fewest 107 = .ok (.ireturn, 1) := by decide +kernel
theorem dX3_addTo_0 : decode cX3_addTo 0 = .ok (.iload_n 0, 1) := by decide +kernel
theorem dX3_addTo_1 : decode cX3_addTo 1 = .ok (.sipush 128, 3) := by decide +kernel
theorem dX3_addTo_4 : decode cX3_addTo 4 = .ok (.irem, 1) := by decide +kernel
theorem dX3_addTo_5 : decode cX3_addTo 5 = .ok (.iload_n 1, 1) := by decide +kernel
theorem dX3_addTo_6 : decode cX3_addTo 6 = .ok (.iadd, 1) := by decide +kernel
theorem dX3_addTo_7 : decode cX3_addTo 7 = .ok (.iload_n 2, 1) := by decide +kernel
theorem dX3_addTo_8 : decode cX3_addTo 8 = .ok (.if_icmp .gt 7, 3) := by decide +kernel
theorem dX3_addTo_11 : decode cX3_addTo 11 = .ok (.iload_n 0, 1) := by decide +kernel
theorem dX3_addTo_12 : decode cX3_addTo 12 = .ok (.iload_n 1, 1) := by decide +kernel
theorem dX3_addTo_13 : decode cX3_addTo 13 = .ok (.iadd, 1) := by decide +kernel
theorem dX3_addTo_14 : decode cX3_addTo 14 = .ok (.ireturn, 1) := by decide +kernel
theorem dX3_addTo_15 : decode cX3_addTo 15 = .ok (.iload_n 0, 1) := by decide +kernel
theorem dX3_addTo_16 : decode cX3_addTo 16 = .ok (.sipush 128, 3) := by decide +kernel
theorem dX3_addTo_19 : decode cX3_addTo 19 = .ok (.idiv, 1) := by decide +kernel
theorem dX3_addTo_20 : decode cX3_addTo 20 = .ok (.iconst 1, 1) := by decide +kernel
theorem dX3_addTo_21 : decode cX3_addTo 21 = .ok (.iadd, 1) := by decide +kernel
theorem dX3_addTo_22 : decode cX3_addTo 22 = .ok (.sipush 128, 3) := by decide +kernel
theorem dX3_addTo_25 : decode cX3_addTo 25 = .ok (.imul, 1) := by decide +kernel
theorem dX3_addTo_26 : decode cX3_addTo 26 = .ok (.iload_n 1, 1) := by decide +kernel
theorem dX3_addTo_27 : decode cX3_addTo 27 = .ok (.iadd, 1) := by decide +kernel
theorem dX3_addTo_28 : decode cX3_addTo 28 = .ok (.ireturn, 1) := by decide +kernel
theorem dX3_whenTold_0 : decode cX3_whenTold 0 = .ok (.aload_n 0, 1) := by decide +kernel
theorem dX3_whenTold_1 : decode cX3_whenTold 1 = .ok (.aload_n 1, 1) := by decide +kernel
theorem dX3_whenTold_2 : decode cX3_whenTold 2 = .ok (.iload_n 2, 1) := by decide +kernel
theorem dX3_whenTold_3 : decode cX3_whenTold 3 = .ok (.invokevirtual 51, 3) := by decide +kernel
theorem dX3_whenTold_6 : decode cX3_whenTold 6 = .ok (.istore 4, 2) := by decide +kernel
theorem dX3_whenTold_8 : decode cX3_whenTold 8 = .ok (.aload_n 0, 1) := by decide +kernel
theorem dX3_whenTold_9 : decode cX3_whenTold 9 = .ok (.getfield 15, 3) := by decide +kernel
theorem dX3_whenTold_12 : decode cX3_whenTold 12 = .ok (.iconst 0, 1) := by decide +kernel
theorem dX3_whenTold_13 : decode cX3_whenTold 13 = .ok (.invokestatic 55, 3) := by decide +kernel
theorem dX3_whenTold_16 : decode cX3_whenTold 16 = .ok (.aload_n 1, 1) := by decide +kernel
theorem dX3_whenTold_17 : decode cX3_whenTold 17 = .ok (.iload_n 2, 1) := by decide +kernel
theorem dX3_whenTold_18 : decode cX3_whenTold 18 = .ok (.iload 4, 2) := by decide +kernel
theorem dX3_whenTold_20 : decode cX3_whenTold 20 = .ok (.iconst 0, 1) := by decide +kernel
theorem dX3_whenTold_21 : decode cX3_whenTold 21 = .ok (.aload_n 0, 1) := by decide +kernel
theorem dX3_whenTold_22 : decode cX3_whenTold 22 = .ok (.getfield 15, 3) := by decide +kernel
theorem dX3_whenTold_25 : decode cX3_whenTold 25 = .ok (.aload_n 0, 1) := by decide +kernel
theorem dX3_whenTold_26 : decode cX3_whenTold 26 = .ok (.getfield 18, 3) := by decide +kernel
theorem dX3_whenTold_29 : decode cX3_whenTold 29 = .ok (.invokestatic 61, 3) := by decide +kernel
theorem dX3_whenTold_32 : decode cX3_whenTold 32 = .ok (.ifCond .eq 12, 3) := by decide +kernel
theorem dX3_whenTold_35 : decode cX3_whenTold 35 = .ok (.aload_n 0, 1) := by decide +kernel
theorem dX3_whenTold_36 : decode cX3_whenTold 36 = .ok (.getfield 18, 3) := by decide +kernel
theorem dX3_whenTold_39 : decode cX3_whenTold 39 = .ok (.iload_n 3, 1) := by decide +kernel
theorem dX3_whenTold_40 : decode cX3_whenTold 40 = .ok (.iaload, 1) := by decide +kernel
theorem dX3_whenTold_41 : decode cX3_whenTold 41 = .ok (.goto 4, 3) := by decide +kernel
theorem dX3_whenTold_44 : decode cX3_whenTold 44 = .ok (.iconst (-1), 1) := by decide +kernel
theorem dX3_whenTold_45 : decode cX3_whenTold 45 = .ok (.ireturn, 1) := by decide +kernel
theorem dX3_place_0 : decode cX3_place 0 = .ok (.iload_n 3, 1) := by decide +kernel
theorem dX3_place_1 : decode cX3_place 1 = .ok (.aload_n 0, 1) := by decide +kernel
theorem dX3_place_2 : decode cX3_place 2 = .ok (.getfield 27, 3) := by decide +kernel
theorem dX3_place_5 : decode cX3_place 5 = .ok (.if_icmp .ge 10, 3) := by decide +kernel
theorem dX3_place_8 : decode cX3_place 8 = .ok (.iload_n 3, 1) := by decide +kernel
theorem dX3_place_9 : decode cX3_place 9 = .ok (.aload 5, 2) := by decide +kernel
theorem dX3_place_11 : decode cX3_place 11 = .ok (.arraylength, 1) := by decide +kernel
theorem dX3_place_12 : decode cX3_place 12 = .ok (.if_icmp .lt 5, 3) := by decide +kernel
theorem dX3_place_15 : decode cX3_place 15 = .ok (.iconst 1, 1) := by decide +kernel
theorem dX3_place_16 : decode cX3_place 16 = .ok (.ireturn, 1) := by decide +kernel
theorem dX3_place_17 : decode cX3_place 17 = .ok (.iconst 0, 1) := by decide +kernel
theorem dX3_place_18 : decode cX3_place 18 = .ok (.istore 6, 2) := by decide +kernel
theorem dX3_place_20 : decode cX3_place 20 = .ok (.iload 6, 2) := by decide +kernel
theorem dX3_place_22 : decode cX3_place 22 = .ok (.iload_n 2, 1) := by decide +kernel
theorem dX3_place_23 : decode cX3_place 23 = .ok (.if_icmp .ge 107, 3) := by decide +kernel
theorem dX3_place_26 : decode cX3_place 26 = .ok (.iload 6, 2) := by decide +kernel
theorem dX3_place_28 : decode cX3_place 28 = .ok (.aload 4, 2) := by decide +kernel
theorem dX3_place_30 : decode cX3_place 30 = .ok (.arraylength, 1) := by decide +kernel
theorem dX3_place_31 : decode cX3_place 31 = .ok (.if_icmp .ge 99, 3) := by decide +kernel
theorem dX3_place_34 : decode cX3_place 34 = .ok (.aload 4, 2) := by decide +kernel
theorem dX3_place_36 : decode cX3_place 36 = .ok (.iload 6, 2) := by decide +kernel
theorem dX3_place_38 : decode cX3_place 38 = .ok (.iaload, 1) := by decide +kernel
theorem dX3_place_39 : decode cX3_place 39 = .ok (.ifCond .ne 7, 3) := by decide +kernel
theorem dX3_place_42 : decode cX3_place 42 = .ok (.iconst 1, 1) := by decide +kernel
theorem dX3_place_43 : decode cX3_place 43 = .ok (.goto 4, 3) := by decide +kernel
theorem dX3_place_46 : decode cX3_place 46 = .ok (.iconst 0, 1) := by decide +kernel
theorem dX3_place_47 : decode cX3_place 47 = .ok (.istore 7, 2) := by decide +kernel
theorem dX3_place_49 : decode cX3_place 49 = .ok (.aload 4, 2) := by decide +kernel
theorem dX3_place_51 : decode cX3_place 51 = .ok (.iload 6, 2) := by decide +kernel
theorem dX3_place_53 : decode cX3_place 53 = .ok (.iaload, 1) := by decide +kernel
theorem dX3_place_54 : decode cX3_place 54 = .ok (.aload_n 0, 1) := by decide +kernel
theorem dX3_place_55 : decode cX3_place 55 = .ok (.getfield 35, 3) := by decide +kernel
theorem dX3_place_58 : decode cX3_place 58 = .ok (.iload_n 3, 1) := by decide +kernel
theorem dX3_place_59 : decode cX3_place 59 = .ok (.iaload, 1) := by decide +kernel
theorem dX3_place_60 : decode cX3_place 60 = .ok (.iadd, 1) := by decide +kernel
theorem dX3_place_61 : decode cX3_place 61 = .ok (.iload_n 1, 1) := by decide +kernel
theorem dX3_place_62 : decode cX3_place 62 = .ok (.if_icmp .gt 55, 3) := by decide +kernel
theorem dX3_place_65 : decode cX3_place 65 = .ok (.aload 5, 2) := by decide +kernel
theorem dX3_place_67 : decode cX3_place 67 = .ok (.iload_n 3, 1) := by decide +kernel
theorem dX3_place_68 : decode cX3_place 68 = .ok (.iload 6, 2) := by decide +kernel
theorem dX3_place_70 : decode cX3_place 70 = .ok (.iastore, 1) := by decide +kernel
theorem dX3_place_71 : decode cX3_place 71 = .ok (.aload 4, 2) := by decide +kernel
theorem dX3_place_73 : decode cX3_place 73 = .ok (.iload 6, 2) := by decide +kernel
theorem dX3_place_75 : decode cX3_place 75 = .ok (.dup2, 1) := by decide +kernel
theorem dX3_place_76 : decode cX3_place 76 = .ok (.iaload, 1) := by decide +kernel
theorem dX3_place_77 : decode cX3_place 77 = .ok (.aload_n 0, 1) := by decide +kernel
theorem dX3_place_78 : decode cX3_place 78 = .ok (.getfield 35, 3) := by decide +kernel
theorem dX3_place_81 : decode cX3_place 81 = .ok (.iload_n 3, 1) := by decide +kernel
theorem dX3_place_82 : decode cX3_place 82 = .ok (.iaload, 1) := by decide +kernel
theorem dX3_place_83 : decode cX3_place 83 = .ok (.iadd, 1) := by decide +kernel
theorem dX3_place_84 : decode cX3_place 84 = .ok (.iastore, 1) := by decide +kernel
theorem dX3_place_85 : decode cX3_place 85 = .ok (.aload_n 0, 1) := by decide +kernel
theorem dX3_place_86 : decode cX3_place 86 = .ok (.iload_n 1, 1) := by decide +kernel
theorem dX3_place_87 : decode cX3_place 87 = .ok (.iload_n 2, 1) := by decide +kernel
theorem dX3_place_88 : decode cX3_place 88 = .ok (.iload_n 3, 1) := by decide +kernel
theorem dX3_place_89 : decode cX3_place 89 = .ok (.iconst 1, 1) := by decide +kernel
theorem dX3_place_90 : decode cX3_place 90 = .ok (.iadd, 1) := by decide +kernel
theorem dX3_place_91 : decode cX3_place 91 = .ok (.aload 4, 2) := by decide +kernel
theorem dX3_place_93 : decode cX3_place 93 = .ok (.aload 5, 2) := by decide +kernel
theorem dX3_place_95 : decode cX3_place 95 = .ok (.invokestatic 61, 3) := by decide +kernel
theorem dX3_place_98 : decode cX3_place 98 = .ok (.ifCond .eq 5, 3) := by decide +kernel
theorem dX3_place_101 : decode cX3_place 101 = .ok (.iconst 1, 1) := by decide +kernel
theorem dX3_place_102 : decode cX3_place 102 = .ok (.ireturn, 1) := by decide +kernel
theorem dX3_place_103 : decode cX3_place 103 = .ok (.aload 4, 2) := by decide +kernel
theorem dX3_place_105 : decode cX3_place 105 = .ok (.iload 6, 2) := by decide +kernel
theorem dX3_place_107 : decode cX3_place 107 = .ok (.dup2, 1) := by decide +kernel
theorem dX3_place_108 : decode cX3_place 108 = .ok (.iaload, 1) := by decide +kernel
theorem dX3_place_109 : decode cX3_place 109 = .ok (.aload_n 0, 1) := by decide +kernel
theorem dX3_place_110 : decode cX3_place 110 = .ok (.getfield 35, 3) := by decide +kernel
theorem dX3_place_113 : decode cX3_place 113 = .ok (.iload_n 3, 1) := by decide +kernel
theorem dX3_place_114 : decode cX3_place 114 = .ok (.iaload, 1) := by decide +kernel
theorem dX3_place_115 : decode cX3_place 115 = .ok (.isub, 1) := by decide +kernel
theorem dX3_place_116 : decode cX3_place 116 = .ok (.iastore, 1) := by decide +kernel
theorem dX3_place_117 : decode cX3_place 117 = .ok (.iload 7, 2) := by decide +kernel
theorem dX3_place_119 : decode cX3_place 119 = .ok (.ifCond .eq 5, 3) := by decide +kernel
theorem dX3_place_122 : decode cX3_place 122 = .ok (.iconst 0, 1) := by decide +kernel
theorem dX3_place_123 : decode cX3_place 123 = .ok (.ireturn, 1) := by decide +kernel
theorem dX3_place_124 : decode cX3_place 124 = .ok (.iinc 6 1, 3) := by decide +kernel
theorem dX3_place_127 : decode cX3_place 127 = .ok (.goto (-107), 3) := by decide +kernel
theorem dX3_place_130 : decode cX3_place 130 = .ok (.iconst 0, 1) := by decide +kernel
theorem dX3_place_131 : decode cX3_place 131 = .ok (.ireturn, 1) := by decide +kernel
theorem dX4_init_0 : decode cX4_init 0 = .ok (.aload_n 0, 1) := by decide +kernel
theorem dX4_init_1 : decode cX4_init 1 = .ok (.invokespecial 3, 3) := by decide +kernel
theorem dX4_init_4 : decode cX4_init 4 = .ok (.aload_n 0, 1) := by decide +kernel
theorem dX4_init_5 : decode cX4_init 5 = .ok (.sipush 600, 3) := by decide +kernel
theorem dX4_init_8 : decode cX4_init 8 = .ok (.newarray .byte, 2) := by decide +kernel
theorem dX4_init_10 : decode cX4_init 10 = .ok (.putfield 9, 3) := by decide +kernel
theorem dX4_init_13 : decode cX4_init 13 = .ok (.aload_n 0, 1) := by decide +kernel
theorem dX4_init_14 : decode cX4_init 14 = .ok (.iconst 0, 1) := by decide +kernel
theorem dX4_init_15 : decode cX4_init 15 = .ok (.putfield 15, 3) := by decide +kernel
theorem dX4_init_18 : decode cX4_init 18 = .ok (.aload_n 0, 1) := by decide +kernel
theorem dX4_init_19 : decode cX4_init 19 = .ok (.iconst 0, 1) := by decide +kernel
theorem dX4_init_20 : decode cX4_init 20 = .ok (.putfield 19, 3) := by decide +kernel
theorem dX4_init_23 : decode cX4_init 23 = .ok (.aload_n 0, 1) := by decide +kernel
theorem dX4_init_24 : decode cX4_init 24 = .ok (.iconst 0, 1) := by decide +kernel
theorem dX4_init_25 : decode cX4_init 25 = .ok (.putfield 22, 3) := by decide +kernel
theorem dX4_init_28 : decode cX4_init 28 = .ok (.aload_n 0, 1) := by decide +kernel
theorem dX4_init_29 : decode cX4_init 29 = .ok (.iconst 0, 1) := by decide +kernel
theorem dX4_init_30 : decode cX4_init 30 = .ok (.putfield 25, 3) := by decide +kernel
theorem dX4_init_33 : decode cX4_init 33 = .ok (.aload_n 0, 1) := by decide +kernel
theorem dX4_init_34 : decode cX4_init 34 = .ok (.iconst 0, 1) := by decide +kernel
theorem dX4_init_35 : decode cX4_init 35 = .ok (.putfield 28, 3) := by decide +kernel
theorem dX4_init_38 : decode cX4_init 38 = .ok (.aload_n 0, 1) := by decide +kernel
theorem dX4_init_39 : decode cX4_init 39 = .ok (.bipush 120, 2) := by decide +kernel
theorem dX4_init_41 : decode cX4_init 41 = .ok (.newarray .int, 2) := by decide +kernel
theorem dX4_init_43 : decode cX4_init 43 = .ok (.putfield 31, 3) := by decide +kernel
theorem dX4_init_46 : decode cX4_init 46 = .ok (.aload_n 0, 1) := by decide +kernel
theorem dX4_init_47 : decode cX4_init 47 = .ok (.bipush 120, 2) := by decide +kernel
theorem dX4_init_49 : decode cX4_init 49 = .ok (.newarray .int, 2) := by decide +kernel
theorem dX4_init_51 : decode cX4_init 51 = .ok (.putfield 35, 3) := by decide +kernel
theorem dX4_init_54 : decode cX4_init 54 = .ok (.aload_n 0, 1) := by decide +kernel
theorem dX4_init_55 : decode cX4_init 55 = .ok (.bipush 120, 2) := by decide +kernel
theorem dX4_init_57 : decode cX4_init 57 = .ok (.newarray .int, 2) := by decide +kernel
theorem dX4_init_59 : decode cX4_init 59 = .ok (.putfield 38, 3) := by decide +kernel
theorem dX4_init_62 : decode cX4_init 62 = .ok (.aload_n 0, 1) := by decide +kernel
theorem dX4_init_63 : decode cX4_init 63 = .ok (.sipush 360, 3) := by decide +kernel
theorem dX4_init_66 : decode cX4_init 66 = .ok (.newarray .int, 2) := by decide +kernel
theorem dX4_init_68 : decode cX4_init 68 = .ok (.putfield 41, 3) := by decide +kernel
theorem dX4_init_71 : decode cX4_init 71 = .ok (.aload_n 0, 1) := by decide +kernel
theorem dX4_init_72 : decode cX4_init 72 = .ok (.sipush 360, 3) := by decide +kernel
theorem dX4_init_75 : decode cX4_init 75 = .ok (.newarray .int, 2) := by decide +kernel
theorem dX4_init_77 : decode cX4_init 77 = .ok (.putfield 44, 3) := by decide +kernel
theorem dX4_init_80 : decode cX4_init 80 = .ok (.aload_n 0, 1) := by decide +kernel
theorem dX4_init_81 : decode cX4_init 81 = .ok (.iconst 4, 1) := by decide +kernel
theorem dX4_init_82 : decode cX4_init 82 = .ok (.newarray .int, 2) := by decide +kernel
theorem dX4_init_84 : decode cX4_init 84 = .ok (.putfield 47, 3) := by decide +kernel
theorem dX4_init_87 : decode cX4_init 87 = .ok (.aload_n 0, 1) := by decide +kernel
theorem dX4_init_88 : decode cX4_init 88 = .ok (.iconst 0, 1) := by decide +kernel
theorem dX4_init_89 : decode cX4_init 89 = .ok (.putfield 50, 3) := by decide +kernel
theorem dX4_init_92 : decode cX4_init 92 = .ok (.aload_n 0, 1) := by decide +kernel
theorem dX4_init_93 : decode cX4_init 93 = .ok (.iconst (-1), 1) := by decide +kernel
theorem dX4_init_94 : decode cX4_init 94 = .ok (.putfield 53, 3) := by decide +kernel
theorem dX4_init_97 : decode cX4_init 97 = .ok (.return_, 1) := by decide +kernel
theorem dX4_read_0 : decode cX4_read 0 = .ok (.aload_n 0, 1) := by decide +kernel
theorem dX4_read_1 : decode cX4_read 1 = .ok (.iconst 0, 1) := by decide +kernel
theorem dX4_read_2 : decode cX4_read 2 = .ok (.iload_n 2, 1) := by decide +kernel
theorem dX4_read_3 : decode cX4_read 3 = .ok (.aload_n 1, 1) := by decide +kernel
theorem dX4_read_4 : decode cX4_read 4 = .ok (.arraylength, 1) := by decide +kernel
theorem dX4_read_5 : decode cX4_read 5 = .ok (.sipush 600, 3) := by decide +kernel
theorem dX4_read_8 : decode cX4_read 8 = .ok (.invokestatic 56, 3) := by decide +kernel
theorem dX4_read_11 : decode cX4_read 11 = .ok (.invokestatic 56, 3) := by decide +kernel
theorem dX4_read_14 : decode cX4_read 14 = .ok (.invokestatic 62, 3) := by decide +kernel
theorem dX4_read_17 : decode cX4_read 17 = .ok (.putfield 15, 3) := by decide +kernel
theorem dX4_read_20 : decode cX4_read 20 = .ok (.aload_n 1, 1) := by decide +kernel
theorem dX4_read_21 : decode cX4_read 21 = .ok (.iconst 0, 1) := by decide +kernel
theorem dX4_read_22 : decode cX4_read 22 = .ok (.aload_n 0, 1) := by decide +kernel
theorem dX4_read_23 : decode cX4_read 23 = .ok (.getfield 9, 3) := by decide +kernel
theorem dX4_read_26 : decode cX4_read 26 = .ok (.iconst 0, 1) := by decide +kernel
theorem dX4_read_27 : decode cX4_read 27 = .ok (.aload_n 0, 1) := by decide +kernel
theorem dX4_read_28 : decode cX4_read 28 = .ok (.getfield 15, 3) := by decide +kernel
theorem dX4_read_31 : decode cX4_read 31 = .ok (.invokestatic 65, 3) := by decide +kernel
theorem dX4_read_34 : decode cX4_read 34 = .ok (.aload_n 0, 1) := by decide +kernel
theorem dX4_read_35 : decode cX4_read 35 = .ok (.iconst 0, 1) := by decide +kernel
theorem dX4_read_36 : decode cX4_read 36 = .ok (.putfield 50, 3) := by decide +kernel
theorem dX4_read_39 : decode cX4_read 39 = .ok (.aload_n 0, 1) := by decide +kernel
theorem dX4_read_40 : decode cX4_read 40 = .ok (.iconst (-1), 1) := by decide +kernel
theorem dX4_read_41 : decode cX4_read 41 = .ok (.putfield 53, 3) := by decide +kernel
theorem dX4_read_44 : decode cX4_read 44 = .ok (.aload_n 0, 1) := by decide +kernel
theorem dX4_read_45 : decode cX4_read 45 = .ok (.iload_n 3, 1) := by decide +kernel
theorem dX4_read_46 : decode cX4_read 46 = .ok (.invokevirtual 71, 3) := by decide +kernel
theorem dX4_read_49 : decode cX4_read 49 = .ok (.aload_n 0, 1) := by decide +kernel
theorem dX4_read_50 : decode cX4_read 50 = .ok (.getfield 50, 3) := by decide +kernel
theorem dX4_read_53 : decode cX4_read 53 = .ok (.ifCond .ne 7, 3) := by decide +kernel
theorem dX4_read_56 : decode cX4_read 56 = .ok (.aload_n 0, 1) := by decide +kernel
theorem dX4_read_57 : decode cX4_read 57 = .ok (.invokevirtual 75, 3) := by decide +kernel
theorem dX4_read_60 : decode cX4_read 60 = .ok (.aload_n 0, 1) := by decide +kernel
theorem dX4_read_61 : decode cX4_read 61 = .ok (.getfield 50, 3) := by decide +kernel
theorem dX4_read_64 : decode cX4_read 64 = .ok (.ifCond .ne 11, 3) := by decide +kernel
theorem dX4_read_67 : decode cX4_read 67 = .ok (.iload_n 3, 1) := by decide +kernel
theorem dX4_read_68 : decode cX4_read 68 = .ok (.ifCond .ne 7, 3) := by decide +kernel
theorem dX4_read_71 : decode cX4_read 71 = .ok (.aload_n 0, 1) := by decide +kernel
theorem dX4_read_72 : decode cX4_read 72 = .ok (.invokevirtual 78, 3) := by decide +kernel
theorem dX4_read_75 : decode cX4_read 75 = .ok (.return_, 1) := by decide +kernel
theorem dX4_blame_0 : decode cX4_blame 0 = .ok (.aload_n 0, 1) := by decide +kernel
theorem dX4_blame_1 : decode cX4_blame 1 = .ok (.iload_n 1, 1) := by decide +kernel
theorem dX4_blame_2 : decode cX4_blame 2 = .ok (.putfield 50, 3) := by decide +kernel
theorem dX4_blame_5 : decode cX4_blame 5 = .ok (.aload_n 0, 1) := by decide +kernel
theorem dX4_blame_6 : decode cX4_blame 6 = .ok (.iload_n 2, 1) := by decide +kernel
theorem dX4_blame_7 : decode cX4_blame 7 = .ok (.putfield 53, 3) := by decide +kernel
theorem dX4_blame_10 : decode cX4_blame 10 = .ok (.return_, 1) := by decide +kernel
theorem dX4_isBlank_0 : decode cX4_isBlank 0 = .ok (.iload_n 0, 1) := by decide +kernel
theorem dX4_isBlank_1 : decode cX4_isBlank 1 = .ok (.bipush 10, 2) := by decide +kernel
theorem dX4_isBlank_3 : decode cX4_isBlank 3 = .ok (.if_icmp .eq 9, 3) := by decide +kernel
theorem dX4_isBlank_6 : decode cX4_isBlank 6 = .ok (.iload_n 0, 1) := by decide +kernel
theorem dX4_isBlank_7 : decode cX4_isBlank 7 = .ok (.bipush 32, 2) := by decide +kernel
theorem dX4_isBlank_9 : decode cX4_isBlank 9 = .ok (.if_icmp .ne 7, 3) := by decide +kernel
theorem dX4_isBlank_12 : decode cX4_isBlank 12 = .ok (.iconst 1, 1) := by decide +kernel
theorem dX4_isBlank_13 : decode cX4_isBlank 13 = .ok (.goto 4, 3) := by decide +kernel
theorem dX4_isBlank_16 : decode cX4_isBlank 16 = .ok (.iconst 0, 1) := by decide +kernel
theorem dX4_isBlank_17 : decode cX4_isBlank 17 = .ok (.ireturn, 1) := by decide +kernel
theorem dX4_isLetter_0 : decode cX4_isLetter 0 = .ok (.iload_n 0, 1) := by decide +kernel
theorem dX4_isLetter_1 : decode cX4_isLetter 1 = .ok (.bipush 97, 2) := by decide +kernel
theorem dX4_isLetter_3 : decode cX4_isLetter 3 = .ok (.if_icmp .lt 13, 3) := by decide +kernel
theorem dX4_isLetter_6 : decode cX4_isLetter 6 = .ok (.iload_n 0, 1) := by decide +kernel
theorem dX4_isLetter_7 : decode cX4_isLetter 7 = .ok (.bipush 122, 2) := by decide +kernel
theorem dX4_isLetter_9 : decode cX4_isLetter 9 = .ok (.if_icmp .gt 7, 3) := by decide +kernel
theorem dX4_isLetter_12 : decode cX4_isLetter 12 = .ok (.iconst 1, 1) := by decide +kernel
theorem dX4_isLetter_13 : decode cX4_isLetter 13 = .ok (.goto 4, 3) := by decide +kernel
theorem dX4_isLetter_16 : decode cX4_isLetter 16 = .ok (.iconst 0, 1) := by decide +kernel
theorem dX4_isLetter_17 : decode cX4_isLetter 17 = .ok (.ireturn, 1) := by decide +kernel
theorem dX4_isDigit_0 : decode cX4_isDigit 0 = .ok (.iload_n 0, 1) := by decide +kernel
theorem dX4_isDigit_1 : decode cX4_isDigit 1 = .ok (.bipush 48, 2) := by decide +kernel
theorem dX4_isDigit_3 : decode cX4_isDigit 3 = .ok (.if_icmp .lt 13, 3) := by decide +kernel
theorem dX4_isDigit_6 : decode cX4_isDigit 6 = .ok (.iload_n 0, 1) := by decide +kernel
theorem dX4_isDigit_7 : decode cX4_isDigit 7 = .ok (.bipush 57, 2) := by decide +kernel
theorem dX4_isDigit_9 : decode cX4_isDigit 9 = .ok (.if_icmp .gt 7, 3) := by decide +kernel
theorem dX4_isDigit_12 : decode cX4_isDigit 12 = .ok (.iconst 1, 1) := by decide +kernel
theorem dX4_isDigit_13 : decode cX4_isDigit 13 = .ok (.goto 4, 3) := by decide +kernel
theorem dX4_isDigit_16 : decode cX4_isDigit 16 = .ok (.iconst 0, 1) := by decide +kernel
theorem dX4_isDigit_17 : decode cX4_isDigit 17 = .ok (.ireturn, 1) := by decide +kernel
theorem dX4_nextToken_0 : decode cX4_nextToken 0 = .ok (.aload_n 0, 1) := by decide +kernel
theorem dX4_nextToken_1 : decode cX4_nextToken 1 = .ok (.getfield 25, 3) := by decide +kernel
theorem dX4_nextToken_4 : decode cX4_nextToken 4 = .ok (.istore_n 1, 1) := by decide +kernel
theorem dX4_nextToken_5 : decode cX4_nextToken 5 = .ok (.iload_n 1, 1) := by decide +kernel
theorem dX4_nextToken_6 : decode cX4_nextToken 6 = .ok (.aload_n 0, 1) := by decide +kernel
theorem dX4_nextToken_7 : decode cX4_nextToken 7 = .ok (.getfield 15, 3) := by decide +kernel
theorem dX4_nextToken_10 : decode cX4_nextToken 10 = .ok (.if_icmp .ge 21, 3) := by decide +kernel
theorem dX4_nextToken_13 : decode cX4_nextToken 13 = .ok (.aload_n 0, 1) := by decide +kernel
theorem dX4_nextToken_14 : decode cX4_nextToken 14 = .ok (.getfield 9, 3) := by decide +kernel
theorem dX4_nextToken_17 : decode cX4_nextToken 17 = .ok (.iload_n 1, 1) := by decide +kernel
theorem dX4_nextToken_18 : decode cX4_nextToken 18 = .ok (.baload, 1) := by decide +kernel
theorem dX4_nextToken_19 : decode cX4_nextToken 19 = .ok (.invokestatic 81, 3) := by decide +kernel
theorem dX4_nextToken_22 : decode cX4_nextToken 22 = .ok (.ifCond .eq 9, 3) := by decide +kernel
theorem dX4_nextToken_25 : decode cX4_nextToken 25 = .ok (.iinc 1 1, 3) := by decide +kernel
theorem dX4_nextToken_28 : decode cX4_nextToken 28 = .ok (.goto (-23), 3) := by decide +kernel
theorem dX4_nextToken_31 : decode cX4_nextToken 31 = .ok (.aload_n 0, 1) := by decide +kernel
theorem dX4_nextToken_32 : decode cX4_nextToken 32 = .ok (.iload_n 1, 1) := by decide +kernel
theorem dX4_nextToken_33 : decode cX4_nextToken 33 = .ok (.putfield 22, 3) := by decide +kernel
theorem dX4_nextToken_36 : decode cX4_nextToken 36 = .ok (.iload_n 1, 1) := by decide +kernel
theorem dX4_nextToken_37 : decode cX4_nextToken 37 = .ok (.aload_n 0, 1) := by decide +kernel
theorem dX4_nextToken_38 : decode cX4_nextToken 38 = .ok (.getfield 15, 3) := by decide +kernel
theorem dX4_nextToken_41 : decode cX4_nextToken 41 = .ok (.if_icmp .lt 11, 3) := by decide +kernel
theorem dX4_nextToken_44 : decode cX4_nextToken 44 = .ok (.aload_n 0, 1) := by decide +kernel
theorem dX4_nextToken_45 : decode cX4_nextToken 45 = .ok (.iconst 0, 1) := by decide +kernel
theorem dX4_nextToken_46 : decode cX4_nextToken 46 = .ok (.putfield 19, 3) := by decide +kernel
theorem dX4_nextToken_49 : decode cX4_nextToken 49 = .ok (.goto 132, 3) := by decide +kernel
theorem dX4_nextToken_52 : decode cX4_nextToken 52 = .ok (.aload_n 0, 1) := by decide +kernel
theorem dX4_nextToken_53 : decode cX4_nextToken 53 = .ok (.getfield 9, 3) := by decide +kernel
theorem dX4_nextToken_56 : decode cX4_nextToken 56 = .ok (.iload_n 1, 1) := by decide +kernel
theorem dX4_nextToken_57 : decode cX4_nextToken 57 = .ok (.baload, 1) := by decide +kernel
theorem dX4_nextToken_58 : decode cX4_nextToken 58 = .ok (.invokestatic 85, 3) := by decide +kernel
theorem dX4_nextToken_61 : decode cX4_nextToken 61 = .ok (.ifCond .eq 37, 3) := by decide +kernel
theorem dX4_nextToken_64 : decode cX4_nextToken 64 = .ok (.iload_n 1, 1) := by decide +kernel
theorem dX4_nextToken_65 : decode cX4_nextToken 65 = .ok (.aload_n 0, 1) := by decide +kernel
theorem dX4_nextToken_66 : decode cX4_nextToken 66 = .ok (.getfield 15, 3) := by decide +kernel
theorem dX4_nextToken_69 : decode cX4_nextToken 69 = .ok (.if_icmp .ge 21, 3) := by decide +kernel
theorem dX4_nextToken_72 : decode cX4_nextToken 72 = .ok (.aload_n 0, 1) := by decide +kernel
theorem dX4_nextToken_73 : decode cX4_nextToken 73 = .ok (.getfield 9, 3) := by decide +kernel
theorem dX4_nextToken_76 : decode cX4_nextToken 76 = .ok (.iload_n 1, 1) := by decide +kernel
theorem dX4_nextToken_77 : decode cX4_nextToken 77 = .ok (.baload, 1) := by decide +kernel
theorem dX4_nextToken_78 : decode cX4_nextToken 78 = .ok (.invokestatic 85, 3) := by decide +kernel
theorem dX4_nextToken_81 : decode cX4_nextToken 81 = .ok (.ifCond .eq 9, 3) := by decide +kernel
theorem dX4_nextToken_84 : decode cX4_nextToken 84 = .ok (.iinc 1 1, 3) := by decide +kernel
theorem dX4_nextToken_87 : decode cX4_nextToken 87 = .ok (.goto (-23), 3) := by decide +kernel
theorem dX4_nextToken_90 : decode cX4_nextToken 90 = .ok (.aload_n 0, 1) := by decide +kernel
theorem dX4_nextToken_91 : decode cX4_nextToken 91 = .ok (.iconst 1, 1) := by decide +kernel
theorem dX4_nextToken_92 : decode cX4_nextToken 92 = .ok (.putfield 19, 3) := by decide +kernel
theorem dX4_nextToken_95 : decode cX4_nextToken 95 = .ok (.goto 86, 3) := by decide +kernel
theorem dX4_nextToken_98 : decode cX4_nextToken 98 = .ok (.aload_n 0, 1) := by decide +kernel
theorem dX4_nextToken_99 : decode cX4_nextToken 99 = .ok (.getfield 9, 3) := by decide +kernel
theorem dX4_nextToken_102 : decode cX4_nextToken 102 = .ok (.iload_n 1, 1) := by decide +kernel
theorem dX4_nextToken_103 : decode cX4_nextToken 103 = .ok (.baload, 1) := by decide +kernel
theorem dX4_nextToken_104 : decode cX4_nextToken 104 = .ok (.invokestatic 88, 3) := by decide +kernel
theorem dX4_nextToken_107 : decode cX4_nextToken 107 = .ok (.ifCond .eq 51, 3) := by decide +kernel
theorem dX4_nextToken_110 : decode cX4_nextToken 110 = .ok (.iload_n 1, 1) := by decide +kernel
theorem dX4_nextToken_111 : decode cX4_nextToken 111 = .ok (.aload_n 0, 1) := by decide +kernel
theorem dX4_nextToken_112 : decode cX4_nextToken 112 = .ok (.getfield 15, 3) := by decide +kernel
theorem dX4_nextToken_115 : decode cX4_nextToken 115 = .ok (.if_icmp .ge 21, 3) := by decide +kernel
theorem dX4_nextToken_118 : decode cX4_nextToken 118 = .ok (.aload_n 0, 1) := by decide +kernel
theorem dX4_nextToken_119 : decode cX4_nextToken 119 = .ok (.getfield 9, 3) := by decide +kernel
theorem dX4_nextToken_122 : decode cX4_nextToken 122 = .ok (.iload_n 1, 1) := by decide +kernel
theorem dX4_nextToken_123 : decode cX4_nextToken 123 = .ok (.baload, 1) := by decide +kernel
theorem dX4_nextToken_124 : decode cX4_nextToken 124 = .ok (.invokestatic 88, 3) := by decide +kernel
theorem dX4_nextToken_127 : decode cX4_nextToken 127 = .ok (.ifCond .eq 9, 3) := by decide +kernel
theorem dX4_nextToken_130 : decode cX4_nextToken 130 = .ok (.iinc 1 1, 3) := by decide +kernel
theorem dX4_nextToken_133 : decode cX4_nextToken 133 = .ok (.goto (-23), 3) := by decide +kernel
theorem dX4_nextToken_136 : decode cX4_nextToken 136 = .ok (.aload_n 0, 1) := by decide +kernel
theorem dX4_nextToken_137 : decode cX4_nextToken 137 = .ok (.iload_n 1, 1) := by decide +kernel
theorem dX4_nextToken_138 : decode cX4_nextToken 138 = .ok (.aload_n 0, 1) := by decide +kernel
theorem dX4_nextToken_139 : decode cX4_nextToken 139 = .ok (.getfield 22, 3) := by decide +kernel
theorem dX4_nextToken_142 : decode cX4_nextToken 142 = .ok (.isub, 1) := by decide +kernel
theorem dX4_nextToken_143 : decode cX4_nextToken 143 = .ok (.iconst 2, 1) := by decide +kernel
theorem dX4_nextToken_144 : decode cX4_nextToken 144 = .ok (.if_icmp .gt 7, 3) := by decide +kernel
theorem dX4_nextToken_147 : decode cX4_nextToken 147 = .ok (.iconst 2, 1) := by decide +kernel
theorem dX4_nextToken_148 : decode cX4_nextToken 148 = .ok (.goto 4, 3) := by decide +kernel
theorem dX4_nextToken_151 : decode cX4_nextToken 151 = .ok (.iconst 4, 1) := by decide +kernel
theorem dX4_nextToken_152 : decode cX4_nextToken 152 = .ok (.putfield 19, 3) := by decide +kernel
theorem dX4_nextToken_155 : decode cX4_nextToken 155 = .ok (.goto 26, 3) := by decide +kernel
theorem dX4_nextToken_158 : decode cX4_nextToken 158 = .ok (.aload_n 0, 1) := by decide +kernel
theorem dX4_nextToken_159 : decode cX4_nextToken 159 = .ok (.aload_n 0, 1) := by decide +kernel
theorem dX4_nextToken_160 : decode cX4_nextToken 160 = .ok (.getfield 9, 3) := by decide +kernel
theorem dX4_nextToken_163 : decode cX4_nextToken 163 = .ok (.iload_n 1, 1) := by decide +kernel
theorem dX4_nextToken_164 : decode cX4_nextToken 164 = .ok (.baload, 1) := by decide +kernel
theorem dX4_nextToken_165 : decode cX4_nextToken 165 = .ok (.bipush 59, 2) := by decide +kernel
theorem dX4_nextToken_167 : decode cX4_nextToken 167 = .ok (.if_icmp .ne 7, 3) := by decide +kernel
theorem dX4_nextToken_170 : decode cX4_nextToken 170 = .ok (.iconst 3, 1) := by decide +kernel
theorem dX4_nextToken_171 : decode cX4_nextToken 171 = .ok (.goto 4, 3) := by decide +kernel
theorem dX4_nextToken_174 : decode cX4_nextToken 174 = .ok (.iconst 4, 1) := by decide +kernel
theorem dX4_nextToken_175 : decode cX4_nextToken 175 = .ok (.putfield 19, 3) := by decide +kernel
theorem dX4_nextToken_178 : decode cX4_nextToken 178 = .ok (.iinc 1 1, 3) := by decide +kernel
theorem dX4_nextToken_181 : decode cX4_nextToken 181 = .ok (.aload_n 0, 1) := by decide +kernel
theorem dX4_nextToken_182 : decode cX4_nextToken 182 = .ok (.iload_n 1, 1) := by decide +kernel
theorem dX4_nextToken_183 : decode cX4_nextToken 183 = .ok (.putfield 25, 3) := by decide +kernel
theorem dX4_nextToken_186 : decode cX4_nextToken 186 = .ok (.return_, 1) := by decide +kernel
theorem dX4_tokenNumber_0 : decode cX4_tokenNumber 0 = .ok (.iconst 0, 1) := by decide +kernel
theorem dX4_tokenNumber_1 : decode cX4_tokenNumber 1 = .ok (.istore_n 1, 1) := by decide +kernel
theorem dX4_tokenNumber_2 : decode cX4_tokenNumber 2 = .ok (.aload_n 0, 1) := by decide +kernel
theorem dX4_tokenNumber_3 : decode cX4_tokenNumber 3 = .ok (.getfield 22, 3) := by decide +kernel
theorem dX4_tokenNumber_6 : decode cX4_tokenNumber 6 = .ok (.istore_n 2, 1) := by decide +kernel
theorem dX4_tokenNumber_7 : decode cX4_tokenNumber 7 = .ok (.iload_n 2, 1) := by decide +kernel
theorem dX4_tokenNumber_8 : decode cX4_tokenNumber 8 = .ok (.aload_n 0, 1) := by decide +kernel
theorem dX4_tokenNumber_9 : decode cX4_tokenNumber 9 = .ok (.getfield 25, 3) := by decide +kernel
theorem dX4_tokenNumber_12 : decode cX4_tokenNumber 12 = .ok (.if_icmp .ge 32, 3) := by decide +kernel
theorem dX4_tokenNumber_15 : decode cX4_tokenNumber 15 = .ok (.iload_n 2, 1) := by decide +kernel
theorem dX4_tokenNumber_16 : decode cX4_tokenNumber 16 = .ok (.aload_n 0, 1) := by decide +kernel
theorem dX4_tokenNumber_17 : decode cX4_tokenNumber 17 = .ok (.getfield 15, 3) := by decide +kernel
theorem dX4_tokenNumber_20 : decode cX4_tokenNumber 20 = .ok (.if_icmp .ge 24, 3) := by decide +kernel
theorem dX4_tokenNumber_23 : decode cX4_tokenNumber 23 = .ok (.iload_n 1, 1) := by decide +kernel
theorem dX4_tokenNumber_24 : decode cX4_tokenNumber 24 = .ok (.bipush 10, 2) := by decide +kernel
theorem dX4_tokenNumber_26 : decode cX4_tokenNumber 26 = .ok (.imul, 1) := by decide +kernel
theorem dX4_tokenNumber_27 : decode cX4_tokenNumber 27 = .ok (.aload_n 0, 1) := by decide +kernel
theorem dX4_tokenNumber_28 : decode cX4_tokenNumber 28 = .ok (.getfield 9, 3) := by decide +kernel
theorem dX4_tokenNumber_31 : decode cX4_tokenNumber 31 = .ok (.iload_n 2, 1) := by decide +kernel
theorem dX4_tokenNumber_32 : decode cX4_tokenNumber 32 = .ok (.baload, 1) := by decide +kernel
theorem dX4_tokenNumber_33 : decode cX4_tokenNumber 33 = .ok (.bipush 48, 2) := by decide +kernel
theorem dX4_tokenNumber_35 : decode cX4_tokenNumber 35 = .ok (.isub, 1) := by decide +kernel
theorem dX4_tokenNumber_36 : decode cX4_tokenNumber 36 = .ok (.iadd, 1) := by decide +kernel
theorem dX4_tokenNumber_37 : decode cX4_tokenNumber 37 = .ok (.istore_n 1, 1) := by decide +kernel
theorem dX4_tokenNumber_38 : decode cX4_tokenNumber 38 = .ok (.iinc 2 1, 3) := by decide +kernel
theorem dX4_tokenNumber_41 : decode cX4_tokenNumber 41 = .ok (.goto (-34), 3) := by decide +kernel
theorem dX4_tokenNumber_44 : decode cX4_tokenNumber 44 = .ok (.iload_n 1, 1) := by decide +kernel
theorem dX4_tokenNumber_45 : decode cX4_tokenNumber 45 = .ok (.ireturn, 1) := by decide +kernel
theorem dX4_spells_0 : decode cX4_spells 0 = .ok (.aload_n 0, 1) := by decide +kernel
theorem dX4_spells_1 : decode cX4_spells 1 = .ok (.getfield 19, 3) := by decide +kernel
theorem dX4_spells_4 : decode cX4_spells 4 = .ok (.iconst 1, 1) := by decide +kernel
theorem dX4_spells_5 : decode cX4_spells 5 = .ok (.if_icmp .ne 30, 3) := by decide +kernel
theorem dX4_spells_8 : decode cX4_spells 8 = .ok (.aload_n 0, 1) := by decide +kernel
theorem dX4_spells_9 : decode cX4_spells 9 = .ok (.getfield 25, 3) := by decide +kernel
theorem dX4_spells_12 : decode cX4_spells 12 = .ok (.aload_n 0, 1) := by decide +kernel
theorem dX4_spells_13 : decode cX4_spells 13 = .ok (.getfield 22, 3) := by decide +kernel
theorem dX4_spells_16 : decode cX4_spells 16 = .ok (.isub, 1) := by decide +kernel
theorem dX4_spells_17 : decode cX4_spells 17 = .ok (.aload_n 1, 1) := by decide +kernel
theorem dX4_spells_18 : decode cX4_spells 18 = .ok (.invokevirtual 91, 3) := by decide +kernel
theorem dX4_spells_21 : decode cX4_spells 21 = .ok (.if_icmp .ne 14, 3) := by decide +kernel
theorem dX4_spells_24 : decode cX4_spells 24 = .ok (.aload_n 0, 1) := by decide +kernel
theorem dX4_spells_25 : decode cX4_spells 25 = .ok (.getfield 25, 3) := by decide +kernel
theorem dX4_spells_28 : decode cX4_spells 28 = .ok (.aload_n 0, 1) := by decide +kernel
theorem dX4_spells_29 : decode cX4_spells 29 = .ok (.getfield 15, 3) := by decide +kernel
theorem dX4_spells_32 : decode cX4_spells 32 = .ok (.if_icmp .le 5, 3) := by decide +kernel
theorem dX4_spells_35 : decode cX4_spells 35 = .ok (.iconst 0, 1) := by decide +kernel
theorem dX4_spells_36 : decode cX4_spells 36 = .ok (.ireturn, 1) := by decide +kernel
theorem dX4_spells_37 : decode cX4_spells 37 = .ok (.iconst 0, 1) := by decide +kernel
theorem dX4_spells_38 : decode cX4_spells 38 = .ok (.istore_n 2, 1) := by decide +kernel
theorem dX4_spells_39 : decode cX4_spells 39 = .ok (.iload_n 2, 1) := by decide +kernel
theorem dX4_spells_40 : decode cX4_spells 40 = .ok (.aload_n 1, 1) := by decide +kernel
theorem dX4_spells_41 : decode cX4_spells 41 = .ok (.invokevirtual 91, 3) := by decide +kernel
theorem dX4_spells_44 : decode cX4_spells 44 = .ok (.if_icmp .ge 30, 3) := by decide +kernel
theorem dX4_spells_47 : decode cX4_spells 47 = .ok (.aload_n 0, 1) := by decide +kernel
theorem dX4_spells_48 : decode cX4_spells 48 = .ok (.getfield 9, 3) := by decide +kernel
theorem dX4_spells_51 : decode cX4_spells 51 = .ok (.aload_n 0, 1) := by decide +kernel
theorem dX4_spells_52 : decode cX4_spells 52 = .ok (.getfield 22, 3) := by decide +kernel
theorem dX4_spells_55 : decode cX4_spells 55 = .ok (.iload_n 2, 1) := by decide +kernel
theorem dX4_spells_56 : decode cX4_spells 56 = .ok (.iadd, 1) := by decide +kernel
theorem dX4_spells_57 : decode cX4_spells 57 = .ok (.baload, 1) := by decide +kernel
theorem dX4_spells_58 : decode cX4_spells 58 = .ok (.aload_n 1, 1) := by decide +kernel
theorem dX4_spells_59 : decode cX4_spells 59 = .ok (.iload_n 2, 1) := by decide +kernel
theorem dX4_spells_60 : decode cX4_spells 60 = .ok (.invokevirtual 96, 3) := by decide +kernel
theorem dX4_spells_63 : decode cX4_spells 63 = .ok (.if_icmp .eq 5, 3) := by decide +kernel
theorem dX4_spells_66 : decode cX4_spells 66 = .ok (.iconst 0, 1) := by decide +kernel
theorem dX4_spells_67 : decode cX4_spells 67 = .ok (.ireturn, 1) := by decide +kernel
theorem dX4_spells_68 : decode cX4_spells 68 = .ok (.iinc 2 1, 3) := by decide +kernel
theorem dX4_spells_71 : decode cX4_spells 71 = .ok (.goto (-32), 3) := by decide +kernel
theorem dX4_spells_74 : decode cX4_spells 74 = .ok (.iconst 1, 1) := by decide +kernel
theorem dX4_spells_75 : decode cX4_spells 75 = .ok (.ireturn, 1) := by decide +kernel
theorem dX4_wordOf_0 : decode cX4_wordOf 0 = .ok (.iload_n 0, 1) := by decide +kernel
theorem dX4_wordOf_1 : decode cX4_wordOf 1 = .ok (.tableswitch 99 0 11 #[63, 66, 69, 72, 75, 78, 81, 84, 87, 90, 93, 96], 63) := by decide +kernel
theorem dX4_wordOf_64 : decode cX4_wordOf 64 = .ok (.ldc 100, 2) := by decide +kernel
theorem dX4_wordOf_66 : decode cX4_wordOf 66 = .ok (.areturn, 1) := by decide +kernel
theorem dX4_wordOf_67 : decode cX4_wordOf 67 = .ok (.ldc 102, 2) := by decide +kernel
theorem dX4_wordOf_69 : decode cX4_wordOf 69 = .ok (.areturn, 1) := by decide +kernel
theorem dX4_wordOf_70 : decode cX4_wordOf 70 = .ok (.ldc 104, 2) := by decide +kernel
theorem dX4_wordOf_72 : decode cX4_wordOf 72 = .ok (.areturn, 1) := by decide +kernel
theorem dX4_wordOf_73 : decode cX4_wordOf 73 = .ok (.ldc 106, 2) := by decide +kernel
theorem dX4_wordOf_75 : decode cX4_wordOf 75 = .ok (.areturn, 1) := by decide +kernel
theorem dX4_wordOf_76 : decode cX4_wordOf 76 = .ok (.ldc 108, 2) := by decide +kernel
theorem dX4_wordOf_78 : decode cX4_wordOf 78 = .ok (.areturn, 1) := by decide +kernel
theorem dX4_wordOf_79 : decode cX4_wordOf 79 = .ok (.ldc 110, 2) := by decide +kernel
theorem dX4_wordOf_81 : decode cX4_wordOf 81 = .ok (.areturn, 1) := by decide +kernel
theorem dX4_wordOf_82 : decode cX4_wordOf 82 = .ok (.ldc 112, 2) := by decide +kernel
theorem dX4_wordOf_84 : decode cX4_wordOf 84 = .ok (.areturn, 1) := by decide +kernel
theorem dX4_wordOf_85 : decode cX4_wordOf 85 = .ok (.ldc 114, 2) := by decide +kernel
theorem dX4_wordOf_87 : decode cX4_wordOf 87 = .ok (.areturn, 1) := by decide +kernel
theorem dX4_wordOf_88 : decode cX4_wordOf 88 = .ok (.ldc 116, 2) := by decide +kernel
theorem dX4_wordOf_90 : decode cX4_wordOf 90 = .ok (.areturn, 1) := by decide +kernel
theorem dX4_wordOf_91 : decode cX4_wordOf 91 = .ok (.ldc 118, 2) := by decide +kernel
theorem dX4_wordOf_93 : decode cX4_wordOf 93 = .ok (.areturn, 1) := by decide +kernel
theorem dX4_wordOf_94 : decode cX4_wordOf 94 = .ok (.ldc 120, 2) := by decide +kernel
theorem dX4_wordOf_96 : decode cX4_wordOf 96 = .ok (.areturn, 1) := by decide +kernel
theorem dX4_wordOf_97 : decode cX4_wordOf 97 = .ok (.ldc 122, 2) := by decide +kernel
theorem dX4_wordOf_99 : decode cX4_wordOf 99 = .ok (.areturn, 1) := by decide +kernel
theorem dX4_wordOf_100 : decode cX4_wordOf 100 = .ok (.ldc 124, 2) := by decide +kernel
theorem dX4_wordOf_102 : decode cX4_wordOf 102 = .ok (.areturn, 1) := by decide +kernel
theorem dX4_verbOf_0 : decode cX4_verbOf 0 = .ok (.iload_n 1, 1) := by decide +kernel
theorem dX4_verbOf_1 : decode cX4_verbOf 1 = .ok (.ifCond .lt 8, 3) := by decide +kernel
theorem dX4_verbOf_4 : decode cX4_verbOf 4 = .ok (.iload_n 1, 1) := by decide +kernel
theorem dX4_verbOf_5 : decode cX4_verbOf 5 = .ok (.iconst 4, 1) := by decide +kernel
theorem dX4_verbOf_6 : decode cX4_verbOf 6 = .ok (.if_icmp .lt 5, 3) := by decide +kernel
theorem dX4_verbOf_9 : decode cX4_verbOf 9 = .ok (.iconst (-1), 1) := by decide +kernel
theorem dX4_verbOf_10 : decode cX4_verbOf 10 = .ok (.ireturn, 1) := by decide +kernel
theorem dX4_verbOf_11 : decode cX4_verbOf 11 = .ok (.getstatic 126, 3) := by decide +kernel
theorem dX4_verbOf_14 : decode cX4_verbOf 14 = .ok (.iload_n 1, 1) := by decide +kernel
theorem dX4_verbOf_15 : decode cX4_verbOf 15 = .ok (.iaload, 1) := by decide +kernel
theorem dX4_verbOf_16 : decode cX4_verbOf 16 = .ok (.istore_n 2, 1) := by decide +kernel
theorem dX4_verbOf_17 : decode cX4_verbOf 17 = .ok (.iload_n 2, 1) := by decide +kernel
theorem dX4_verbOf_18 : decode cX4_verbOf 18 = .ok (.getstatic 126, 3) := by decide +kernel
theorem dX4_verbOf_21 : decode cX4_verbOf 21 = .ok (.iload_n 1, 1) := by decide +kernel
theorem dX4_verbOf_22 : decode cX4_verbOf 22 = .ok (.iconst 1, 1) := by decide +kernel
theorem dX4_verbOf_23 : decode cX4_verbOf 23 = .ok (.iadd, 1) := by decide +kernel
theorem dX4_verbOf_24 : decode cX4_verbOf 24 = .ok (.iaload, 1) := by decide +kernel
theorem dX4_verbOf_25 : decode cX4_verbOf 25 = .ok (.if_icmp .ge 22, 3) := by decide +kernel
theorem dX4_verbOf_28 : decode cX4_verbOf 28 = .ok (.aload_n 0, 1) := by decide +kernel
theorem dX4_verbOf_29 : decode cX4_verbOf 29 = .ok (.iload_n 2, 1) := by decide +kernel
theorem dX4_verbOf_30 : decode cX4_verbOf 30 = .ok (.invokestatic 129, 3) := by decide +kernel
theorem dX4_verbOf_33 : decode cX4_verbOf 33 = .ok (.invokevirtual 133, 3) := by decide +kernel
theorem dX4_verbOf_36 : decode cX4_verbOf 36 = .ok (.ifCond .eq 5, 3) := by decide +kernel
theorem dX4_verbOf_39 : decode cX4_verbOf 39 = .ok (.iload_n 2, 1) := by decide +kernel
theorem dX4_verbOf_40 : decode cX4_verbOf 40 = .ok (.ireturn, 1) := by decide +kernel
theorem dX4_verbOf_41 : decode cX4_verbOf 41 = .ok (.iinc 2 1, 3) := by decide +kernel
theorem dX4_verbOf_44 : decode cX4_verbOf 44 = .ok (.goto (-27), 3) := by decide +kernel
theorem dX4_verbOf_47 : decode cX4_verbOf 47 = .ok (.iconst (-1), 1) := by decide +kernel
theorem dX4_verbOf_48 : decode cX4_verbOf 48 = .ok (.ireturn, 1) := by decide +kernel
theorem dX4_kindOf_0 : decode cX4_kindOf 0 = .ok (.aload_n 0, 1) := by decide +kernel
theorem dX4_kindOf_1 : decode cX4_kindOf 1 = .ok (.ldc 137, 2) := by decide +kernel
theorem dX4_kindOf_3 : decode cX4_kindOf 3 = .ok (.invokevirtual 133, 3) := by decide +kernel
theorem dX4_kindOf_6 : decode cX4_kindOf 6 = .ok (.ifCond .eq 5, 3) := by decide +kernel
theorem dX4_kindOf_9 : decode cX4_kindOf 9 = .ok (.iconst 0, 1) := by decide +kernel
theorem dX4_kindOf_10 : decode cX4_kindOf 10 = .ok (.ireturn, 1) := by decide +kernel
theorem dX4_kindOf_11 : decode cX4_kindOf 11 = .ok (.aload_n 0, 1) := by decide +kernel
theorem dX4_kindOf_12 : decode cX4_kindOf 12 = .ok (.ldc 139, 2) := by decide +kernel
theorem dX4_kindOf_14 : decode cX4_kindOf 14 = .ok (.invokevirtual 133, 3) := by decide +kernel
theorem dX4_kindOf_17 : decode cX4_kindOf 17 = .ok (.ifCond .eq 5, 3) := by decide +kernel
theorem dX4_kindOf_20 : decode cX4_kindOf 20 = .ok (.iconst 1, 1) := by decide +kernel
theorem dX4_kindOf_21 : decode cX4_kindOf 21 = .ok (.ireturn, 1) := by decide +kernel
theorem dX4_kindOf_22 : decode cX4_kindOf 22 = .ok (.aload_n 0, 1) := by decide +kernel
theorem dX4_kindOf_23 : decode cX4_kindOf 23 = .ok (.ldc 141, 2) := by decide +kernel
theorem dX4_kindOf_25 : decode cX4_kindOf 25 = .ok (.invokevirtual 133, 3) := by decide +kernel
theorem dX4_kindOf_28 : decode cX4_kindOf 28 = .ok (.ifCond .eq 5, 3) := by decide +kernel
theorem dX4_kindOf_31 : decode cX4_kindOf 31 = .ok (.iconst 2, 1) := by decide +kernel
theorem dX4_kindOf_32 : decode cX4_kindOf 32 = .ok (.ireturn, 1) := by decide +kernel
theorem dX4_kindOf_33 : decode cX4_kindOf 33 = .ok (.aload_n 0, 1) := by decide +kernel
theorem dX4_kindOf_34 : decode cX4_kindOf 34 = .ok (.ldc 143, 2) := by decide +kernel
theorem dX4_kindOf_36 : decode cX4_kindOf 36 = .ok (.invokevirtual 133, 3) := by decide +kernel
theorem dX4_kindOf_39 : decode cX4_kindOf 39 = .ok (.ifCond .eq 7, 3) := by decide +kernel
theorem dX4_kindOf_42 : decode cX4_kindOf 42 = .ok (.iconst 3, 1) := by decide +kernel
theorem dX4_kindOf_43 : decode cX4_kindOf 43 = .ok (.goto 4, 3) := by decide +kernel
theorem dX4_kindOf_46 : decode cX4_kindOf 46 = .ok (.iconst (-1), 1) := by decide +kernel
theorem dX4_kindOf_47 : decode cX4_kindOf 47 = .ok (.ireturn, 1) := by decide +kernel
theorem dX4_readLines_0 : decode cX4_readLines 0 = .ok (.aload_n 0, 1) := by decide +kernel
theorem dX4_readLines_1 : decode cX4_readLines 1 = .ok (.iconst 0, 1) := by decide +kernel
theorem dX4_readLines_2 : decode cX4_readLines 2 = .ok (.putfield 28, 3) := by decide +kernel
theorem dX4_readLines_5 : decode cX4_readLines 5 = .ok (.aload_n 0, 1) := by decide +kernel
theorem dX4_readLines_6 : decode cX4_readLines 6 = .ok (.iconst 0, 1) := by decide +kernel
theorem dX4_readLines_7 : decode cX4_readLines 7 = .ok (.putfield 25, 3) := by decide +kernel
theorem dX4_readLines_10 : decode cX4_readLines 10 = .ok (.aload_n 0, 1) := by decide +kernel
theorem dX4_readLines_11 : decode cX4_readLines 11 = .ok (.invokevirtual 145, 3) := by decide +kernel
theorem dX4_readLines_14 : decode cX4_readLines 14 = .ok (.iconst 0, 1) := by decide +kernel
theorem dX4_readLines_15 : decode cX4_readLines 15 = .ok (.istore_n 2, 1) := by decide +kernel
theorem dX4_readLines_16 : decode cX4_readLines 16 = .ok (.iload_n 2, 1) := by decide +kernel
theorem dX4_readLines_17 : decode cX4_readLines 17 = .ok (.bipush 120, 2) := by decide +kernel
theorem dX4_readLines_19 : decode cX4_readLines 19 = .ok (.if_icmp .gt 34, 3) := by decide +kernel
theorem dX4_readLines_22 : decode cX4_readLines 22 = .ok (.aload_n 0, 1) := by decide +kernel
theorem dX4_readLines_23 : decode cX4_readLines 23 = .ok (.getfield 19, 3) := by decide +kernel
theorem dX4_readLines_26 : decode cX4_readLines 26 = .ok (.ifCond .eq 27, 3) := by decide +kernel
theorem dX4_readLines_29 : decode cX4_readLines 29 = .ok (.aload_n 0, 1) := by decide +kernel
theorem dX4_readLines_30 : decode cX4_readLines 30 = .ok (.iload_n 1, 1) := by decide +kernel
theorem dX4_readLines_31 : decode cX4_readLines 31 = .ok (.invokevirtual 148, 3) := by decide +kernel
theorem dX4_readLines_34 : decode cX4_readLines 34 = .ok (.ifCond .ne 13, 3) := by decide +kernel
theorem dX4_readLines_37 : decode cX4_readLines 37 = .ok (.aload_n 0, 1) := by decide +kernel
theorem dX4_readLines_38 : decode cX4_readLines 38 = .ok (.iconst 1, 1) := by decide +kernel
theorem dX4_readLines_39 : decode cX4_readLines 39 = .ok (.aload_n 0, 1) := by decide +kernel
theorem dX4_readLines_40 : decode cX4_readLines 40 = .ok (.getfield 22, 3) := by decide +kernel
theorem dX4_readLines_43 : decode cX4_readLines 43 = .ok (.invokevirtual 151, 3) := by decide +kernel
theorem dX4_readLines_46 : decode cX4_readLines 46 = .ok (.return_, 1) := by decide +kernel
theorem dX4_readLines_47 : decode cX4_readLines 47 = .ok (.iinc 2 1, 3) := by decide +kernel
theorem dX4_readLines_50 : decode cX4_readLines 50 = .ok (.goto (-34), 3) := by decide +kernel
theorem dX4_readLines_53 : decode cX4_readLines 53 = .ok (.return_, 1) := by decide +kernel
theorem dX4_readLine_0 : decode cX4_readLine 0 = .ok (.aload_n 0, 1) := by decide +kernel
theorem dX4_readLine_1 : decode cX4_readLine 1 = .ok (.iload_n 1, 1) := by decide +kernel
theorem dX4_readLine_2 : decode cX4_readLine 2 = .ok (.invokevirtual 155, 3) := by decide +kernel
theorem dX4_readLine_5 : decode cX4_readLine 5 = .ok (.istore_n 2, 1) := by decide +kernel
theorem dX4_readLine_6 : decode cX4_readLine 6 = .ok (.iload_n 2, 1) := by decide +kernel
theorem dX4_readLine_7 : decode cX4_readLine 7 = .ok (.iconst (-1), 1) := by decide +kernel
theorem dX4_readLine_8 : decode cX4_readLine 8 = .ok (.if_icmp .eq 12, 3) := by decide +kernel
theorem dX4_readLine_11 : decode cX4_readLine 11 = .ok (.aload_n 0, 1) := by decide +kernel
theorem dX4_readLine_12 : decode cX4_readLine 12 = .ok (.getfield 28, 3) := by decide +kernel
theorem dX4_readLine_15 : decode cX4_readLine 15 = .ok (.bipush 120, 2) := by decide +kernel
theorem dX4_readLine_17 : decode cX4_readLine 17 = .ok (.if_icmp .lt 5, 3) := by decide +kernel
theorem dX4_readLine_20 : decode cX4_readLine 20 = .ok (.iconst 0, 1) := by decide +kernel
theorem dX4_readLine_21 : decode cX4_readLine 21 = .ok (.ireturn, 1) := by decide +kernel
theorem dX4_readLine_22 : decode cX4_readLine 22 = .ok (.aload_n 0, 1) := by decide +kernel
theorem dX4_readLine_23 : decode cX4_readLine 23 = .ok (.getfield 31, 3) := by decide +kernel
theorem dX4_readLine_26 : decode cX4_readLine 26 = .ok (.aload_n 0, 1) := by decide +kernel
theorem dX4_readLine_27 : decode cX4_readLine 27 = .ok (.getfield 28, 3) := by decide +kernel
theorem dX4_readLine_30 : decode cX4_readLine 30 = .ok (.iload_n 2, 1) := by decide +kernel
theorem dX4_readLine_31 : decode cX4_readLine 31 = .ok (.iastore, 1) := by decide +kernel
theorem dX4_readLine_32 : decode cX4_readLine 32 = .ok (.aload_n 0, 1) := by decide +kernel
theorem dX4_readLine_33 : decode cX4_readLine 33 = .ok (.getfield 35, 3) := by decide +kernel
theorem dX4_readLine_36 : decode cX4_readLine 36 = .ok (.aload_n 0, 1) := by decide +kernel
theorem dX4_readLine_37 : decode cX4_readLine 37 = .ok (.getfield 28, 3) := by decide +kernel
theorem dX4_readLine_40 : decode cX4_readLine 40 = .ok (.iconst (-1), 1) := by decide +kernel
theorem dX4_readLine_41 : decode cX4_readLine 41 = .ok (.iastore, 1) := by decide +kernel
theorem dX4_readLine_42 : decode cX4_readLine 42 = .ok (.aload_n 0, 1) := by decide +kernel
theorem dX4_readLine_43 : decode cX4_readLine 43 = .ok (.getfield 38, 3) := by decide +kernel
theorem dX4_readLine_46 : decode cX4_readLine 46 = .ok (.aload_n 0, 1) := by decide +kernel
theorem dX4_readLine_47 : decode cX4_readLine 47 = .ok (.getfield 28, 3) := by decide +kernel
theorem dX4_readLine_50 : decode cX4_readLine 50 = .ok (.aload_n 0, 1) := by decide +kernel
theorem dX4_readLine_51 : decode cX4_readLine 51 = .ok (.getfield 22, 3) := by decide +kernel
theorem dX4_readLine_54 : decode cX4_readLine 54 = .ok (.iastore, 1) := by decide +kernel
theorem dX4_readLine_55 : decode cX4_readLine 55 = .ok (.aload_n 0, 1) := by decide +kernel
theorem dX4_readLine_56 : decode cX4_readLine 56 = .ok (.invokevirtual 145, 3) := by decide +kernel
theorem dX4_readLine_59 : decode cX4_readLine 59 = .ok (.iload_n 2, 1) := by decide +kernel
theorem dX4_readLine_60 : decode cX4_readLine 60 = .ok (.ifCond .eq 8, 3) := by decide +kernel
theorem dX4_readLine_63 : decode cX4_readLine 63 = .ok (.iload_n 2, 1) := by decide +kernel
theorem dX4_readLine_64 : decode cX4_readLine 64 = .ok (.iconst 1, 1) := by decide +kernel
theorem dX4_readLine_65 : decode cX4_readLine 65 = .ok (.if_icmp .ne 35, 3) := by decide +kernel
theorem dX4_readLine_68 : decode cX4_readLine 68 = .ok (.aload_n 0, 1) := by decide +kernel
theorem dX4_readLine_69 : decode cX4_readLine 69 = .ok (.getfield 35, 3) := by decide +kernel
theorem dX4_readLine_72 : decode cX4_readLine 72 = .ok (.aload_n 0, 1) := by decide +kernel
theorem dX4_readLine_73 : decode cX4_readLine 73 = .ok (.getfield 28, 3) := by decide +kernel
theorem dX4_readLine_76 : decode cX4_readLine 76 = .ok (.aload_n 0, 1) := by decide +kernel
theorem dX4_readLine_77 : decode cX4_readLine 77 = .ok (.invokevirtual 159, 3) := by decide +kernel
theorem dX4_readLine_80 : decode cX4_readLine 80 = .ok (.iastore, 1) := by decide +kernel
theorem dX4_readLine_81 : decode cX4_readLine 81 = .ok (.aload_n 0, 1) := by decide +kernel
theorem dX4_readLine_82 : decode cX4_readLine 82 = .ok (.getfield 35, 3) := by decide +kernel
theorem dX4_readLine_85 : decode cX4_readLine 85 = .ok (.aload_n 0, 1) := by decide +kernel
theorem dX4_readLine_86 : decode cX4_readLine 86 = .ok (.getfield 28, 3) := by decide +kernel
theorem dX4_readLine_89 : decode cX4_readLine 89 = .ok (.iaload, 1) := by decide +kernel
theorem dX4_readLine_90 : decode cX4_readLine 90 = .ok (.iconst (-1), 1) := by decide +kernel
theorem dX4_readLine_91 : decode cX4_readLine 91 = .ok (.if_icmp .ne 5, 3) := by decide +kernel
theorem dX4_readLine_94 : decode cX4_readLine 94 = .ok (.iconst 0, 1) := by decide +kernel
theorem dX4_readLine_95 : decode cX4_readLine 95 = .ok (.ireturn, 1) := by decide +kernel
theorem dX4_readLine_96 : decode cX4_readLine 96 = .ok (.aload_n 0, 1) := by decide +kernel
theorem dX4_readLine_97 : decode cX4_readLine 97 = .ok (.invokevirtual 145, 3) := by decide +kernel
theorem dX4_readLine_100 : decode cX4_readLine 100 = .ok (.aload_n 0, 1) := by decide +kernel
theorem dX4_readLine_101 : decode cX4_readLine 101 = .ok (.iload_n 2, 1) := by decide +kernel
theorem dX4_readLine_102 : decode cX4_readLine 102 = .ok (.invokevirtual 162, 3) := by decide +kernel
theorem dX4_readLine_105 : decode cX4_readLine 105 = .ok (.ifCond .eq 11, 3) := by decide +kernel
theorem dX4_readLine_108 : decode cX4_readLine 108 = .ok (.aload_n 0, 1) := by decide +kernel
theorem dX4_readLine_109 : decode cX4_readLine 109 = .ok (.getfield 19, 3) := by decide +kernel
theorem dX4_readLine_112 : decode cX4_readLine 112 = .ok (.iconst 3, 1) := by decide +kernel
theorem dX4_readLine_113 : decode cX4_readLine 113 = .ok (.if_icmp .eq 5, 3) := by decide +kernel
theorem dX4_readLine_116 : decode cX4_readLine 116 = .ok (.iconst 0, 1) := by decide +kernel
theorem dX4_readLine_117 : decode cX4_readLine 117 = .ok (.ireturn, 1) := by decide +kernel
theorem dX4_readLine_118 : decode cX4_readLine 118 = .ok (.aload_n 0, 1) := by decide +kernel
theorem dX4_readLine_119 : decode cX4_readLine 119 = .ok (.invokevirtual 145, 3) := by decide +kernel
theorem dX4_readLine_122 : decode cX4_readLine 122 = .ok (.aload_n 0, 1) := by decide +kernel
theorem dX4_readLine_123 : decode cX4_readLine 123 = .ok (.dup, 1) := by decide +kernel
theorem dX4_readLine_124 : decode cX4_readLine 124 = .ok (.getfield 28, 3) := by decide +kernel
theorem dX4_readLine_127 : decode cX4_readLine 127 = .ok (.iconst 1, 1) := by decide +kernel
theorem dX4_readLine_128 : decode cX4_readLine 128 = .ok (.iadd, 1) := by decide +kernel
theorem dX4_readLine_129 : decode cX4_readLine 129 = .ok (.putfield 28, 3) := by decide +kernel
theorem dX4_readLine_132 : decode cX4_readLine 132 = .ok (.iconst 1, 1) := by decide +kernel
theorem dX4_readLine_133 : decode cX4_readLine 133 = .ok (.ireturn, 1) := by decide +kernel
theorem dX4_readNumbers_0 : decode cX4_readNumbers 0 = .ok (.iconst 0, 1) := by decide +kernel
theorem dX4_readNumbers_1 : decode cX4_readNumbers 1 = .ok (.istore_n 2, 1) := by decide +kernel
theorem dX4_readNumbers_2 : decode cX4_readNumbers 2 = .ok (.iload_n 2, 1) := by decide +kernel
theorem dX4_readNumbers_3 : decode cX4_readNumbers 3 = .ok (.iconst 3, 1) := by decide +kernel
theorem dX4_readNumbers_4 : decode cX4_readNumbers 4 = .ok (.if_icmp .ge 78, 3) := by decide +kernel
theorem dX4_readNumbers_7 : decode cX4_readNumbers 7 = .ok (.aload_n 0, 1) := by decide +kernel
theorem dX4_readNumbers_8 : decode cX4_readNumbers 8 = .ok (.getfield 28, 3) := by decide +kernel
theorem dX4_readNumbers_11 : decode cX4_readNumbers 11 = .ok (.iconst 3, 1) := by decide +kernel
theorem dX4_readNumbers_12 : decode cX4_readNumbers 12 = .ok (.imul, 1) := by decide +kernel
theorem dX4_readNumbers_13 : decode cX4_readNumbers 13 = .ok (.iload_n 2, 1) := by decide +kernel
theorem dX4_readNumbers_14 : decode cX4_readNumbers 14 = .ok (.iadd, 1) := by decide +kernel
theorem dX4_readNumbers_15 : decode cX4_readNumbers 15 = .ok (.istore_n 3, 1) := by decide +kernel
theorem dX4_readNumbers_16 : decode cX4_readNumbers 16 = .ok (.aload_n 0, 1) := by decide +kernel
theorem dX4_readNumbers_17 : decode cX4_readNumbers 17 = .ok (.getfield 41, 3) := by decide +kernel
theorem dX4_readNumbers_20 : decode cX4_readNumbers 20 = .ok (.iload_n 3, 1) := by decide +kernel
theorem dX4_readNumbers_21 : decode cX4_readNumbers 21 = .ok (.iconst (-1), 1) := by decide +kernel
theorem dX4_readNumbers_22 : decode cX4_readNumbers 22 = .ok (.iastore, 1) := by decide +kernel
theorem dX4_readNumbers_23 : decode cX4_readNumbers 23 = .ok (.aload_n 0, 1) := by decide +kernel
theorem dX4_readNumbers_24 : decode cX4_readNumbers 24 = .ok (.getfield 44, 3) := by decide +kernel
theorem dX4_readNumbers_27 : decode cX4_readNumbers 27 = .ok (.iload_n 3, 1) := by decide +kernel
theorem dX4_readNumbers_28 : decode cX4_readNumbers 28 = .ok (.iconst (-1), 1) := by decide +kernel
theorem dX4_readNumbers_29 : decode cX4_readNumbers 29 = .ok (.iastore, 1) := by decide +kernel
theorem dX4_readNumbers_30 : decode cX4_readNumbers 30 = .ok (.iload_n 2, 1) := by decide +kernel
theorem dX4_readNumbers_31 : decode cX4_readNumbers 31 = .ok (.getstatic 165, 3) := by decide +kernel
theorem dX4_readNumbers_34 : decode cX4_readNumbers 34 = .ok (.iload_n 1, 1) := by decide +kernel
theorem dX4_readNumbers_35 : decode cX4_readNumbers 35 = .ok (.iaload, 1) := by decide +kernel
theorem dX4_readNumbers_36 : decode cX4_readNumbers 36 = .ok (.if_icmp .lt 6, 3) := by decide +kernel
theorem dX4_readNumbers_39 : decode cX4_readNumbers 39 = .ok (.goto 37, 3) := by decide +kernel
theorem dX4_readNumbers_42 : decode cX4_readNumbers 42 = .ok (.aload_n 0, 1) := by decide +kernel
theorem dX4_readNumbers_43 : decode cX4_readNumbers 43 = .ok (.getfield 19, 3) := by decide +kernel
theorem dX4_readNumbers_46 : decode cX4_readNumbers 46 = .ok (.iconst 2, 1) := by decide +kernel
theorem dX4_readNumbers_47 : decode cX4_readNumbers 47 = .ok (.if_icmp .eq 5, 3) := by decide +kernel
theorem dX4_readNumbers_50 : decode cX4_readNumbers 50 = .ok (.iconst 0, 1) := by decide +kernel
theorem dX4_readNumbers_51 : decode cX4_readNumbers 51 = .ok (.ireturn, 1) := by decide +kernel
theorem dX4_readNumbers_52 : decode cX4_readNumbers 52 = .ok (.aload_n 0, 1) := by decide +kernel
theorem dX4_readNumbers_53 : decode cX4_readNumbers 53 = .ok (.getfield 41, 3) := by decide +kernel
theorem dX4_readNumbers_56 : decode cX4_readNumbers 56 = .ok (.iload_n 3, 1) := by decide +kernel
theorem dX4_readNumbers_57 : decode cX4_readNumbers 57 = .ok (.aload_n 0, 1) := by decide +kernel
theorem dX4_readNumbers_58 : decode cX4_readNumbers 58 = .ok (.invokevirtual 168, 3) := by decide +kernel
theorem dX4_readNumbers_61 : decode cX4_readNumbers 61 = .ok (.iastore, 1) := by decide +kernel
theorem dX4_readNumbers_62 : decode cX4_readNumbers 62 = .ok (.aload_n 0, 1) := by decide +kernel
theorem dX4_readNumbers_63 : decode cX4_readNumbers 63 = .ok (.getfield 44, 3) := by decide +kernel
theorem dX4_readNumbers_66 : decode cX4_readNumbers 66 = .ok (.iload_n 3, 1) := by decide +kernel
theorem dX4_readNumbers_67 : decode cX4_readNumbers 67 = .ok (.aload_n 0, 1) := by decide +kernel
theorem dX4_readNumbers_68 : decode cX4_readNumbers 68 = .ok (.getfield 22, 3) := by decide +kernel
theorem dX4_readNumbers_71 : decode cX4_readNumbers 71 = .ok (.iastore, 1) := by decide +kernel
theorem dX4_readNumbers_72 : decode cX4_readNumbers 72 = .ok (.aload_n 0, 1) := by decide +kernel
theorem dX4_readNumbers_73 : decode cX4_readNumbers 73 = .ok (.invokevirtual 145, 3) := by decide +kernel
theorem dX4_readNumbers_76 : decode cX4_readNumbers 76 = .ok (.iinc 2 1, 3) := by decide +kernel
theorem dX4_readNumbers_79 : decode cX4_readNumbers 79 = .ok (.goto (-77), 3) := by decide +kernel
theorem dX4_readNumbers_82 : decode cX4_readNumbers 82 = .ok (.iconst 1, 1) := by decide +kernel
theorem dX4_readNumbers_83 : decode cX4_readNumbers 83 = .ok (.ireturn, 1) := by decide +kernel
theorem dX4_checkLines_0 : decode cX4_checkLines 0 = .ok (.aload_n 0, 1) := by decide +kernel
theorem dX4_checkLines_1 : decode cX4_checkLines 1 = .ok (.getfield 47, 3) := by decide +kernel
theorem dX4_checkLines_4 : decode cX4_checkLines 4 = .ok (.iconst 0, 1) := by decide +kernel
theorem dX4_checkLines_5 : decode cX4_checkLines 5 = .ok (.invokestatic 171, 3) := by decide +kernel
theorem dX4_checkLines_8 : decode cX4_checkLines 8 = .ok (.iconst 0, 1) := by decide +kernel
theorem dX4_checkLines_9 : decode cX4_checkLines 9 = .ok (.istore_n 1, 1) := by decide +kernel
theorem dX4_checkLines_10 : decode cX4_checkLines 10 = .ok (.iload_n 1, 1) := by decide +kernel
theorem dX4_checkLines_11 : decode cX4_checkLines 11 = .ok (.aload_n 0, 1) := by decide +kernel
theorem dX4_checkLines_12 : decode cX4_checkLines 12 = .ok (.getfield 28, 3) := by decide +kernel
theorem dX4_checkLines_15 : decode cX4_checkLines 15 = .ok (.if_icmp .ge 76, 3) := by decide +kernel
theorem dX4_checkLines_18 : decode cX4_checkLines 18 = .ok (.aload_n 0, 1) := by decide +kernel
theorem dX4_checkLines_19 : decode cX4_checkLines 19 = .ok (.iload_n 1, 1) := by decide +kernel
theorem dX4_checkLines_20 : decode cX4_checkLines 20 = .ok (.invokevirtual 177, 3) := by decide +kernel
theorem dX4_checkLines_23 : decode cX4_checkLines 23 = .ok (.ifCond .eq 15, 3) := by decide +kernel
theorem dX4_checkLines_26 : decode cX4_checkLines 26 = .ok (.aload_n 0, 1) := by decide +kernel
theorem dX4_checkLines_27 : decode cX4_checkLines 27 = .ok (.iconst 3, 1) := by decide +kernel
theorem dX4_checkLines_28 : decode cX4_checkLines 28 = .ok (.aload_n 0, 1) := by decide +kernel
theorem dX4_checkLines_29 : decode cX4_checkLines 29 = .ok (.getfield 38, 3) := by decide +kernel
theorem dX4_checkLines_32 : decode cX4_checkLines 32 = .ok (.iload_n 1, 1) := by decide +kernel
theorem dX4_checkLines_33 : decode cX4_checkLines 33 = .ok (.iaload, 1) := by decide +kernel
theorem dX4_checkLines_34 : decode cX4_checkLines 34 = .ok (.invokevirtual 151, 3) := by decide +kernel
theorem dX4_checkLines_37 : decode cX4_checkLines 37 = .ok (.return_, 1) := by decide +kernel
theorem dX4_checkLines_38 : decode cX4_checkLines 38 = .ok (.iconst 0, 1) := by decide +kernel
theorem dX4_checkLines_39 : decode cX4_checkLines 39 = .ok (.istore_n 2, 1) := by decide +kernel
theorem dX4_checkLines_40 : decode cX4_checkLines 40 = .ok (.iload_n 2, 1) := by decide +kernel
theorem dX4_checkLines_41 : decode cX4_checkLines 41 = .ok (.getstatic 165, 3) := by decide +kernel
theorem dX4_checkLines_44 : decode cX4_checkLines 44 = .ok (.aload_n 0, 1) := by decide +kernel
theorem dX4_checkLines_45 : decode cX4_checkLines 45 = .ok (.getfield 31, 3) := by decide +kernel
theorem dX4_checkLines_48 : decode cX4_checkLines 48 = .ok (.iload_n 1, 1) := by decide +kernel
theorem dX4_checkLines_49 : decode cX4_checkLines 49 = .ok (.iaload, 1) := by decide +kernel
theorem dX4_checkLines_50 : decode cX4_checkLines 50 = .ok (.iaload, 1) := by decide +kernel
theorem dX4_checkLines_51 : decode cX4_checkLines 51 = .ok (.if_icmp .ge 34, 3) := by decide +kernel
theorem dX4_checkLines_54 : decode cX4_checkLines 54 = .ok (.aload_n 0, 1) := by decide +kernel
theorem dX4_checkLines_55 : decode cX4_checkLines 55 = .ok (.iload_n 1, 1) := by decide +kernel
theorem dX4_checkLines_56 : decode cX4_checkLines 56 = .ok (.iload_n 2, 1) := by decide +kernel
theorem dX4_checkLines_57 : decode cX4_checkLines 57 = .ok (.invokevirtual 180, 3) := by decide +kernel
theorem dX4_checkLines_60 : decode cX4_checkLines 60 = .ok (.ifCond .ne 19, 3) := by decide +kernel
theorem dX4_checkLines_63 : decode cX4_checkLines 63 = .ok (.aload_n 0, 1) := by decide +kernel
theorem dX4_checkLines_64 : decode cX4_checkLines 64 = .ok (.iconst 2, 1) := by decide +kernel
theorem dX4_checkLines_65 : decode cX4_checkLines 65 = .ok (.aload_n 0, 1) := by decide +kernel
theorem dX4_checkLines_66 : decode cX4_checkLines 66 = .ok (.getfield 44, 3) := by decide +kernel
theorem dX4_checkLines_69 : decode cX4_checkLines 69 = .ok (.iload_n 1, 1) := by decide +kernel
theorem dX4_checkLines_70 : decode cX4_checkLines 70 = .ok (.iconst 3, 1) := by decide +kernel
theorem dX4_checkLines_71 : decode cX4_checkLines 71 = .ok (.imul, 1) := by decide +kernel
theorem dX4_checkLines_72 : decode cX4_checkLines 72 = .ok (.iload_n 2, 1) := by decide +kernel
theorem dX4_checkLines_73 : decode cX4_checkLines 73 = .ok (.iadd, 1) := by decide +kernel
theorem dX4_checkLines_74 : decode cX4_checkLines 74 = .ok (.iaload, 1) := by decide +kernel
theorem dX4_checkLines_75 : decode cX4_checkLines 75 = .ok (.invokevirtual 151, 3) := by decide +kernel
theorem dX4_checkLines_78 : decode cX4_checkLines 78 = .ok (.return_, 1) := by decide +kernel
theorem dX4_checkLines_79 : decode cX4_checkLines 79 = .ok (.iinc 2 1, 3) := by decide +kernel
theorem dX4_checkLines_82 : decode cX4_checkLines 82 = .ok (.goto (-42), 3) := by decide +kernel
theorem dX4_checkLines_85 : decode cX4_checkLines 85 = .ok (.iinc 1 1, 3) := by decide +kernel
theorem dX4_checkLines_88 : decode cX4_checkLines 88 = .ok (.goto (-78), 3) := by decide +kernel
theorem dX4_checkLines_91 : decode cX4_checkLines 91 = .ok (.return_, 1) := by decide +kernel
theorem dX4_isTooMany_0 : decode cX4_isTooMany 0 = .ok (.aload_n 0, 1) := by decide +kernel
theorem dX4_isTooMany_1 : decode cX4_isTooMany 1 = .ok (.getfield 31, 3) := by decide +kernel
theorem dX4_isTooMany_4 : decode cX4_isTooMany 4 = .ok (.iload_n 1, 1) := by decide +kernel
theorem dX4_isTooMany_5 : decode cX4_isTooMany 5 = .ok (.iaload, 1) := by decide +kernel
theorem dX4_isTooMany_6 : decode cX4_isTooMany 6 = .ok (.istore_n 2, 1) := by decide +kernel
theorem dX4_isTooMany_7 : decode cX4_isTooMany 7 = .ok (.iload_n 2, 1) := by decide +kernel
theorem dX4_isTooMany_8 : decode cX4_isTooMany 8 = .ok (.iconst 3, 1) := by decide +kernel
theorem dX4_isTooMany_9 : decode cX4_isTooMany 9 = .ok (.if_icmp .le 18, 3) := by decide +kernel
theorem dX4_isTooMany_12 : decode cX4_isTooMany 12 = .ok (.iload_n 1, 1) := by decide +kernel
theorem dX4_isTooMany_13 : decode cX4_isTooMany 13 = .ok (.getstatic 184, 3) := by decide +kernel
theorem dX4_isTooMany_16 : decode cX4_isTooMany 16 = .ok (.iload_n 2, 1) := by decide +kernel
theorem dX4_isTooMany_17 : decode cX4_isTooMany 17 = .ok (.iaload, 1) := by decide +kernel
theorem dX4_isTooMany_18 : decode cX4_isTooMany 18 = .ok (.if_icmp .lt 7, 3) := by decide +kernel
theorem dX4_isTooMany_21 : decode cX4_isTooMany 21 = .ok (.iconst 1, 1) := by decide +kernel
theorem dX4_isTooMany_22 : decode cX4_isTooMany 22 = .ok (.goto 4, 3) := by decide +kernel
theorem dX4_isTooMany_25 : decode cX4_isTooMany 25 = .ok (.iconst 0, 1) := by decide +kernel
theorem dX4_isTooMany_26 : decode cX4_isTooMany 26 = .ok (.ireturn, 1) := by decide +kernel
theorem dX4_isTooMany_27 : decode cX4_isTooMany 27 = .ok (.aload_n 0, 1) := by decide +kernel
theorem dX4_isTooMany_28 : decode cX4_isTooMany 28 = .ok (.getfield 47, 3) := by decide +kernel
theorem dX4_isTooMany_31 : decode cX4_isTooMany 31 = .ok (.iload_n 2, 1) := by decide +kernel
theorem dX4_isTooMany_32 : decode cX4_isTooMany 32 = .ok (.dup2, 1) := by decide +kernel
theorem dX4_isTooMany_33 : decode cX4_isTooMany 33 = .ok (.iaload, 1) := by decide +kernel
theorem dX4_isTooMany_34 : decode cX4_isTooMany 34 = .ok (.iconst 1, 1) := by decide +kernel
theorem dX4_isTooMany_35 : decode cX4_isTooMany 35 = .ok (.iadd, 1) := by decide +kernel
theorem dX4_isTooMany_36 : decode cX4_isTooMany 36 = .ok (.iastore, 1) := by decide +kernel
theorem dX4_isTooMany_37 : decode cX4_isTooMany 37 = .ok (.aload_n 0, 1) := by decide +kernel
theorem dX4_isTooMany_38 : decode cX4_isTooMany 38 = .ok (.getfield 47, 3) := by decide +kernel
theorem dX4_isTooMany_41 : decode cX4_isTooMany 41 = .ok (.iload_n 2, 1) := by decide +kernel
theorem dX4_isTooMany_42 : decode cX4_isTooMany 42 = .ok (.iaload, 1) := by decide +kernel
theorem dX4_isTooMany_43 : decode cX4_isTooMany 43 = .ok (.getstatic 184, 3) := by decide +kernel
theorem dX4_isTooMany_46 : decode cX4_isTooMany 46 = .ok (.iload_n 2, 1) := by decide +kernel
theorem dX4_isTooMany_47 : decode cX4_isTooMany 47 = .ok (.iaload, 1) := by decide +kernel
theorem dX4_isTooMany_48 : decode cX4_isTooMany 48 = .ok (.if_icmp .le 7, 3) := by decide +kernel
theorem dX4_isTooMany_51 : decode cX4_isTooMany 51 = .ok (.iconst 1, 1) := by decide +kernel
theorem dX4_isTooMany_52 : decode cX4_isTooMany 52 = .ok (.goto 4, 3) := by decide +kernel
theorem dX4_isTooMany_55 : decode cX4_isTooMany 55 = .ok (.iconst 0, 1) := by decide +kernel
theorem dX4_isTooMany_56 : decode cX4_isTooMany 56 = .ok (.ireturn, 1) := by decide +kernel
theorem dX4_mayBe_0 : decode cX4_mayBe 0 = .ok (.aload_n 0, 1) := by decide +kernel
theorem dX4_mayBe_1 : decode cX4_mayBe 1 = .ok (.getfield 31, 3) := by decide +kernel
theorem dX4_mayBe_4 : decode cX4_mayBe 4 = .ok (.iload_n 1, 1) := by decide +kernel
theorem dX4_mayBe_5 : decode cX4_mayBe 5 = .ok (.iaload, 1) := by decide +kernel
theorem dX4_mayBe_6 : decode cX4_mayBe 6 = .ok (.istore_n 3, 1) := by decide +kernel
theorem dX4_mayBe_7 : decode cX4_mayBe 7 = .ok (.iload_n 1, 1) := by decide +kernel
theorem dX4_mayBe_8 : decode cX4_mayBe 8 = .ok (.iconst 3, 1) := by decide +kernel
theorem dX4_mayBe_9 : decode cX4_mayBe 9 = .ok (.imul, 1) := by decide +kernel
theorem dX4_mayBe_10 : decode cX4_mayBe 10 = .ok (.istore 4, 2) := by decide +kernel
theorem dX4_mayBe_12 : decode cX4_mayBe 12 = .ok (.aload_n 0, 1) := by decide +kernel
theorem dX4_mayBe_13 : decode cX4_mayBe 13 = .ok (.getfield 41, 3) := by decide +kernel
theorem dX4_mayBe_16 : decode cX4_mayBe 16 = .ok (.iload 4, 2) := by decide +kernel
theorem dX4_mayBe_18 : decode cX4_mayBe 18 = .ok (.iload_n 2, 1) := by decide +kernel
theorem dX4_mayBe_19 : decode cX4_mayBe 19 = .ok (.iadd, 1) := by decide +kernel
theorem dX4_mayBe_20 : decode cX4_mayBe 20 = .ok (.iaload, 1) := by decide +kernel
theorem dX4_mayBe_21 : decode cX4_mayBe 21 = .ok (.istore 5, 2) := by decide +kernel
theorem dX4_mayBe_23 : decode cX4_mayBe 23 = .ok (.iload 5, 2) := by decide +kernel
theorem dX4_mayBe_25 : decode cX4_mayBe 25 = .ok (.getstatic 187, 3) := by decide +kernel
theorem dX4_mayBe_28 : decode cX4_mayBe 28 = .ok (.iload_n 3, 1) := by decide +kernel
theorem dX4_mayBe_29 : decode cX4_mayBe 29 = .ok (.iconst 3, 1) := by decide +kernel
theorem dX4_mayBe_30 : decode cX4_mayBe 30 = .ok (.imul, 1) := by decide +kernel
theorem dX4_mayBe_31 : decode cX4_mayBe 31 = .ok (.iload_n 2, 1) := by decide +kernel
theorem dX4_mayBe_32 : decode cX4_mayBe 32 = .ok (.iadd, 1) := by decide +kernel
theorem dX4_mayBe_33 : decode cX4_mayBe 33 = .ok (.iaload, 1) := by decide +kernel
theorem dX4_mayBe_34 : decode cX4_mayBe 34 = .ok (.if_icmp .lt 17, 3) := by decide +kernel
theorem dX4_mayBe_37 : decode cX4_mayBe 37 = .ok (.iload 5, 2) := by decide +kernel
theorem dX4_mayBe_39 : decode cX4_mayBe 39 = .ok (.getstatic 190, 3) := by decide +kernel
theorem dX4_mayBe_42 : decode cX4_mayBe 42 = .ok (.iload_n 3, 1) := by decide +kernel
theorem dX4_mayBe_43 : decode cX4_mayBe 43 = .ok (.iconst 3, 1) := by decide +kernel
theorem dX4_mayBe_44 : decode cX4_mayBe 44 = .ok (.imul, 1) := by decide +kernel
theorem dX4_mayBe_45 : decode cX4_mayBe 45 = .ok (.iload_n 2, 1) := by decide +kernel
theorem dX4_mayBe_46 : decode cX4_mayBe 46 = .ok (.iadd, 1) := by decide +kernel
theorem dX4_mayBe_47 : decode cX4_mayBe 47 = .ok (.iaload, 1) := by decide +kernel
theorem dX4_mayBe_48 : decode cX4_mayBe 48 = .ok (.if_icmp .le 5, 3) := by decide +kernel
theorem dX4_mayBe_51 : decode cX4_mayBe 51 = .ok (.iconst 0, 1) := by decide +kernel
theorem dX4_mayBe_52 : decode cX4_mayBe 52 = .ok (.ireturn, 1) := by decide +kernel
theorem dX4_mayBe_53 : decode cX4_mayBe 53 = .ok (.iload_n 3, 1) := by decide +kernel
theorem dX4_mayBe_54 : decode cX4_mayBe 54 = .ok (.iconst 3, 1) := by decide +kernel
theorem dX4_mayBe_55 : decode cX4_mayBe 55 = .ok (.if_icmp .ne 44, 3) := by decide +kernel
theorem dX4_mayBe_58 : decode cX4_mayBe 58 = .ok (.iload_n 2, 1) := by decide +kernel
theorem dX4_mayBe_59 : decode cX4_mayBe 59 = .ok (.ifCond .le 40, 3) := by decide +kernel
theorem dX4_mayBe_62 : decode cX4_mayBe 62 = .ok (.iload 5, 2) := by decide +kernel
theorem dX4_mayBe_64 : decode cX4_mayBe 64 = .ok (.aload_n 0, 1) := by decide +kernel
theorem dX4_mayBe_65 : decode cX4_mayBe 65 = .ok (.getfield 41, 3) := by decide +kernel
theorem dX4_mayBe_68 : decode cX4_mayBe 68 = .ok (.iload 4, 2) := by decide +kernel
theorem dX4_mayBe_70 : decode cX4_mayBe 70 = .ok (.iaload, 1) := by decide +kernel
theorem dX4_mayBe_71 : decode cX4_mayBe 71 = .ok (.if_icmp .eq 26, 3) := by decide +kernel
theorem dX4_mayBe_74 : decode cX4_mayBe 74 = .ok (.iload_n 2, 1) := by decide +kernel
theorem dX4_mayBe_75 : decode cX4_mayBe 75 = .ok (.iconst 1, 1) := by decide +kernel
theorem dX4_mayBe_76 : decode cX4_mayBe 76 = .ok (.if_icmp .eq 17, 3) := by decide +kernel
theorem dX4_mayBe_79 : decode cX4_mayBe 79 = .ok (.iload 5, 2) := by decide +kernel
theorem dX4_mayBe_81 : decode cX4_mayBe 81 = .ok (.aload_n 0, 1) := by decide +kernel
theorem dX4_mayBe_82 : decode cX4_mayBe 82 = .ok (.getfield 41, 3) := by decide +kernel
theorem dX4_mayBe_85 : decode cX4_mayBe 85 = .ok (.iload 4, 2) := by decide +kernel
theorem dX4_mayBe_87 : decode cX4_mayBe 87 = .ok (.iconst 1, 1) := by decide +kernel
theorem dX4_mayBe_88 : decode cX4_mayBe 88 = .ok (.iadd, 1) := by decide +kernel
theorem dX4_mayBe_89 : decode cX4_mayBe 89 = .ok (.iaload, 1) := by decide +kernel
theorem dX4_mayBe_90 : decode cX4_mayBe 90 = .ok (.if_icmp .eq 7, 3) := by decide +kernel
theorem dX4_mayBe_93 : decode cX4_mayBe 93 = .ok (.iconst 1, 1) := by decide +kernel
theorem dX4_mayBe_94 : decode cX4_mayBe 94 = .ok (.goto 4, 3) := by decide +kernel
theorem dX4_mayBe_97 : decode cX4_mayBe 97 = .ok (.iconst 0, 1) := by decide +kernel
theorem dX4_mayBe_98 : decode cX4_mayBe 98 = .ok (.ireturn, 1) := by decide +kernel
theorem dX4_mayBe_99 : decode cX4_mayBe 99 = .ok (.iload_n 3, 1) := by decide +kernel
theorem dX4_mayBe_100 : decode cX4_mayBe 100 = .ok (.iconst 5, 1) := by decide +kernel
theorem dX4_mayBe_101 : decode cX4_mayBe 101 = .ok (.if_icmp .ne 28, 3) := by decide +kernel
theorem dX4_mayBe_104 : decode cX4_mayBe 104 = .ok (.iload_n 2, 1) := by decide +kernel
theorem dX4_mayBe_105 : decode cX4_mayBe 105 = .ok (.iconst 2, 1) := by decide +kernel
theorem dX4_mayBe_106 : decode cX4_mayBe 106 = .ok (.if_icmp .ne 23, 3) := by decide +kernel
theorem dX4_mayBe_109 : decode cX4_mayBe 109 = .ok (.iload 5, 2) := by decide +kernel
theorem dX4_mayBe_111 : decode cX4_mayBe 111 = .ok (.aload_n 0, 1) := by decide +kernel
theorem dX4_mayBe_112 : decode cX4_mayBe 112 = .ok (.getfield 41, 3) := by decide +kernel
theorem dX4_mayBe_115 : decode cX4_mayBe 115 = .ok (.iload 4, 2) := by decide +kernel
theorem dX4_mayBe_117 : decode cX4_mayBe 117 = .ok (.iconst 1, 1) := by decide +kernel
theorem dX4_mayBe_118 : decode cX4_mayBe 118 = .ok (.iadd, 1) := by decide +kernel
theorem dX4_mayBe_119 : decode cX4_mayBe 119 = .ok (.iaload, 1) := by decide +kernel
theorem dX4_mayBe_120 : decode cX4_mayBe 120 = .ok (.if_icmp .eq 7, 3) := by decide +kernel
theorem dX4_mayBe_123 : decode cX4_mayBe 123 = .ok (.iconst 1, 1) := by decide +kernel
theorem dX4_mayBe_124 : decode cX4_mayBe 124 = .ok (.goto 4, 3) := by decide +kernel
theorem dX4_mayBe_127 : decode cX4_mayBe 127 = .ok (.iconst 0, 1) := by decide +kernel
theorem dX4_mayBe_128 : decode cX4_mayBe 128 = .ok (.ireturn, 1) := by decide +kernel
theorem dX4_mayBe_129 : decode cX4_mayBe 129 = .ok (.iload_n 3, 1) := by decide +kernel
theorem dX4_mayBe_130 : decode cX4_mayBe 130 = .ok (.bipush 10, 2) := by decide +kernel
theorem dX4_mayBe_132 : decode cX4_mayBe 132 = .ok (.if_icmp .ne 25, 3) := by decide +kernel
theorem dX4_mayBe_135 : decode cX4_mayBe 135 = .ok (.iload_n 2, 1) := by decide +kernel
theorem dX4_mayBe_136 : decode cX4_mayBe 136 = .ok (.ifCond .gt 21, 3) := by decide +kernel
theorem dX4_mayBe_139 : decode cX4_mayBe 139 = .ok (.iload_n 1, 1) := by decide +kernel
theorem dX4_mayBe_140 : decode cX4_mayBe 140 = .ok (.ifCond .eq 17, 3) := by decide +kernel
theorem dX4_mayBe_143 : decode cX4_mayBe 143 = .ok (.iload 5, 2) := by decide +kernel
theorem dX4_mayBe_145 : decode cX4_mayBe 145 = .ok (.aload_n 0, 1) := by decide +kernel
theorem dX4_mayBe_146 : decode cX4_mayBe 146 = .ok (.getfield 41, 3) := by decide +kernel
theorem dX4_mayBe_149 : decode cX4_mayBe 149 = .ok (.iload 4, 2) := by decide +kernel
theorem dX4_mayBe_151 : decode cX4_mayBe 151 = .ok (.iconst 3, 1) := by decide +kernel
theorem dX4_mayBe_152 : decode cX4_mayBe 152 = .ok (.isub, 1) := by decide +kernel
theorem dX4_mayBe_153 : decode cX4_mayBe 153 = .ok (.iaload, 1) := by decide +kernel
theorem dX4_mayBe_154 : decode cX4_mayBe 154 = .ok (.if_icmp .lt 7, 3) := by decide +kernel
theorem dX4_mayBe_157 : decode cX4_mayBe 157 = .ok (.iconst 1, 1) := by decide +kernel
theorem dX4_mayBe_158 : decode cX4_mayBe 158 = .ok (.goto 4, 3) := by decide +kernel
theorem dX4_mayBe_161 : decode cX4_mayBe 161 = .ok (.iconst 0, 1) := by decide +kernel
theorem dX4_mayBe_162 : decode cX4_mayBe 162 = .ok (.ireturn, 1) := by decide +kernel
