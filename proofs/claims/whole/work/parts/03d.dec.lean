theorem dX10_representative_57 : decode cX10_representative 57 = .ok (.ireturn, 1) := by decide +kernel
theorem dX10_classCount_0 : decode cX10_classCount 0 = .ok (.aload_n 0, 1) := by decide +kernel
theorem dX10_classCount_1 : decode cX10_classCount 1 = .ok (.iconst 0, 1) := by decide +kernel
theorem dX10_classCount_2 : decode cX10_classCount 2 = .ok (.putfield 47, 3) := by decide +kernel
theorem dX10_classCount_5 : decode cX10_classCount 5 = .ok (.aload_n 0, 1) := by decide +kernel
theorem dX10_classCount_6 : decode cX10_classCount 6 = .ok (.invokevirtual 188, 3) := by decide +kernel
theorem dX10_classCount_9 : decode cX10_classCount 9 = .ok (.aload_n 0, 1) := by decide +kernel
theorem dX10_classCount_10 : decode cX10_classCount 10 = .ok (.invokevirtual 221, 3) := by decide +kernel
theorem dX10_classCount_13 : decode cX10_classCount 13 = .ok (.pop, 1) := by decide +kernel
theorem dX10_classCount_14 : decode cX10_classCount 14 = .ok (.iconst 0, 1) := by decide +kernel
theorem dX10_classCount_15 : decode cX10_classCount 15 = .ok (.istore_n 1, 1) := by decide +kernel
theorem dX10_classCount_16 : decode cX10_classCount 16 = .ok (.iconst 0, 1) := by decide +kernel
theorem dX10_classCount_17 : decode cX10_classCount 17 = .ok (.istore_n 2, 1) := by decide +kernel
theorem dX10_classCount_18 : decode cX10_classCount 18 = .ok (.iload_n 2, 1) := by decide +kernel
theorem dX10_classCount_19 : decode cX10_classCount 19 = .ok (.bipush 8, 2) := by decide +kernel
theorem dX10_classCount_21 : decode cX10_classCount 21 = .ok (.if_icmp .ge 85, 3) := by decide +kernel
theorem dX10_classCount_24 : decode cX10_classCount 24 = .ok (.iconst 0, 1) := by decide +kernel
theorem dX10_classCount_25 : decode cX10_classCount 25 = .ok (.istore_n 3, 1) := by decide +kernel
theorem dX10_classCount_26 : decode cX10_classCount 26 = .ok (.iload_n 3, 1) := by decide +kernel
theorem dX10_classCount_27 : decode cX10_classCount 27 = .ok (.aload_n 0, 1) := by decide +kernel
theorem dX10_classCount_28 : decode cX10_classCount 28 = .ok (.getfield 7, 3) := by decide +kernel
theorem dX10_classCount_31 : decode cX10_classCount 31 = .ok (.iload_n 2, 1) := by decide +kernel
theorem dX10_classCount_32 : decode cX10_classCount 32 = .ok (.iaload, 1) := by decide +kernel
theorem dX10_classCount_33 : decode cX10_classCount 33 = .ok (.if_icmp .ge 67, 3) := by decide +kernel
theorem dX10_classCount_36 : decode cX10_classCount 36 = .ok (.iload_n 3, 1) := by decide +kernel
theorem dX10_classCount_37 : decode cX10_classCount 37 = .ok (.ifCond .eq 17, 3) := by decide +kernel
theorem dX10_classCount_40 : decode cX10_classCount 40 = .ok (.aload_n 0, 1) := by decide +kernel
theorem dX10_classCount_41 : decode cX10_classCount 41 = .ok (.getfield 32, 3) := by decide +kernel
theorem dX10_classCount_44 : decode cX10_classCount 44 = .ok (.bipush 16, 2) := by decide +kernel
theorem dX10_classCount_46 : decode cX10_classCount 46 = .ok (.iload_n 2, 1) := by decide +kernel
theorem dX10_classCount_47 : decode cX10_classCount 47 = .ok (.imul, 1) := by decide +kernel
theorem dX10_classCount_48 : decode cX10_classCount 48 = .ok (.iload_n 3, 1) := by decide +kernel
theorem dX10_classCount_49 : decode cX10_classCount 49 = .ok (.iadd, 1) := by decide +kernel
theorem dX10_classCount_50 : decode cX10_classCount 50 = .ok (.baload, 1) := by decide +kernel
theorem dX10_classCount_51 : decode cX10_classCount 51 = .ok (.ifCond .eq 7, 3) := by decide +kernel
theorem dX10_classCount_54 : decode cX10_classCount 54 = .ok (.iconst 1, 1) := by decide +kernel
theorem dX10_classCount_55 : decode cX10_classCount 55 = .ok (.goto 4, 3) := by decide +kernel
theorem dX10_classCount_58 : decode cX10_classCount 58 = .ok (.iconst 0, 1) := by decide +kernel
theorem dX10_classCount_59 : decode cX10_classCount 59 = .ok (.istore 4, 2) := by decide +kernel
theorem dX10_classCount_61 : decode cX10_classCount 61 = .ok (.iload_n 1, 1) := by decide +kernel
theorem dX10_classCount_62 : decode cX10_classCount 62 = .ok (.iload 4, 2) := by decide +kernel
theorem dX10_classCount_64 : decode cX10_classCount 64 = .ok (.ifCond .eq 27, 3) := by decide +kernel
theorem dX10_classCount_67 : decode cX10_classCount 67 = .ok (.aload_n 0, 1) := by decide +kernel
theorem dX10_classCount_68 : decode cX10_classCount 68 = .ok (.getfield 35, 3) := by decide +kernel
theorem dX10_classCount_71 : decode cX10_classCount 71 = .ok (.bipush 16, 2) := by decide +kernel
theorem dX10_classCount_73 : decode cX10_classCount 73 = .ok (.iload_n 2, 1) := by decide +kernel
theorem dX10_classCount_74 : decode cX10_classCount 74 = .ok (.imul, 1) := by decide +kernel
theorem dX10_classCount_75 : decode cX10_classCount 75 = .ok (.iload_n 3, 1) := by decide +kernel
theorem dX10_classCount_76 : decode cX10_classCount 76 = .ok (.iadd, 1) := by decide +kernel
theorem dX10_classCount_77 : decode cX10_classCount 77 = .ok (.iaload, 1) := by decide +kernel
theorem dX10_classCount_78 : decode cX10_classCount 78 = .ok (.bipush 16, 2) := by decide +kernel
theorem dX10_classCount_80 : decode cX10_classCount 80 = .ok (.iload_n 2, 1) := by decide +kernel
theorem dX10_classCount_81 : decode cX10_classCount 81 = .ok (.imul, 1) := by decide +kernel
theorem dX10_classCount_82 : decode cX10_classCount 82 = .ok (.iload_n 3, 1) := by decide +kernel
theorem dX10_classCount_83 : decode cX10_classCount 83 = .ok (.iadd, 1) := by decide +kernel
theorem dX10_classCount_84 : decode cX10_classCount 84 = .ok (.if_icmp .ne 7, 3) := by decide +kernel
theorem dX10_classCount_87 : decode cX10_classCount 87 = .ok (.iconst 1, 1) := by decide +kernel
theorem dX10_classCount_88 : decode cX10_classCount 88 = .ok (.goto 4, 3) := by decide +kernel
theorem dX10_classCount_91 : decode cX10_classCount 91 = .ok (.iconst 0, 1) := by decide +kernel
theorem dX10_classCount_92 : decode cX10_classCount 92 = .ok (.iadd, 1) := by decide +kernel
theorem dX10_classCount_93 : decode cX10_classCount 93 = .ok (.istore_n 1, 1) := by decide +kernel
theorem dX10_classCount_94 : decode cX10_classCount 94 = .ok (.iinc 3 1, 3) := by decide +kernel
theorem dX10_classCount_97 : decode cX10_classCount 97 = .ok (.goto (-71), 3) := by decide +kernel
theorem dX10_classCount_100 : decode cX10_classCount 100 = .ok (.iinc 2 1, 3) := by decide +kernel
theorem dX10_classCount_103 : decode cX10_classCount 103 = .ok (.goto (-85), 3) := by decide +kernel
theorem dX10_classCount_106 : decode cX10_classCount 106 = .ok (.iload_n 1, 1) := by decide +kernel
theorem dX10_classCount_107 : decode cX10_classCount 107 = .ok (.ireturn, 1) := by decide +kernel
theorem dX10_isConsistent_0 : decode cX10_isConsistent 0 = .ok (.aload_n 0, 1) := by decide +kernel
theorem dX10_isConsistent_1 : decode cX10_isConsistent 1 = .ok (.iconst 0, 1) := by decide +kernel
theorem dX10_isConsistent_2 : decode cX10_isConsistent 2 = .ok (.putfield 47, 3) := by decide +kernel
theorem dX10_isConsistent_5 : decode cX10_isConsistent 5 = .ok (.aload_n 0, 1) := by decide +kernel
theorem dX10_isConsistent_6 : decode cX10_isConsistent 6 = .ok (.invokevirtual 221, 3) := by decide +kernel
theorem dX10_isConsistent_9 : decode cX10_isConsistent 9 = .ok (.ifCond .eq 7, 3) := by decide +kernel
theorem dX10_isConsistent_12 : decode cX10_isConsistent 12 = .ok (.iconst 1, 1) := by decide +kernel
theorem dX10_isConsistent_13 : decode cX10_isConsistent 13 = .ok (.goto 4, 3) := by decide +kernel
theorem dX10_isConsistent_16 : decode cX10_isConsistent 16 = .ok (.iconst 0, 1) := by decide +kernel
theorem dX10_isConsistent_17 : decode cX10_isConsistent 17 = .ok (.ireturn, 1) := by decide +kernel
theorem dX10_firstConflict_0 : decode cX10_firstConflict 0 = .ok (.aload_n 0, 1) := by decide +kernel
theorem dX10_firstConflict_1 : decode cX10_firstConflict 1 = .ok (.iconst 0, 1) := by decide +kernel
theorem dX10_firstConflict_2 : decode cX10_firstConflict 2 = .ok (.putfield 47, 3) := by decide +kernel
theorem dX10_firstConflict_5 : decode cX10_firstConflict 5 = .ok (.iconst 0, 1) := by decide +kernel
theorem dX10_firstConflict_6 : decode cX10_firstConflict 6 = .ok (.istore_n 1, 1) := by decide +kernel
theorem dX10_firstConflict_7 : decode cX10_firstConflict 7 = .ok (.iload_n 1, 1) := by decide +kernel
theorem dX10_firstConflict_8 : decode cX10_firstConflict 8 = .ok (.aload_n 0, 1) := by decide +kernel
theorem dX10_firstConflict_9 : decode cX10_firstConflict 9 = .ok (.getfield 7, 3) := by decide +kernel
theorem dX10_firstConflict_12 : decode cX10_firstConflict 12 = .ok (.bipush 8, 2) := by decide +kernel
theorem dX10_firstConflict_14 : decode cX10_firstConflict 14 = .ok (.iaload, 1) := by decide +kernel
theorem dX10_firstConflict_15 : decode cX10_firstConflict 15 = .ok (.if_icmp .ge 23, 3) := by decide +kernel
theorem dX10_firstConflict_18 : decode cX10_firstConflict 18 = .ok (.aload_n 0, 1) := by decide +kernel
theorem dX10_firstConflict_19 : decode cX10_firstConflict 19 = .ok (.iconst 2, 1) := by decide +kernel
theorem dX10_firstConflict_20 : decode cX10_firstConflict 20 = .ok (.iload_n 1, 1) := by decide +kernel
theorem dX10_firstConflict_21 : decode cX10_firstConflict 21 = .ok (.ishl, 1) := by decide +kernel
theorem dX10_firstConflict_22 : decode cX10_firstConflict 22 = .ok (.iconst 1, 1) := by decide +kernel
theorem dX10_firstConflict_23 : decode cX10_firstConflict 23 = .ok (.isub, 1) := by decide +kernel
theorem dX10_firstConflict_24 : decode cX10_firstConflict 24 = .ok (.invokevirtual 218, 3) := by decide +kernel
theorem dX10_firstConflict_27 : decode cX10_firstConflict 27 = .ok (.ifCond .ne 5, 3) := by decide +kernel
theorem dX10_firstConflict_30 : decode cX10_firstConflict 30 = .ok (.iload_n 1, 1) := by decide +kernel
theorem dX10_firstConflict_31 : decode cX10_firstConflict 31 = .ok (.ireturn, 1) := by decide +kernel
theorem dX10_firstConflict_32 : decode cX10_firstConflict 32 = .ok (.iinc 1 1, 3) := by decide +kernel
theorem dX10_firstConflict_35 : decode cX10_firstConflict 35 = .ok (.goto (-28), 3) := by decide +kernel
theorem dX10_firstConflict_38 : decode cX10_firstConflict 38 = .ok (.bipush (-9), 2) := by decide +kernel
theorem dX10_firstConflict_40 : decode cX10_firstConflict 40 = .ok (.ireturn, 1) := by decide +kernel
theorem dX10_conflictSet_0 : decode cX10_conflictSet 0 = .ok (.aload_n 0, 1) := by decide +kernel
theorem dX10_conflictSet_1 : decode cX10_conflictSet 1 = .ok (.iconst 0, 1) := by decide +kernel
theorem dX10_conflictSet_2 : decode cX10_conflictSet 2 = .ok (.putfield 47, 3) := by decide +kernel
theorem dX10_conflictSet_5 : decode cX10_conflictSet 5 = .ok (.iconst 1, 1) := by decide +kernel
theorem dX10_conflictSet_6 : decode cX10_conflictSet 6 = .ok (.aload_n 0, 1) := by decide +kernel
theorem dX10_conflictSet_7 : decode cX10_conflictSet 7 = .ok (.getfield 7, 3) := by decide +kernel
theorem dX10_conflictSet_10 : decode cX10_conflictSet 10 = .ok (.bipush 8, 2) := by decide +kernel
theorem dX10_conflictSet_12 : decode cX10_conflictSet 12 = .ok (.iaload, 1) := by decide +kernel
theorem dX10_conflictSet_13 : decode cX10_conflictSet 13 = .ok (.ishl, 1) := by decide +kernel
theorem dX10_conflictSet_14 : decode cX10_conflictSet 14 = .ok (.iconst 1, 1) := by decide +kernel
theorem dX10_conflictSet_15 : decode cX10_conflictSet 15 = .ok (.isub, 1) := by decide +kernel
theorem dX10_conflictSet_16 : decode cX10_conflictSet 16 = .ok (.istore_n 1, 1) := by decide +kernel
theorem dX10_conflictSet_17 : decode cX10_conflictSet 17 = .ok (.aload_n 0, 1) := by decide +kernel
theorem dX10_conflictSet_18 : decode cX10_conflictSet 18 = .ok (.iload_n 1, 1) := by decide +kernel
theorem dX10_conflictSet_19 : decode cX10_conflictSet 19 = .ok (.invokevirtual 218, 3) := by decide +kernel
theorem dX10_conflictSet_22 : decode cX10_conflictSet 22 = .ok (.ifCond .eq 6, 3) := by decide +kernel
theorem dX10_conflictSet_25 : decode cX10_conflictSet 25 = .ok (.bipush (-9), 2) := by decide +kernel
theorem dX10_conflictSet_27 : decode cX10_conflictSet 27 = .ok (.ireturn, 1) := by decide +kernel
theorem dX10_conflictSet_28 : decode cX10_conflictSet 28 = .ok (.iconst 0, 1) := by decide +kernel
theorem dX10_conflictSet_29 : decode cX10_conflictSet 29 = .ok (.istore_n 2, 1) := by decide +kernel
theorem dX10_conflictSet_30 : decode cX10_conflictSet 30 = .ok (.iload_n 2, 1) := by decide +kernel
theorem dX10_conflictSet_31 : decode cX10_conflictSet 31 = .ok (.aload_n 0, 1) := by decide +kernel
theorem dX10_conflictSet_32 : decode cX10_conflictSet 32 = .ok (.getfield 7, 3) := by decide +kernel
theorem dX10_conflictSet_35 : decode cX10_conflictSet 35 = .ok (.bipush 8, 2) := by decide +kernel
theorem dX10_conflictSet_37 : decode cX10_conflictSet 37 = .ok (.iaload, 1) := by decide +kernel
theorem dX10_conflictSet_38 : decode cX10_conflictSet 38 = .ok (.if_icmp .ge 35, 3) := by decide +kernel
theorem dX10_conflictSet_41 : decode cX10_conflictSet 41 = .ok (.aload_n 0, 1) := by decide +kernel
theorem dX10_conflictSet_42 : decode cX10_conflictSet 42 = .ok (.iload_n 1, 1) := by decide +kernel
theorem dX10_conflictSet_43 : decode cX10_conflictSet 43 = .ok (.iconst 1, 1) := by decide +kernel
theorem dX10_conflictSet_44 : decode cX10_conflictSet 44 = .ok (.iload_n 2, 1) := by decide +kernel
theorem dX10_conflictSet_45 : decode cX10_conflictSet 45 = .ok (.ishl, 1) := by decide +kernel
theorem dX10_conflictSet_46 : decode cX10_conflictSet 46 = .ok (.iconst (-1), 1) := by decide +kernel
theorem dX10_conflictSet_47 : decode cX10_conflictSet 47 = .ok (.ixor, 1) := by decide +kernel
theorem dX10_conflictSet_48 : decode cX10_conflictSet 48 = .ok (.iand, 1) := by decide +kernel
theorem dX10_conflictSet_49 : decode cX10_conflictSet 49 = .ok (.invokevirtual 218, 3) := by decide +kernel
theorem dX10_conflictSet_52 : decode cX10_conflictSet 52 = .ok (.ifCond .eq 7, 3) := by decide +kernel
theorem dX10_conflictSet_55 : decode cX10_conflictSet 55 = .ok (.iload_n 1, 1) := by decide +kernel
theorem dX10_conflictSet_56 : decode cX10_conflictSet 56 = .ok (.goto 10, 3) := by decide +kernel
theorem dX10_conflictSet_59 : decode cX10_conflictSet 59 = .ok (.iload_n 1, 1) := by decide +kernel
theorem dX10_conflictSet_60 : decode cX10_conflictSet 60 = .ok (.iconst 1, 1) := by decide +kernel
theorem dX10_conflictSet_61 : decode cX10_conflictSet 61 = .ok (.iload_n 2, 1) := by decide +kernel
theorem dX10_conflictSet_62 : decode cX10_conflictSet 62 = .ok (.ishl, 1) := by decide +kernel
theorem dX10_conflictSet_63 : decode cX10_conflictSet 63 = .ok (.iconst (-1), 1) := by decide +kernel
theorem dX10_conflictSet_64 : decode cX10_conflictSet 64 = .ok (.ixor, 1) := by decide +kernel
theorem dX10_conflictSet_65 : decode cX10_conflictSet 65 = .ok (.iand, 1) := by decide +kernel
theorem dX10_conflictSet_66 : decode cX10_conflictSet 66 = .ok (.istore_n 1, 1) := by decide +kernel
theorem dX10_conflictSet_67 : decode cX10_conflictSet 67 = .ok (.iinc 2 1, 3) := by decide +kernel
theorem dX10_conflictSet_70 : decode cX10_conflictSet 70 = .ok (.goto (-40), 3) := by decide +kernel
theorem dX10_conflictSet_73 : decode cX10_conflictSet 73 = .ok (.iload_n 1, 1) := by decide +kernel
theorem dX10_conflictSet_74 : decode cX10_conflictSet 74 = .ok (.ireturn, 1) := by decide +kernel
theorem dX10_isBit_0 : decode cX10_isBit 0 = .ok (.iload_n 1, 1) := by decide +kernel
theorem dX10_isBit_1 : decode cX10_isBit 1 = .ok (.invokestatic 151, 3) := by decide +kernel
theorem dX10_isBit_4 : decode cX10_isBit 4 = .ok (.ifCond .eq 23, 3) := by decide +kernel
theorem dX10_isBit_7 : decode cX10_isBit 7 = .ok (.iload_n 2, 1) := by decide +kernel
theorem dX10_isBit_8 : decode cX10_isBit 8 = .ok (.iconst 0, 1) := by decide +kernel
theorem dX10_isBit_9 : decode cX10_isBit 9 = .ok (.aload_n 0, 1) := by decide +kernel
theorem dX10_isBit_10 : decode cX10_isBit 10 = .ok (.getfield 7, 3) := by decide +kernel
theorem dX10_isBit_13 : decode cX10_isBit 13 = .ok (.iload_n 1, 1) := by decide +kernel
theorem dX10_isBit_14 : decode cX10_isBit 14 = .ok (.iaload, 1) := by decide +kernel
theorem dX10_isBit_15 : decode cX10_isBit 15 = .ok (.iconst 1, 1) := by decide +kernel
theorem dX10_isBit_16 : decode cX10_isBit 16 = .ok (.isub, 1) := by decide +kernel
theorem dX10_isBit_17 : decode cX10_isBit 17 = .ok (.invokestatic 60, 3) := by decide +kernel
theorem dX10_isBit_20 : decode cX10_isBit 20 = .ok (.ifCond .eq 7, 3) := by decide +kernel
theorem dX10_isBit_23 : decode cX10_isBit 23 = .ok (.iconst 1, 1) := by decide +kernel
theorem dX10_isBit_24 : decode cX10_isBit 24 = .ok (.goto 4, 3) := by decide +kernel
theorem dX10_isBit_27 : decode cX10_isBit 27 = .ok (.iconst 0, 1) := by decide +kernel
theorem dX10_isBit_28 : decode cX10_isBit 28 = .ok (.ireturn, 1) := by decide +kernel
theorem dX10_fixedBit_0 : decode cX10_fixedBit 0 = .ok (.aload_n 0, 1) := by decide +kernel
theorem dX10_fixedBit_1 : decode cX10_fixedBit 1 = .ok (.iconst 0, 1) := by decide +kernel
theorem dX10_fixedBit_2 : decode cX10_fixedBit 2 = .ok (.putfield 47, 3) := by decide +kernel
theorem dX10_fixedBit_5 : decode cX10_fixedBit 5 = .ok (.aload_n 0, 1) := by decide +kernel
theorem dX10_fixedBit_6 : decode cX10_fixedBit 6 = .ok (.iload_n 1, 1) := by decide +kernel
theorem dX10_fixedBit_7 : decode cX10_fixedBit 7 = .ok (.iload_n 2, 1) := by decide +kernel
theorem dX10_fixedBit_8 : decode cX10_fixedBit 8 = .ok (.invokevirtual 227, 3) := by decide +kernel
theorem dX10_fixedBit_11 : decode cX10_fixedBit 11 = .ok (.ifCond .ne 5, 3) := by decide +kernel
theorem dX10_fixedBit_14 : decode cX10_fixedBit 14 = .ok (.iconst (-1), 1) := by decide +kernel
theorem dX10_fixedBit_15 : decode cX10_fixedBit 15 = .ok (.ireturn, 1) := by decide +kernel
theorem dX10_fixedBit_16 : decode cX10_fixedBit 16 = .ok (.aload_n 0, 1) := by decide +kernel
theorem dX10_fixedBit_17 : decode cX10_fixedBit 17 = .ok (.invokevirtual 221, 3) := by decide +kernel
theorem dX10_fixedBit_20 : decode cX10_fixedBit 20 = .ok (.ifCond .eq 21, 3) := by decide +kernel
theorem dX10_fixedBit_23 : decode cX10_fixedBit 23 = .ok (.aload_n 0, 1) := by decide +kernel
theorem dX10_fixedBit_24 : decode cX10_fixedBit 24 = .ok (.getfield 38, 3) := by decide +kernel
theorem dX10_fixedBit_27 : decode cX10_fixedBit 27 = .ok (.aload_n 0, 1) := by decide +kernel
theorem dX10_fixedBit_28 : decode cX10_fixedBit 28 = .ok (.bipush 16, 2) := by decide +kernel
theorem dX10_fixedBit_30 : decode cX10_fixedBit 30 = .ok (.iload_n 1, 1) := by decide +kernel
theorem dX10_fixedBit_31 : decode cX10_fixedBit 31 = .ok (.imul, 1) := by decide +kernel
theorem dX10_fixedBit_32 : decode cX10_fixedBit 32 = .ok (.iload_n 2, 1) := by decide +kernel
theorem dX10_fixedBit_33 : decode cX10_fixedBit 33 = .ok (.iadd, 1) := by decide +kernel
theorem dX10_fixedBit_34 : decode cX10_fixedBit 34 = .ok (.invokevirtual 203, 3) := by decide +kernel
theorem dX10_fixedBit_37 : decode cX10_fixedBit 37 = .ok (.iaload, 1) := by decide +kernel
theorem dX10_fixedBit_38 : decode cX10_fixedBit 38 = .ok (.goto 5, 3) := by decide +kernel
theorem dX10_fixedBit_41 : decode cX10_fixedBit 41 = .ok (.bipush (-2), 2) := by decide +kernel
theorem dX10_fixedBit_43 : decode cX10_fixedBit 43 = .ok (.ireturn, 1) := by decide +kernel
theorem dX10_compareBits_0 : decode cX10_compareBits 0 = .ok (.aload_n 0, 1) := by decide +kernel
theorem dX10_compareBits_1 : decode cX10_compareBits 1 = .ok (.iconst 0, 1) := by decide +kernel
theorem dX10_compareBits_2 : decode cX10_compareBits 2 = .ok (.putfield 47, 3) := by decide +kernel
theorem dX10_compareBits_5 : decode cX10_compareBits 5 = .ok (.aload_n 0, 1) := by decide +kernel
theorem dX10_compareBits_6 : decode cX10_compareBits 6 = .ok (.iload_n 1, 1) := by decide +kernel
theorem dX10_compareBits_7 : decode cX10_compareBits 7 = .ok (.iload_n 2, 1) := by decide +kernel
theorem dX10_compareBits_8 : decode cX10_compareBits 8 = .ok (.invokevirtual 227, 3) := by decide +kernel
theorem dX10_compareBits_11 : decode cX10_compareBits 11 = .ok (.ifCond .eq 13, 3) := by decide +kernel
theorem dX10_compareBits_14 : decode cX10_compareBits 14 = .ok (.aload_n 0, 1) := by decide +kernel
theorem dX10_compareBits_15 : decode cX10_compareBits 15 = .ok (.iload_n 3, 1) := by decide +kernel
theorem dX10_compareBits_16 : decode cX10_compareBits 16 = .ok (.iload 4, 2) := by decide +kernel
theorem dX10_compareBits_18 : decode cX10_compareBits 18 = .ok (.invokevirtual 227, 3) := by decide +kernel
theorem dX10_compareBits_21 : decode cX10_compareBits 21 = .ok (.ifCond .ne 5, 3) := by decide +kernel
theorem dX10_compareBits_24 : decode cX10_compareBits 24 = .ok (.iconst (-1), 1) := by decide +kernel
theorem dX10_compareBits_25 : decode cX10_compareBits 25 = .ok (.ireturn, 1) := by decide +kernel
theorem dX10_compareBits_26 : decode cX10_compareBits 26 = .ok (.aload_n 0, 1) := by decide +kernel
theorem dX10_compareBits_27 : decode cX10_compareBits 27 = .ok (.invokevirtual 221, 3) := by decide +kernel
theorem dX10_compareBits_30 : decode cX10_compareBits 30 = .ok (.ifCond .ne 6, 3) := by decide +kernel
theorem dX10_compareBits_33 : decode cX10_compareBits 33 = .ok (.bipush (-2), 2) := by decide +kernel
theorem dX10_compareBits_35 : decode cX10_compareBits 35 = .ok (.ireturn, 1) := by decide +kernel
theorem dX10_compareBits_36 : decode cX10_compareBits 36 = .ok (.aload_n 0, 1) := by decide +kernel
theorem dX10_compareBits_37 : decode cX10_compareBits 37 = .ok (.bipush 16, 2) := by decide +kernel
theorem dX10_compareBits_39 : decode cX10_compareBits 39 = .ok (.iload_n 1, 1) := by decide +kernel
theorem dX10_compareBits_40 : decode cX10_compareBits 40 = .ok (.imul, 1) := by decide +kernel
theorem dX10_compareBits_41 : decode cX10_compareBits 41 = .ok (.iload_n 2, 1) := by decide +kernel
theorem dX10_compareBits_42 : decode cX10_compareBits 42 = .ok (.iadd, 1) := by decide +kernel
theorem dX10_compareBits_43 : decode cX10_compareBits 43 = .ok (.invokevirtual 203, 3) := by decide +kernel
theorem dX10_compareBits_46 : decode cX10_compareBits 46 = .ok (.istore 5, 2) := by decide +kernel
theorem dX10_compareBits_48 : decode cX10_compareBits 48 = .ok (.aload_n 0, 1) := by decide +kernel
theorem dX10_compareBits_49 : decode cX10_compareBits 49 = .ok (.bipush 16, 2) := by decide +kernel
theorem dX10_compareBits_51 : decode cX10_compareBits 51 = .ok (.iload_n 3, 1) := by decide +kernel
theorem dX10_compareBits_52 : decode cX10_compareBits 52 = .ok (.imul, 1) := by decide +kernel
theorem dX10_compareBits_53 : decode cX10_compareBits 53 = .ok (.iload 4, 2) := by decide +kernel
theorem dX10_compareBits_55 : decode cX10_compareBits 55 = .ok (.iadd, 1) := by decide +kernel
theorem dX10_compareBits_56 : decode cX10_compareBits 56 = .ok (.invokevirtual 203, 3) := by decide +kernel
theorem dX10_compareBits_59 : decode cX10_compareBits 59 = .ok (.istore 6, 2) := by decide +kernel
theorem dX10_compareBits_61 : decode cX10_compareBits 61 = .ok (.iload 5, 2) := by decide +kernel
theorem dX10_compareBits_63 : decode cX10_compareBits 63 = .ok (.iload 6, 2) := by decide +kernel
theorem dX10_compareBits_65 : decode cX10_compareBits 65 = .ok (.if_icmp .ne 5, 3) := by decide +kernel
theorem dX10_compareBits_68 : decode cX10_compareBits 68 = .ok (.iconst 1, 1) := by decide +kernel
theorem dX10_compareBits_69 : decode cX10_compareBits 69 = .ok (.ireturn, 1) := by decide +kernel
theorem dX10_compareBits_70 : decode cX10_compareBits 70 = .ok (.aload_n 0, 1) := by decide +kernel
theorem dX10_compareBits_71 : decode cX10_compareBits 71 = .ok (.getfield 38, 3) := by decide +kernel
theorem dX10_compareBits_74 : decode cX10_compareBits 74 = .ok (.iload 5, 2) := by decide +kernel
theorem dX10_compareBits_76 : decode cX10_compareBits 76 = .ok (.iaload, 1) := by decide +kernel
theorem dX10_compareBits_77 : decode cX10_compareBits 77 = .ok (.bipush (-9), 2) := by decide +kernel
theorem dX10_compareBits_79 : decode cX10_compareBits 79 = .ok (.if_icmp .eq 15, 3) := by decide +kernel
theorem dX10_compareBits_82 : decode cX10_compareBits 82 = .ok (.aload_n 0, 1) := by decide +kernel
theorem dX10_compareBits_83 : decode cX10_compareBits 83 = .ok (.getfield 38, 3) := by decide +kernel
theorem dX10_compareBits_86 : decode cX10_compareBits 86 = .ok (.iload 6, 2) := by decide +kernel
theorem dX10_compareBits_88 : decode cX10_compareBits 88 = .ok (.iaload, 1) := by decide +kernel
theorem dX10_compareBits_89 : decode cX10_compareBits 89 = .ok (.bipush (-9), 2) := by decide +kernel
theorem dX10_compareBits_91 : decode cX10_compareBits 91 = .ok (.if_icmp .ne 7, 3) := by decide +kernel
theorem dX10_compareBits_94 : decode cX10_compareBits 94 = .ok (.iconst 2, 1) := by decide +kernel
theorem dX10_compareBits_95 : decode cX10_compareBits 95 = .ok (.goto 25, 3) := by decide +kernel
theorem dX10_compareBits_98 : decode cX10_compareBits 98 = .ok (.aload_n 0, 1) := by decide +kernel
theorem dX10_compareBits_99 : decode cX10_compareBits 99 = .ok (.getfield 38, 3) := by decide +kernel
theorem dX10_compareBits_102 : decode cX10_compareBits 102 = .ok (.iload 5, 2) := by decide +kernel
theorem dX10_compareBits_104 : decode cX10_compareBits 104 = .ok (.iaload, 1) := by decide +kernel
theorem dX10_compareBits_105 : decode cX10_compareBits 105 = .ok (.aload_n 0, 1) := by decide +kernel
theorem dX10_compareBits_106 : decode cX10_compareBits 106 = .ok (.getfield 38, 3) := by decide +kernel
theorem dX10_compareBits_109 : decode cX10_compareBits 109 = .ok (.iload 6, 2) := by decide +kernel
theorem dX10_compareBits_111 : decode cX10_compareBits 111 = .ok (.iaload, 1) := by decide +kernel
theorem dX10_compareBits_112 : decode cX10_compareBits 112 = .ok (.if_icmp .ne 7, 3) := by decide +kernel
theorem dX10_compareBits_115 : decode cX10_compareBits 115 = .ok (.iconst 1, 1) := by decide +kernel
theorem dX10_compareBits_116 : decode cX10_compareBits 116 = .ok (.goto 4, 3) := by decide +kernel
theorem dX10_compareBits_119 : decode cX10_compareBits 119 = .ok (.iconst 0, 1) := by decide +kernel
theorem dX10_compareBits_120 : decode cX10_compareBits 120 = .ok (.ireturn, 1) := by decide +kernel
theorem dX10_isFree_0 : decode cX10_isFree 0 = .ok (.iload_n 1, 1) := by decide +kernel
theorem dX10_isFree_1 : decode cX10_isFree 1 = .ok (.bipush 16, 2) := by decide +kernel
theorem dX10_isFree_3 : decode cX10_isFree 3 = .ok (.irem, 1) := by decide +kernel
theorem dX10_isFree_4 : decode cX10_isFree 4 = .ok (.aload_n 0, 1) := by decide +kernel
theorem dX10_isFree_5 : decode cX10_isFree 5 = .ok (.getfield 7, 3) := by decide +kernel
theorem dX10_isFree_8 : decode cX10_isFree 8 = .ok (.iload_n 1, 1) := by decide +kernel
theorem dX10_isFree_9 : decode cX10_isFree 9 = .ok (.bipush 16, 2) := by decide +kernel
theorem dX10_isFree_11 : decode cX10_isFree 11 = .ok (.idiv, 1) := by decide +kernel
theorem dX10_isFree_12 : decode cX10_isFree 12 = .ok (.iaload, 1) := by decide +kernel
theorem dX10_isFree_13 : decode cX10_isFree 13 = .ok (.if_icmp .ge 28, 3) := by decide +kernel
theorem dX10_isFree_16 : decode cX10_isFree 16 = .ok (.aload_n 0, 1) := by decide +kernel
theorem dX10_isFree_17 : decode cX10_isFree 17 = .ok (.getfield 35, 3) := by decide +kernel
theorem dX10_isFree_20 : decode cX10_isFree 20 = .ok (.iload_n 1, 1) := by decide +kernel
theorem dX10_isFree_21 : decode cX10_isFree 21 = .ok (.iaload, 1) := by decide +kernel
theorem dX10_isFree_22 : decode cX10_isFree 22 = .ok (.iload_n 1, 1) := by decide +kernel
theorem dX10_isFree_23 : decode cX10_isFree 23 = .ok (.if_icmp .ne 18, 3) := by decide +kernel
theorem dX10_isFree_26 : decode cX10_isFree 26 = .ok (.aload_n 0, 1) := by decide +kernel
theorem dX10_isFree_27 : decode cX10_isFree 27 = .ok (.getfield 38, 3) := by decide +kernel
theorem dX10_isFree_30 : decode cX10_isFree 30 = .ok (.iload_n 1, 1) := by decide +kernel
theorem dX10_isFree_31 : decode cX10_isFree 31 = .ok (.iaload, 1) := by decide +kernel
theorem dX10_isFree_32 : decode cX10_isFree 32 = .ok (.bipush (-9), 2) := by decide +kernel
theorem dX10_isFree_34 : decode cX10_isFree 34 = .ok (.if_icmp .ne 7, 3) := by decide +kernel
theorem dX10_isFree_37 : decode cX10_isFree 37 = .ok (.iconst 1, 1) := by decide +kernel
theorem dX10_isFree_38 : decode cX10_isFree 38 = .ok (.goto 4, 3) := by decide +kernel
theorem dX10_isFree_41 : decode cX10_isFree 41 = .ok (.iconst 0, 1) := by decide +kernel
theorem dX10_isFree_42 : decode cX10_isFree 42 = .ok (.ireturn, 1) := by decide +kernel
theorem dX10_freeBits_0 : decode cX10_freeBits 0 = .ok (.aload_n 0, 1) := by decide +kernel
theorem dX10_freeBits_1 : decode cX10_freeBits 1 = .ok (.iconst 0, 1) := by decide +kernel
theorem dX10_freeBits_2 : decode cX10_freeBits 2 = .ok (.putfield 47, 3) := by decide +kernel
theorem dX10_freeBits_5 : decode cX10_freeBits 5 = .ok (.aload_n 0, 1) := by decide +kernel
theorem dX10_freeBits_6 : decode cX10_freeBits 6 = .ok (.invokevirtual 221, 3) := by decide +kernel
theorem dX10_freeBits_9 : decode cX10_freeBits 9 = .ok (.ifCond .ne 6, 3) := by decide +kernel
theorem dX10_freeBits_12 : decode cX10_freeBits 12 = .ok (.bipush (-2), 2) := by decide +kernel
theorem dX10_freeBits_14 : decode cX10_freeBits 14 = .ok (.ireturn, 1) := by decide +kernel
theorem dX10_freeBits_15 : decode cX10_freeBits 15 = .ok (.iconst 0, 1) := by decide +kernel
theorem dX10_freeBits_16 : decode cX10_freeBits 16 = .ok (.istore_n 1, 1) := by decide +kernel
theorem dX10_freeBits_17 : decode cX10_freeBits 17 = .ok (.iconst 0, 1) := by decide +kernel
theorem dX10_freeBits_18 : decode cX10_freeBits 18 = .ok (.istore_n 2, 1) := by decide +kernel
theorem dX10_freeBits_19 : decode cX10_freeBits 19 = .ok (.iload_n 2, 1) := by decide +kernel
theorem dX10_freeBits_20 : decode cX10_freeBits 20 = .ok (.sipush 128, 3) := by decide +kernel
theorem dX10_freeBits_23 : decode cX10_freeBits 23 = .ok (.if_icmp .ge 25, 3) := by decide +kernel
theorem dX10_freeBits_26 : decode cX10_freeBits 26 = .ok (.iload_n 1, 1) := by decide +kernel
theorem dX10_freeBits_27 : decode cX10_freeBits 27 = .ok (.aload_n 0, 1) := by decide +kernel
theorem dX10_freeBits_28 : decode cX10_freeBits 28 = .ok (.iload_n 2, 1) := by decide +kernel
theorem dX10_freeBits_29 : decode cX10_freeBits 29 = .ok (.invokevirtual 230, 3) := by decide +kernel
theorem dX10_freeBits_32 : decode cX10_freeBits 32 = .ok (.ifCond .eq 7, 3) := by decide +kernel
theorem dX10_freeBits_35 : decode cX10_freeBits 35 = .ok (.iconst 1, 1) := by decide +kernel
theorem dX10_freeBits_36 : decode cX10_freeBits 36 = .ok (.goto 4, 3) := by decide +kernel
theorem dX10_freeBits_39 : decode cX10_freeBits 39 = .ok (.iconst 0, 1) := by decide +kernel
theorem dX10_freeBits_40 : decode cX10_freeBits 40 = .ok (.iadd, 1) := by decide +kernel
theorem dX10_freeBits_41 : decode cX10_freeBits 41 = .ok (.istore_n 1, 1) := by decide +kernel
theorem dX10_freeBits_42 : decode cX10_freeBits 42 = .ok (.iinc 2 1, 3) := by decide +kernel
theorem dX10_freeBits_45 : decode cX10_freeBits 45 = .ok (.goto (-26), 3) := by decide +kernel
theorem dX10_freeBits_48 : decode cX10_freeBits 48 = .ok (.iload_n 1, 1) := by decide +kernel
theorem dX10_freeBits_49 : decode cX10_freeBits 49 = .ok (.ireturn, 1) := by decide +kernel
theorem dX10_valueOf_0 : decode cX10_valueOf 0 = .ok (.aload_n 0, 1) := by decide +kernel
theorem dX10_valueOf_1 : decode cX10_valueOf 1 = .ok (.iload_n 1, 1) := by decide +kernel
theorem dX10_valueOf_2 : decode cX10_valueOf 2 = .ok (.invokevirtual 165, 3) := by decide +kernel
theorem dX10_valueOf_5 : decode cX10_valueOf 5 = .ok (.ifCond .ne 9, 3) := by decide +kernel
theorem dX10_valueOf_8 : decode cX10_valueOf 8 = .ok (.iload_n 1, 1) := by decide +kernel
theorem dX10_valueOf_9 : decode cX10_valueOf 9 = .ok (.sipush 256, 3) := by decide +kernel
theorem dX10_valueOf_12 : decode cX10_valueOf 12 = .ok (.irem, 1) := by decide +kernel
theorem dX10_valueOf_13 : decode cX10_valueOf 13 = .ok (.ireturn, 1) := by decide +kernel
theorem dX10_valueOf_14 : decode cX10_valueOf 14 = .ok (.aload_n 0, 1) := by decide +kernel
theorem dX10_valueOf_15 : decode cX10_valueOf 15 = .ok (.iload_n 1, 1) := by decide +kernel
theorem dX10_valueOf_16 : decode cX10_valueOf 16 = .ok (.invokestatic 168, 3) := by decide +kernel
theorem dX10_valueOf_19 : decode cX10_valueOf 19 = .ok (.invokevirtual 203, 3) := by decide +kernel
theorem dX10_valueOf_22 : decode cX10_valueOf 22 = .ok (.istore_n 2, 1) := by decide +kernel
theorem dX10_valueOf_23 : decode cX10_valueOf 23 = .ok (.aload_n 0, 1) := by decide +kernel
theorem dX10_valueOf_24 : decode cX10_valueOf 24 = .ok (.getfield 38, 3) := by decide +kernel
theorem dX10_valueOf_27 : decode cX10_valueOf 27 = .ok (.iload_n 2, 1) := by decide +kernel
theorem dX10_valueOf_28 : decode cX10_valueOf 28 = .ok (.iaload, 1) := by decide +kernel
theorem dX10_valueOf_29 : decode cX10_valueOf 29 = .ok (.bipush (-9), 2) := by decide +kernel
theorem dX10_valueOf_31 : decode cX10_valueOf 31 = .ok (.if_icmp .ne 7, 3) := by decide +kernel
theorem dX10_valueOf_34 : decode cX10_valueOf 34 = .ok (.iconst 0, 1) := by decide +kernel
theorem dX10_valueOf_35 : decode cX10_valueOf 35 = .ok (.goto 9, 3) := by decide +kernel
theorem dX10_valueOf_38 : decode cX10_valueOf 38 = .ok (.aload_n 0, 1) := by decide +kernel
theorem dX10_valueOf_39 : decode cX10_valueOf 39 = .ok (.getfield 38, 3) := by decide +kernel
theorem dX10_valueOf_42 : decode cX10_valueOf 42 = .ok (.iload_n 2, 1) := by decide +kernel
theorem dX10_valueOf_43 : decode cX10_valueOf 43 = .ok (.iaload, 1) := by decide +kernel
theorem dX10_valueOf_44 : decode cX10_valueOf 44 = .ok (.istore_n 3, 1) := by decide +kernel
theorem dX10_valueOf_45 : decode cX10_valueOf 45 = .ok (.iconst 0, 1) := by decide +kernel
theorem dX10_valueOf_46 : decode cX10_valueOf 46 = .ok (.istore 4, 2) := by decide +kernel
theorem dX10_valueOf_48 : decode cX10_valueOf 48 = .ok (.iload 4, 2) := by decide +kernel
theorem dX10_valueOf_50 : decode cX10_valueOf 50 = .ok (.aload_n 0, 1) := by decide +kernel
theorem dX10_valueOf_51 : decode cX10_valueOf 51 = .ok (.getfield 233, 3) := by decide +kernel
theorem dX10_valueOf_54 : decode cX10_valueOf 54 = .ok (.if_icmp .ge 26, 3) := by decide +kernel
theorem dX10_valueOf_57 : decode cX10_valueOf 57 = .ok (.aload_n 0, 1) := by decide +kernel
theorem dX10_valueOf_58 : decode cX10_valueOf 58 = .ok (.getfield 41, 3) := by decide +kernel
theorem dX10_valueOf_61 : decode cX10_valueOf 61 = .ok (.iload 4, 2) := by decide +kernel
theorem dX10_valueOf_63 : decode cX10_valueOf 63 = .ok (.iaload, 1) := by decide +kernel
theorem dX10_valueOf_64 : decode cX10_valueOf 64 = .ok (.iload_n 2, 1) := by decide +kernel
theorem dX10_valueOf_65 : decode cX10_valueOf 65 = .ok (.if_icmp .ne 7, 3) := by decide +kernel
theorem dX10_valueOf_68 : decode cX10_valueOf 68 = .ok (.iconst 1, 1) := by decide +kernel
theorem dX10_valueOf_69 : decode cX10_valueOf 69 = .ok (.goto 4, 3) := by decide +kernel
theorem dX10_valueOf_72 : decode cX10_valueOf 72 = .ok (.iload_n 3, 1) := by decide +kernel
theorem dX10_valueOf_73 : decode cX10_valueOf 73 = .ok (.istore_n 3, 1) := by decide +kernel
theorem dX10_valueOf_74 : decode cX10_valueOf 74 = .ok (.iinc 4 1, 3) := by decide +kernel
theorem dX10_valueOf_77 : decode cX10_valueOf 77 = .ok (.goto (-29), 3) := by decide +kernel
theorem dX10_valueOf_80 : decode cX10_valueOf 80 = .ok (.iload_n 3, 1) := by decide +kernel
theorem dX10_valueOf_81 : decode cX10_valueOf 81 = .ok (.ireturn, 1) := by decide +kernel
theorem dX10_holds_0 : decode cX10_holds 0 = .ok (.bipush 10, 2) := by decide +kernel
theorem dX10_holds_2 : decode cX10_holds 2 = .ok (.iload_n 1, 1) := by decide +kernel
theorem dX10_holds_3 : decode cX10_holds 3 = .ok (.iadd, 1) := by decide +kernel
theorem dX10_holds_4 : decode cX10_holds 4 = .ok (.istore_n 2, 1) := by decide +kernel
theorem dX10_holds_5 : decode cX10_holds 5 = .ok (.iconst 0, 1) := by decide +kernel
theorem dX10_holds_6 : decode cX10_holds 6 = .ok (.istore_n 3, 1) := by decide +kernel
theorem dX10_holds_7 : decode cX10_holds 7 = .ok (.iload_n 3, 1) := by decide +kernel
theorem dX10_holds_8 : decode cX10_holds 8 = .ok (.aload_n 0, 1) := by decide +kernel
theorem dX10_holds_9 : decode cX10_holds 9 = .ok (.iload_n 2, 1) := by decide +kernel
theorem dX10_holds_10 : decode cX10_holds 10 = .ok (.invokevirtual 158, 3) := by decide +kernel
theorem dX10_holds_13 : decode cX10_holds 13 = .ok (.if_icmp .ge 36, 3) := by decide +kernel
theorem dX10_holds_16 : decode cX10_holds 16 = .ok (.aload_n 0, 1) := by decide +kernel
theorem dX10_holds_17 : decode cX10_holds 17 = .ok (.aload_n 0, 1) := by decide +kernel
theorem dX10_holds_18 : decode cX10_holds 18 = .ok (.iload_n 2, 1) := by decide +kernel
theorem dX10_holds_19 : decode cX10_holds 19 = .ok (.iconst 0, 1) := by decide +kernel
theorem dX10_holds_20 : decode cX10_holds 20 = .ok (.iload_n 3, 1) := by decide +kernel
theorem dX10_holds_21 : decode cX10_holds 21 = .ok (.invokevirtual 161, 3) := by decide +kernel
theorem dX10_holds_24 : decode cX10_holds 24 = .ok (.invokevirtual 236, 3) := by decide +kernel
theorem dX10_holds_27 : decode cX10_holds 27 = .ok (.aload_n 0, 1) := by decide +kernel
theorem dX10_holds_28 : decode cX10_holds 28 = .ok (.aload_n 0, 1) := by decide +kernel
theorem dX10_holds_29 : decode cX10_holds 29 = .ok (.iload_n 2, 1) := by decide +kernel
theorem dX10_holds_30 : decode cX10_holds 30 = .ok (.iconst 1, 1) := by decide +kernel
theorem dX10_holds_31 : decode cX10_holds 31 = .ok (.iload_n 3, 1) := by decide +kernel
theorem dX10_holds_32 : decode cX10_holds 32 = .ok (.invokevirtual 161, 3) := by decide +kernel
theorem dX10_holds_35 : decode cX10_holds 35 = .ok (.invokevirtual 236, 3) := by decide +kernel
theorem dX10_holds_38 : decode cX10_holds 38 = .ok (.if_icmp .eq 5, 3) := by decide +kernel
theorem dX10_holds_41 : decode cX10_holds 41 = .ok (.iconst 1, 1) := by decide +kernel
theorem dX10_holds_42 : decode cX10_holds 42 = .ok (.ireturn, 1) := by decide +kernel
theorem dX10_holds_43 : decode cX10_holds 43 = .ok (.iinc 3 1, 3) := by decide +kernel
theorem dX10_holds_46 : decode cX10_holds 46 = .ok (.goto (-39), 3) := by decide +kernel
theorem dX10_holds_49 : decode cX10_holds 49 = .ok (.iconst 0, 1) := by decide +kernel
theorem dX10_holds_50 : decode cX10_holds 50 = .ok (.ireturn, 1) := by decide +kernel
theorem dX10_isModel_0 : decode cX10_isModel 0 = .ok (.iconst 1, 1) := by decide +kernel
theorem dX10_isModel_1 : decode cX10_isModel 1 = .ok (.istore_n 1, 1) := by decide +kernel
theorem dX10_isModel_2 : decode cX10_isModel 2 = .ok (.iconst 0, 1) := by decide +kernel
theorem dX10_isModel_3 : decode cX10_isModel 3 = .ok (.istore_n 2, 1) := by decide +kernel
theorem dX10_isModel_4 : decode cX10_isModel 4 = .ok (.iload_n 2, 1) := by decide +kernel
theorem dX10_isModel_5 : decode cX10_isModel 5 = .ok (.aload_n 0, 1) := by decide +kernel
theorem dX10_isModel_6 : decode cX10_isModel 6 = .ok (.getfield 7, 3) := by decide +kernel
theorem dX10_isModel_9 : decode cX10_isModel 9 = .ok (.bipush 9, 2) := by decide +kernel
theorem dX10_isModel_11 : decode cX10_isModel 11 = .ok (.iaload, 1) := by decide +kernel
theorem dX10_isModel_12 : decode cX10_isModel 12 = .ok (.if_icmp .ge 19, 3) := by decide +kernel
theorem dX10_isModel_15 : decode cX10_isModel 15 = .ok (.iload_n 1, 1) := by decide +kernel
theorem dX10_isModel_16 : decode cX10_isModel 16 = .ok (.ifCond .eq 15, 3) := by decide +kernel
theorem dX10_isModel_19 : decode cX10_isModel 19 = .ok (.aload_n 0, 1) := by decide +kernel
theorem dX10_isModel_20 : decode cX10_isModel 20 = .ok (.iload_n 2, 1) := by decide +kernel
theorem dX10_isModel_21 : decode cX10_isModel 21 = .ok (.invokevirtual 239, 3) := by decide +kernel
theorem dX10_isModel_24 : decode cX10_isModel 24 = .ok (.istore_n 1, 1) := by decide +kernel
theorem dX10_isModel_25 : decode cX10_isModel 25 = .ok (.iinc 2 1, 3) := by decide +kernel
theorem dX10_isModel_28 : decode cX10_isModel 28 = .ok (.goto (-24), 3) := by decide +kernel
theorem dX10_isModel_31 : decode cX10_isModel 31 = .ok (.iload_n 1, 1) := by decide +kernel
theorem dX10_isModel_32 : decode cX10_isModel 32 = .ok (.ireturn, 1) := by decide +kernel
theorem dX10_occurs_0 : decode cX10_occurs 0 = .ok (.iconst 0, 1) := by decide +kernel
theorem dX10_occurs_1 : decode cX10_occurs 1 = .ok (.istore_n 2, 1) := by decide +kernel
theorem dX10_occurs_2 : decode cX10_occurs 2 = .ok (.iload_n 2, 1) := by decide +kernel
theorem dX10_occurs_3 : decode cX10_occurs 3 = .ok (.aload_n 0, 1) := by decide +kernel
theorem dX10_occurs_4 : decode cX10_occurs 4 = .ok (.getfield 7, 3) := by decide +kernel
theorem dX10_occurs_7 : decode cX10_occurs 7 = .ok (.bipush 9, 2) := by decide +kernel
theorem dX10_occurs_9 : decode cX10_occurs 9 = .ok (.iaload, 1) := by decide +kernel
theorem dX10_occurs_10 : decode cX10_occurs 10 = .ok (.if_icmp .ge 88, 3) := by decide +kernel
theorem dX10_occurs_13 : decode cX10_occurs 13 = .ok (.bipush 10, 2) := by decide +kernel
theorem dX10_occurs_15 : decode cX10_occurs 15 = .ok (.iload_n 2, 1) := by decide +kernel
theorem dX10_occurs_16 : decode cX10_occurs 16 = .ok (.iadd, 1) := by decide +kernel
theorem dX10_occurs_17 : decode cX10_occurs 17 = .ok (.istore_n 3, 1) := by decide +kernel
theorem dX10_occurs_18 : decode cX10_occurs 18 = .ok (.iconst 0, 1) := by decide +kernel
theorem dX10_occurs_19 : decode cX10_occurs 19 = .ok (.istore 4, 2) := by decide +kernel
theorem dX10_occurs_21 : decode cX10_occurs 21 = .ok (.iload 4, 2) := by decide +kernel
theorem dX10_occurs_23 : decode cX10_occurs 23 = .ok (.bipush 32, 2) := by decide +kernel
theorem dX10_occurs_25 : decode cX10_occurs 25 = .ok (.if_icmp .ge 67, 3) := by decide +kernel
theorem dX10_occurs_28 : decode cX10_occurs 28 = .ok (.iload 4, 2) := by decide +kernel
theorem dX10_occurs_30 : decode cX10_occurs 30 = .ok (.bipush 16, 2) := by decide +kernel
theorem dX10_occurs_32 : decode cX10_occurs 32 = .ok (.irem, 1) := by decide +kernel
theorem dX10_occurs_33 : decode cX10_occurs 33 = .ok (.aload_n 0, 1) := by decide +kernel
theorem dX10_occurs_34 : decode cX10_occurs 34 = .ok (.iload_n 3, 1) := by decide +kernel
theorem dX10_occurs_35 : decode cX10_occurs 35 = .ok (.invokevirtual 158, 3) := by decide +kernel
theorem dX10_occurs_38 : decode cX10_occurs 38 = .ok (.if_icmp .ge 21, 3) := by decide +kernel
theorem dX10_occurs_41 : decode cX10_occurs 41 = .ok (.aload_n 0, 1) := by decide +kernel
theorem dX10_occurs_42 : decode cX10_occurs 42 = .ok (.iload_n 3, 1) := by decide +kernel
theorem dX10_occurs_43 : decode cX10_occurs 43 = .ok (.iload 4, 2) := by decide +kernel
theorem dX10_occurs_45 : decode cX10_occurs 45 = .ok (.bipush 16, 2) := by decide +kernel
theorem dX10_occurs_47 : decode cX10_occurs 47 = .ok (.idiv, 1) := by decide +kernel
theorem dX10_occurs_48 : decode cX10_occurs 48 = .ok (.iload 4, 2) := by decide +kernel
theorem dX10_occurs_50 : decode cX10_occurs 50 = .ok (.bipush 16, 2) := by decide +kernel
theorem dX10_occurs_52 : decode cX10_occurs 52 = .ok (.irem, 1) := by decide +kernel
theorem dX10_occurs_53 : decode cX10_occurs 53 = .ok (.invokevirtual 161, 3) := by decide +kernel
theorem dX10_occurs_56 : decode cX10_occurs 56 = .ok (.goto 4, 3) := by decide +kernel
theorem dX10_occurs_59 : decode cX10_occurs 59 = .ok (.iconst 0, 1) := by decide +kernel
theorem dX10_occurs_60 : decode cX10_occurs 60 = .ok (.istore 5, 2) := by decide +kernel
theorem dX10_occurs_62 : decode cX10_occurs 62 = .ok (.aload_n 0, 1) := by decide +kernel
theorem dX10_occurs_63 : decode cX10_occurs 63 = .ok (.iload 5, 2) := by decide +kernel
theorem dX10_occurs_65 : decode cX10_occurs 65 = .ok (.invokevirtual 165, 3) := by decide +kernel
theorem dX10_occurs_68 : decode cX10_occurs 68 = .ok (.ifCond .eq 18, 3) := by decide +kernel
theorem dX10_occurs_71 : decode cX10_occurs 71 = .ok (.aload_n 0, 1) := by decide +kernel
theorem dX10_occurs_72 : decode cX10_occurs 72 = .ok (.iload 5, 2) := by decide +kernel
theorem dX10_occurs_74 : decode cX10_occurs 74 = .ok (.invokestatic 168, 3) := by decide +kernel
theorem dX10_occurs_77 : decode cX10_occurs 77 = .ok (.invokevirtual 203, 3) := by decide +kernel
theorem dX10_occurs_80 : decode cX10_occurs 80 = .ok (.iload_n 1, 1) := by decide +kernel
theorem dX10_occurs_81 : decode cX10_occurs 81 = .ok (.if_icmp .ne 5, 3) := by decide +kernel
theorem dX10_occurs_84 : decode cX10_occurs 84 = .ok (.iconst 1, 1) := by decide +kernel
theorem dX10_occurs_85 : decode cX10_occurs 85 = .ok (.ireturn, 1) := by decide +kernel
theorem dX10_occurs_86 : decode cX10_occurs 86 = .ok (.iinc 4 1, 3) := by decide +kernel
theorem dX10_occurs_89 : decode cX10_occurs 89 = .ok (.goto (-68), 3) := by decide +kernel
theorem dX10_occurs_92 : decode cX10_occurs 92 = .ok (.iinc 2 1, 3) := by decide +kernel
theorem dX10_occurs_95 : decode cX10_occurs 95 = .ok (.goto (-93), 3) := by decide +kernel
theorem dX10_occurs_98 : decode cX10_occurs 98 = .ok (.iconst 0, 1) := by decide +kernel
theorem dX10_occurs_99 : decode cX10_occurs 99 = .ok (.ireturn, 1) := by decide +kernel
theorem dX10_findUsed_0 : decode cX10_findUsed 0 = .ok (.aload_n 0, 1) := by decide +kernel
theorem dX10_findUsed_1 : decode cX10_findUsed 1 = .ok (.iconst 0, 1) := by decide +kernel
theorem dX10_findUsed_2 : decode cX10_findUsed 2 = .ok (.putfield 242, 3) := by decide +kernel
theorem dX10_findUsed_5 : decode cX10_findUsed 5 = .ok (.iconst 0, 1) := by decide +kernel
theorem dX10_findUsed_6 : decode cX10_findUsed 6 = .ok (.istore_n 1, 1) := by decide +kernel
theorem dX10_findUsed_7 : decode cX10_findUsed 7 = .ok (.iload_n 1, 1) := by decide +kernel
theorem dX10_findUsed_8 : decode cX10_findUsed 8 = .ok (.sipush 128, 3) := by decide +kernel
theorem dX10_findUsed_11 : decode cX10_findUsed 11 = .ok (.if_icmp .ge 45, 3) := by decide +kernel
theorem dX10_findUsed_14 : decode cX10_findUsed 14 = .ok (.aload_n 0, 1) := by decide +kernel
theorem dX10_findUsed_15 : decode cX10_findUsed 15 = .ok (.iload_n 1, 1) := by decide +kernel
theorem dX10_findUsed_16 : decode cX10_findUsed 16 = .ok (.invokevirtual 230, 3) := by decide +kernel
theorem dX10_findUsed_19 : decode cX10_findUsed 19 = .ok (.ifCond .eq 31, 3) := by decide +kernel
theorem dX10_findUsed_22 : decode cX10_findUsed 22 = .ok (.aload_n 0, 1) := by decide +kernel
theorem dX10_findUsed_23 : decode cX10_findUsed 23 = .ok (.iload_n 1, 1) := by decide +kernel
theorem dX10_findUsed_24 : decode cX10_findUsed 24 = .ok (.invokevirtual 245, 3) := by decide +kernel
theorem dX10_findUsed_27 : decode cX10_findUsed 27 = .ok (.ifCond .eq 23, 3) := by decide +kernel
theorem dX10_findUsed_30 : decode cX10_findUsed 30 = .ok (.aload_n 0, 1) := by decide +kernel
theorem dX10_findUsed_31 : decode cX10_findUsed 31 = .ok (.getfield 44, 3) := by decide +kernel
theorem dX10_findUsed_34 : decode cX10_findUsed 34 = .ok (.aload_n 0, 1) := by decide +kernel
theorem dX10_findUsed_35 : decode cX10_findUsed 35 = .ok (.getfield 242, 3) := by decide +kernel
theorem dX10_findUsed_38 : decode cX10_findUsed 38 = .ok (.iload_n 1, 1) := by decide +kernel
theorem dX10_findUsed_39 : decode cX10_findUsed 39 = .ok (.iastore, 1) := by decide +kernel
theorem dX10_findUsed_40 : decode cX10_findUsed 40 = .ok (.aload_n 0, 1) := by decide +kernel
theorem dX10_findUsed_41 : decode cX10_findUsed 41 = .ok (.dup, 1) := by decide +kernel
theorem dX10_findUsed_42 : decode cX10_findUsed 42 = .ok (.getfield 242, 3) := by decide +kernel
theorem dX10_findUsed_45 : decode cX10_findUsed 45 = .ok (.iconst 1, 1) := by decide +kernel
theorem dX10_findUsed_46 : decode cX10_findUsed 46 = .ok (.iadd, 1) := by decide +kernel
theorem dX10_findUsed_47 : decode cX10_findUsed 47 = .ok (.putfield 242, 3) := by decide +kernel
theorem dX10_findUsed_50 : decode cX10_findUsed 50 = .ok (.iinc 1 1, 3) := by decide +kernel
theorem dX10_findUsed_53 : decode cX10_findUsed 53 = .ok (.goto (-46), 3) := by decide +kernel
theorem dX10_findUsed_56 : decode cX10_findUsed 56 = .ok (.return_, 1) := by decide +kernel
theorem dX10_search_0 : decode cX10_search 0 = .ok (.aload_n 0, 1) := by decide +kernel
theorem dX10_search_1 : decode cX10_search 1 = .ok (.iload_n 1, 1) := by decide +kernel
theorem dX10_search_2 : decode cX10_search 2 = .ok (.putfield 233, 3) := by decide +kernel
theorem dX10_search_5 : decode cX10_search 5 = .ok (.iload_n 1, 1) := by decide +kernel
theorem dX10_search_6 : decode cX10_search 6 = .ok (.ifCond .le 10, 3) := by decide +kernel
theorem dX10_search_9 : decode cX10_search 9 = .ok (.aload_n 0, 1) := by decide +kernel
theorem dX10_search_10 : decode cX10_search 10 = .ok (.getfield 242, 3) := by decide +kernel
theorem dX10_search_13 : decode cX10_search 13 = .ok (.goto 4, 3) := by decide +kernel
theorem dX10_search_16 : decode cX10_search 16 = .ok (.iconst 1, 1) := by decide +kernel
theorem dX10_search_17 : decode cX10_search 17 = .ok (.istore_n 2, 1) := by decide +kernel
theorem dX10_search_18 : decode cX10_search 18 = .ok (.iconst 0, 1) := by decide +kernel
theorem dX10_search_19 : decode cX10_search 19 = .ok (.istore_n 3, 1) := by decide +kernel
theorem dX10_search_20 : decode cX10_search 20 = .ok (.iload_n 3, 1) := by decide +kernel
theorem dX10_search_21 : decode cX10_search 21 = .ok (.iload_n 2, 1) := by decide +kernel
theorem dX10_search_22 : decode cX10_search 22 = .ok (.if_icmp .ge 157, 3) := by decide +kernel
theorem dX10_search_25 : decode cX10_search 25 = .ok (.iload_n 1, 1) := by decide +kernel
theorem dX10_search_26 : decode cX10_search 26 = .ok (.iconst 1, 1) := by decide +kernel
theorem dX10_search_27 : decode cX10_search 27 = .ok (.if_icmp .le 10, 3) := by decide +kernel
theorem dX10_search_30 : decode cX10_search 30 = .ok (.aload_n 0, 1) := by decide +kernel
theorem dX10_search_31 : decode cX10_search 31 = .ok (.getfield 242, 3) := by decide +kernel
theorem dX10_search_34 : decode cX10_search 34 = .ok (.goto 6, 3) := by decide +kernel
theorem dX10_search_37 : decode cX10_search 37 = .ok (.iload_n 3, 1) := by decide +kernel
theorem dX10_search_38 : decode cX10_search 38 = .ok (.iconst 2, 1) := by decide +kernel
theorem dX10_search_39 : decode cX10_search 39 = .ok (.iadd, 1) := by decide +kernel
theorem dX10_search_40 : decode cX10_search 40 = .ok (.istore 4, 2) := by decide +kernel
theorem dX10_search_42 : decode cX10_search 42 = .ok (.iload_n 3, 1) := by decide +kernel
theorem dX10_search_43 : decode cX10_search 43 = .ok (.iconst 1, 1) := by decide +kernel
theorem dX10_search_44 : decode cX10_search 44 = .ok (.iadd, 1) := by decide +kernel
theorem dX10_search_45 : decode cX10_search 45 = .ok (.istore 5, 2) := by decide +kernel
theorem dX10_search_47 : decode cX10_search 47 = .ok (.iload 5, 2) := by decide +kernel
theorem dX10_search_49 : decode cX10_search 49 = .ok (.iload 4, 2) := by decide +kernel
theorem dX10_search_51 : decode cX10_search 51 = .ok (.if_icmp .ge 122, 3) := by decide +kernel
theorem dX10_search_54 : decode cX10_search 54 = .ok (.iload_n 1, 1) := by decide +kernel
theorem dX10_search_55 : decode cX10_search 55 = .ok (.iconst 2, 1) := by decide +kernel
theorem dX10_search_56 : decode cX10_search 56 = .ok (.if_icmp .le 10, 3) := by decide +kernel
theorem dX10_search_59 : decode cX10_search 59 = .ok (.aload_n 0, 1) := by decide +kernel
theorem dX10_search_60 : decode cX10_search 60 = .ok (.getfield 242, 3) := by decide +kernel
theorem dX10_search_63 : decode cX10_search 63 = .ok (.goto 7, 3) := by decide +kernel
theorem dX10_search_66 : decode cX10_search 66 = .ok (.iload 5, 2) := by decide +kernel
theorem dX10_search_68 : decode cX10_search 68 = .ok (.iconst 2, 1) := by decide +kernel
theorem dX10_search_69 : decode cX10_search 69 = .ok (.iadd, 1) := by decide +kernel
theorem dX10_search_70 : decode cX10_search 70 = .ok (.istore 6, 2) := by decide +kernel
theorem dX10_search_72 : decode cX10_search 72 = .ok (.iload 5, 2) := by decide +kernel
theorem dX10_search_74 : decode cX10_search 74 = .ok (.iconst 1, 1) := by decide +kernel
theorem dX10_search_75 : decode cX10_search 75 = .ok (.iadd, 1) := by decide +kernel
theorem dX10_search_76 : decode cX10_search 76 = .ok (.istore 7, 2) := by decide +kernel
theorem dX10_search_78 : decode cX10_search 78 = .ok (.iload 7, 2) := by decide +kernel
theorem dX10_search_80 : decode cX10_search 80 = .ok (.iload 6, 2) := by decide +kernel
theorem dX10_search_82 : decode cX10_search 82 = .ok (.if_icmp .ge 85, 3) := by decide +kernel
theorem dX10_search_85 : decode cX10_search 85 = .ok (.aload_n 0, 1) := by decide +kernel
theorem dX10_search_86 : decode cX10_search 86 = .ok (.getfield 41, 3) := by decide +kernel
theorem dX10_search_89 : decode cX10_search 89 = .ok (.iconst 0, 1) := by decide +kernel
theorem dX10_search_90 : decode cX10_search 90 = .ok (.iload_n 1, 1) := by decide +kernel
theorem dX10_search_91 : decode cX10_search 91 = .ok (.ifCond .le 12, 3) := by decide +kernel
theorem dX10_search_94 : decode cX10_search 94 = .ok (.aload_n 0, 1) := by decide +kernel
theorem dX10_search_95 : decode cX10_search 95 = .ok (.getfield 44, 3) := by decide +kernel
theorem dX10_search_98 : decode cX10_search 98 = .ok (.iload_n 3, 1) := by decide +kernel
theorem dX10_search_99 : decode cX10_search 99 = .ok (.iaload, 1) := by decide +kernel
theorem dX10_search_100 : decode cX10_search 100 = .ok (.goto 5, 3) := by decide +kernel
theorem dX10_search_103 : decode cX10_search 103 = .ok (.bipush (-9), 2) := by decide +kernel
theorem dX10_search_105 : decode cX10_search 105 = .ok (.iastore, 1) := by decide +kernel
theorem dX10_search_106 : decode cX10_search 106 = .ok (.aload_n 0, 1) := by decide +kernel
theorem dX10_search_107 : decode cX10_search 107 = .ok (.getfield 41, 3) := by decide +kernel
theorem dX10_search_110 : decode cX10_search 110 = .ok (.iconst 1, 1) := by decide +kernel
theorem dX10_search_111 : decode cX10_search 111 = .ok (.iload_n 1, 1) := by decide +kernel
theorem dX10_search_112 : decode cX10_search 112 = .ok (.iconst 1, 1) := by decide +kernel
theorem dX10_search_113 : decode cX10_search 113 = .ok (.if_icmp .le 13, 3) := by decide +kernel
theorem dX10_search_116 : decode cX10_search 116 = .ok (.aload_n 0, 1) := by decide +kernel
theorem dX10_search_117 : decode cX10_search 117 = .ok (.getfield 44, 3) := by decide +kernel
theorem dX10_search_120 : decode cX10_search 120 = .ok (.iload 5, 2) := by decide +kernel
theorem dX10_search_122 : decode cX10_search 122 = .ok (.iaload, 1) := by decide +kernel
theorem dX10_search_123 : decode cX10_search 123 = .ok (.goto 5, 3) := by decide +kernel
theorem dX10_search_126 : decode cX10_search 126 = .ok (.bipush (-9), 2) := by decide +kernel
theorem dX10_search_128 : decode cX10_search 128 = .ok (.iastore, 1) := by decide +kernel
theorem dX10_search_129 : decode cX10_search 129 = .ok (.aload_n 0, 1) := by decide +kernel
theorem dX10_search_130 : decode cX10_search 130 = .ok (.getfield 41, 3) := by decide +kernel
theorem dX10_search_133 : decode cX10_search 133 = .ok (.iconst 2, 1) := by decide +kernel
theorem dX10_search_134 : decode cX10_search 134 = .ok (.iload_n 1, 1) := by decide +kernel
theorem dX10_search_135 : decode cX10_search 135 = .ok (.iconst 2, 1) := by decide +kernel
theorem dX10_search_136 : decode cX10_search 136 = .ok (.if_icmp .le 13, 3) := by decide +kernel
theorem dX10_search_139 : decode cX10_search 139 = .ok (.aload_n 0, 1) := by decide +kernel
theorem dX10_search_140 : decode cX10_search 140 = .ok (.getfield 44, 3) := by decide +kernel
theorem dX10_search_143 : decode cX10_search 143 = .ok (.iload 7, 2) := by decide +kernel
theorem dX10_search_145 : decode cX10_search 145 = .ok (.iaload, 1) := by decide +kernel
theorem dX10_search_146 : decode cX10_search 146 = .ok (.goto 5, 3) := by decide +kernel
theorem dX10_search_149 : decode cX10_search 149 = .ok (.bipush (-9), 2) := by decide +kernel
theorem dX10_search_151 : decode cX10_search 151 = .ok (.iastore, 1) := by decide +kernel
theorem dX10_search_152 : decode cX10_search 152 = .ok (.aload_n 0, 1) := by decide +kernel
theorem dX10_search_153 : decode cX10_search 153 = .ok (.invokevirtual 248, 3) := by decide +kernel
theorem dX10_search_156 : decode cX10_search 156 = .ok (.ifCond .eq 5, 3) := by decide +kernel
theorem dX10_search_159 : decode cX10_search 159 = .ok (.iconst 1, 1) := by decide +kernel
theorem dX10_search_160 : decode cX10_search 160 = .ok (.ireturn, 1) := by decide +kernel
theorem dX10_search_161 : decode cX10_search 161 = .ok (.iinc 7 1, 3) := by decide +kernel
theorem dX10_search_164 : decode cX10_search 164 = .ok (.goto (-86), 3) := by decide +kernel
theorem dX10_search_167 : decode cX10_search 167 = .ok (.iinc 5 1, 3) := by decide +kernel
theorem dX10_search_170 : decode cX10_search 170 = .ok (.goto (-123), 3) := by decide +kernel
theorem dX10_search_173 : decode cX10_search 173 = .ok (.iinc 3 1, 3) := by decide +kernel
theorem dX10_search_176 : decode cX10_search 176 = .ok (.goto (-156), 3) := by decide +kernel
theorem dX10_search_179 : decode cX10_search 179 = .ok (.iconst 0, 1) := by decide +kernel
theorem dX10_search_180 : decode cX10_search 180 = .ok (.ireturn, 1) := by decide +kernel
theorem dX10_choose_0 : decode cX10_choose 0 = .ok (.aload_n 0, 1) := by decide +kernel
theorem dX10_choose_1 : decode cX10_choose 1 = .ok (.invokevirtual 221, 3) := by decide +kernel
theorem dX10_choose_4 : decode cX10_choose 4 = .ok (.ifCond .ne 5, 3) := by decide +kernel
theorem dX10_choose_7 : decode cX10_choose 7 = .ok (.iconst 0, 1) := by decide +kernel
theorem dX10_choose_8 : decode cX10_choose 8 = .ok (.ireturn, 1) := by decide +kernel
theorem dX10_choose_9 : decode cX10_choose 9 = .ok (.aload_n 0, 1) := by decide +kernel
theorem dX10_choose_10 : decode cX10_choose 10 = .ok (.invokevirtual 251, 3) := by decide +kernel
theorem dX10_choose_13 : decode cX10_choose 13 = .ok (.iconst 0, 1) := by decide +kernel
theorem dX10_choose_14 : decode cX10_choose 14 = .ok (.istore_n 1, 1) := by decide +kernel
theorem dX10_choose_15 : decode cX10_choose 15 = .ok (.iload_n 1, 1) := by decide +kernel
theorem dX10_choose_16 : decode cX10_choose 16 = .ok (.aload_n 0, 1) := by decide +kernel
theorem dX10_choose_17 : decode cX10_choose 17 = .ok (.getfield 7, 3) := by decide +kernel
theorem dX10_choose_20 : decode cX10_choose 20 = .ok (.bipush 9, 2) := by decide +kernel
theorem dX10_choose_22 : decode cX10_choose 22 = .ok (.iaload, 1) := by decide +kernel
theorem dX10_choose_23 : decode cX10_choose 23 = .ok (.if_icmp .gt 19, 3) := by decide +kernel
theorem dX10_choose_26 : decode cX10_choose 26 = .ok (.aload_n 0, 1) := by decide +kernel
theorem dX10_choose_27 : decode cX10_choose 27 = .ok (.iload_n 1, 1) := by decide +kernel
theorem dX10_choose_28 : decode cX10_choose 28 = .ok (.invokevirtual 254, 3) := by decide +kernel
theorem dX10_choose_31 : decode cX10_choose 31 = .ok (.ifCond .eq 5, 3) := by decide +kernel
theorem dX10_choose_34 : decode cX10_choose 34 = .ok (.iconst 1, 1) := by decide +kernel
theorem dX10_choose_35 : decode cX10_choose 35 = .ok (.ireturn, 1) := by decide +kernel
theorem dX10_choose_36 : decode cX10_choose 36 = .ok (.iinc 1 1, 3) := by decide +kernel
theorem dX10_choose_39 : decode cX10_choose 39 = .ok (.goto (-24), 3) := by decide +kernel
theorem dX10_choose_42 : decode cX10_choose 42 = .ok (.iconst 0, 1) := by decide +kernel
theorem dX10_choose_43 : decode cX10_choose 43 = .ok (.ireturn, 1) := by decide +kernel
theorem dX10_isSatisfiable_0 : decode cX10_isSatisfiable 0 = .ok (.aload_n 0, 1) := by decide +kernel
theorem dX10_isSatisfiable_1 : decode cX10_isSatisfiable 1 = .ok (.iconst 0, 1) := by decide +kernel
theorem dX10_isSatisfiable_2 : decode cX10_isSatisfiable 2 = .ok (.putfield 47, 3) := by decide +kernel
theorem dX10_isSatisfiable_5 : decode cX10_isSatisfiable 5 = .ok (.aload_n 0, 1) := by decide +kernel
theorem dX10_isSatisfiable_6 : decode cX10_isSatisfiable 6 = .ok (.invokevirtual 257, 3) := by decide +kernel
theorem dX10_isSatisfiable_9 : decode cX10_isSatisfiable 9 = .ok (.ifCond .eq 7, 3) := by decide +kernel
theorem dX10_isSatisfiable_12 : decode cX10_isSatisfiable 12 = .ok (.iconst 1, 1) := by decide +kernel
theorem dX10_isSatisfiable_13 : decode cX10_isSatisfiable 13 = .ok (.goto 4, 3) := by decide +kernel
theorem dX10_isSatisfiable_16 : decode cX10_isSatisfiable 16 = .ok (.iconst 0, 1) := by decide +kernel
theorem dX10_isSatisfiable_17 : decode cX10_isSatisfiable 17 = .ok (.ireturn, 1) := by decide +kernel
theorem dX10_oneBits_0 : decode cX10_oneBits 0 = .ok (.aload_n 0, 1) := by decide +kernel
theorem dX10_oneBits_1 : decode cX10_oneBits 1 = .ok (.iconst 0, 1) := by decide +kernel
theorem dX10_oneBits_2 : decode cX10_oneBits 2 = .ok (.putfield 47, 3) := by decide +kernel
theorem dX10_oneBits_5 : decode cX10_oneBits 5 = .ok (.aload_n 0, 1) := by decide +kernel
theorem dX10_oneBits_6 : decode cX10_oneBits 6 = .ok (.invokevirtual 257, 3) := by decide +kernel
theorem dX10_oneBits_9 : decode cX10_oneBits 9 = .ok (.ifCond .eq 10, 3) := by decide +kernel
theorem dX10_oneBits_12 : decode cX10_oneBits 12 = .ok (.aload_n 0, 1) := by decide +kernel
theorem dX10_oneBits_13 : decode cX10_oneBits 13 = .ok (.getfield 233, 3) := by decide +kernel
theorem dX10_oneBits_16 : decode cX10_oneBits 16 = .ok (.goto 5, 3) := by decide +kernel
theorem dX10_oneBits_19 : decode cX10_oneBits 19 = .ok (.bipush (-9), 2) := by decide +kernel
theorem dX10_oneBits_21 : decode cX10_oneBits 21 = .ok (.ireturn, 1) := by decide +kernel
theorem dX10_value_0 : decode cX10_value 0 = .ok (.aload_n 0, 1) := by decide +kernel
theorem dX10_value_1 : decode cX10_value 1 = .ok (.iconst 0, 1) := by decide +kernel
theorem dX10_value_2 : decode cX10_value 2 = .ok (.putfield 47, 3) := by decide +kernel
theorem dX10_value_5 : decode cX10_value 5 = .ok (.iload_n 1, 1) := by decide +kernel
theorem dX10_value_6 : decode cX10_value 6 = .ok (.invokestatic 151, 3) := by decide +kernel
theorem dX10_value_9 : decode cX10_value 9 = .ok (.ifCond .ne 5, 3) := by decide +kernel
theorem dX10_value_12 : decode cX10_value 12 = .ok (.iconst (-1), 1) := by decide +kernel
theorem dX10_value_13 : decode cX10_value 13 = .ok (.ireturn, 1) := by decide +kernel
theorem dX10_value_14 : decode cX10_value 14 = .ok (.aload_n 0, 1) := by decide +kernel
theorem dX10_value_15 : decode cX10_value 15 = .ok (.invokevirtual 257, 3) := by decide +kernel
theorem dX10_value_18 : decode cX10_value 18 = .ok (.ifCond .ne 6, 3) := by decide +kernel
theorem dX10_value_21 : decode cX10_value 21 = .ok (.bipush (-9), 2) := by decide +kernel
theorem dX10_value_23 : decode cX10_value 23 = .ok (.ireturn, 1) := by decide +kernel
theorem dX10_value_24 : decode cX10_value 24 = .ok (.iconst 0, 1) := by decide +kernel
theorem dX10_value_25 : decode cX10_value 25 = .ok (.istore_n 2, 1) := by decide +kernel
theorem dX10_value_26 : decode cX10_value 26 = .ok (.iconst 0, 1) := by decide +kernel
theorem dX10_value_27 : decode cX10_value 27 = .ok (.istore_n 3, 1) := by decide +kernel
theorem dX10_value_28 : decode cX10_value 28 = .ok (.iload_n 3, 1) := by decide +kernel
theorem dX10_value_29 : decode cX10_value 29 = .ok (.aload_n 0, 1) := by decide +kernel
theorem dX10_value_30 : decode cX10_value 30 = .ok (.getfield 7, 3) := by decide +kernel
theorem dX10_value_33 : decode cX10_value 33 = .ok (.iload_n 1, 1) := by decide +kernel
theorem dX10_value_34 : decode cX10_value 34 = .ok (.iaload, 1) := by decide +kernel
theorem dX10_value_35 : decode cX10_value 35 = .ok (.if_icmp .ge 27, 3) := by decide +kernel
theorem dX10_value_38 : decode cX10_value 38 = .ok (.iload_n 2, 1) := by decide +kernel
theorem dX10_value_39 : decode cX10_value 39 = .ok (.aload_n 0, 1) := by decide +kernel
theorem dX10_value_40 : decode cX10_value 40 = .ok (.bipush 16, 2) := by decide +kernel
theorem dX10_value_42 : decode cX10_value 42 = .ok (.bipush 16, 2) := by decide +kernel
theorem dX10_value_44 : decode cX10_value 44 = .ok (.iload_n 1, 1) := by decide +kernel
theorem dX10_value_45 : decode cX10_value 45 = .ok (.imul, 1) := by decide +kernel
theorem dX10_value_46 : decode cX10_value 46 = .ok (.iadd, 1) := by decide +kernel
theorem dX10_value_47 : decode cX10_value 47 = .ok (.iload_n 3, 1) := by decide +kernel
theorem dX10_value_48 : decode cX10_value 48 = .ok (.iadd, 1) := by decide +kernel
theorem dX10_value_49 : decode cX10_value 49 = .ok (.invokevirtual 236, 3) := by decide +kernel
theorem dX10_value_52 : decode cX10_value 52 = .ok (.iload_n 3, 1) := by decide +kernel
theorem dX10_value_53 : decode cX10_value 53 = .ok (.ishl, 1) := by decide +kernel
theorem dX10_value_54 : decode cX10_value 54 = .ok (.ior, 1) := by decide +kernel
theorem dX10_value_55 : decode cX10_value 55 = .ok (.istore_n 2, 1) := by decide +kernel
theorem dX10_value_56 : decode cX10_value 56 = .ok (.iinc 3 1, 3) := by decide +kernel
theorem dX10_value_59 : decode cX10_value 59 = .ok (.goto (-31), 3) := by decide +kernel
theorem dX10_value_62 : decode cX10_value 62 = .ok (.iload_n 2, 1) := by decide +kernel
theorem dX10_value_63 : decode cX10_value 63 = .ok (.ireturn, 1) := by decide +kernel
theorem dX10_isImplied_0 : decode cX10_isImplied 0 = .ok (.aload_n 0, 1) := by decide +kernel
theorem dX10_isImplied_1 : decode cX10_isImplied 1 = .ok (.iconst 0, 1) := by decide +kernel
theorem dX10_isImplied_2 : decode cX10_isImplied 2 = .ok (.putfield 47, 3) := by decide +kernel
theorem dX10_isImplied_5 : decode cX10_isImplied 5 = .ok (.iload_n 1, 1) := by decide +kernel
theorem dX10_isImplied_6 : decode cX10_isImplied 6 = .ok (.iconst 0, 1) := by decide +kernel
theorem dX10_isImplied_7 : decode cX10_isImplied 7 = .ok (.aload_n 0, 1) := by decide +kernel
theorem dX10_isImplied_8 : decode cX10_isImplied 8 = .ok (.getfield 7, 3) := by decide +kernel
theorem dX10_isImplied_11 : decode cX10_isImplied 11 = .ok (.bipush 9, 2) := by decide +kernel
theorem dX10_isImplied_13 : decode cX10_isImplied 13 = .ok (.iaload, 1) := by decide +kernel
theorem dX10_isImplied_14 : decode cX10_isImplied 14 = .ok (.iconst 1, 1) := by decide +kernel
theorem dX10_isImplied_15 : decode cX10_isImplied 15 = .ok (.isub, 1) := by decide +kernel
theorem dX10_isImplied_16 : decode cX10_isImplied 16 = .ok (.invokestatic 60, 3) := by decide +kernel
theorem dX10_isImplied_19 : decode cX10_isImplied 19 = .ok (.ifCond .ne 5, 3) := by decide +kernel
theorem dX10_isImplied_22 : decode cX10_isImplied 22 = .ok (.iconst (-1), 1) := by decide +kernel
theorem dX10_isImplied_23 : decode cX10_isImplied 23 = .ok (.ireturn, 1) := by decide +kernel
theorem dX10_isImplied_24 : decode cX10_isImplied 24 = .ok (.aload_n 0, 1) := by decide +kernel
theorem dX10_isImplied_25 : decode cX10_isImplied 25 = .ok (.invokevirtual 221, 3) := by decide +kernel
theorem dX10_isImplied_28 : decode cX10_isImplied 28 = .ok (.ifCond .ne 6, 3) := by decide +kernel
theorem dX10_isImplied_31 : decode cX10_isImplied 31 = .ok (.bipush (-2), 2) := by decide +kernel
theorem dX10_isImplied_33 : decode cX10_isImplied 33 = .ok (.ireturn, 1) := by decide +kernel
theorem dX10_isImplied_34 : decode cX10_isImplied 34 = .ok (.aload_n 0, 1) := by decide +kernel
theorem dX10_isImplied_35 : decode cX10_isImplied 35 = .ok (.bipush 10, 2) := by decide +kernel
theorem dX10_isImplied_37 : decode cX10_isImplied 37 = .ok (.iload_n 1, 1) := by decide +kernel
theorem dX10_isImplied_38 : decode cX10_isImplied 38 = .ok (.iadd, 1) := by decide +kernel
theorem dX10_isImplied_39 : decode cX10_isImplied 39 = .ok (.invokevirtual 215, 3) := by decide +kernel
theorem dX10_isImplied_42 : decode cX10_isImplied 42 = .ok (.aload_n 0, 1) := by decide +kernel
theorem dX10_isImplied_43 : decode cX10_isImplied 43 = .ok (.getfield 200, 3) := by decide +kernel
theorem dX10_isImplied_46 : decode cX10_isImplied 46 = .ok (.ifCond .eq 7, 3) := by decide +kernel
theorem dX10_isImplied_49 : decode cX10_isImplied 49 = .ok (.iconst 1, 1) := by decide +kernel
theorem dX10_isImplied_50 : decode cX10_isImplied 50 = .ok (.goto 4, 3) := by decide +kernel
theorem dX10_isImplied_53 : decode cX10_isImplied 53 = .ok (.iconst 0, 1) := by decide +kernel
theorem dX10_isImplied_54 : decode cX10_isImplied 54 = .ok (.ireturn, 1) := by decide +kernel
theorem dX10_undo_0 : decode cX10_undo 0 = .ok (.aload_n 0, 1) := by decide +kernel
theorem dX10_undo_1 : decode cX10_undo 1 = .ok (.iconst 0, 1) := by decide +kernel
theorem dX10_undo_2 : decode cX10_undo 2 = .ok (.putfield 47, 3) := by decide +kernel
theorem dX10_undo_5 : decode cX10_undo 5 = .ok (.aload_n 0, 1) := by decide +kernel
theorem dX10_undo_6 : decode cX10_undo 6 = .ok (.getfield 144, 3) := by decide +kernel
theorem dX10_undo_9 : decode cX10_undo 9 = .ok (.ifCond .ne 6, 3) := by decide +kernel
theorem dX10_undo_12 : decode cX10_undo 12 = .ok (.bipush (-2), 2) := by decide +kernel
theorem dX10_undo_14 : decode cX10_undo 14 = .ok (.ireturn, 1) := by decide +kernel
theorem dX10_undo_15 : decode cX10_undo 15 = .ok (.aload_n 0, 1) := by decide +kernel
theorem dX10_undo_16 : decode cX10_undo 16 = .ok (.dup, 1) := by decide +kernel
theorem dX10_undo_17 : decode cX10_undo 17 = .ok (.getfield 144, 3) := by decide +kernel
theorem dX10_undo_20 : decode cX10_undo 20 = .ok (.iconst 1, 1) := by decide +kernel
theorem dX10_undo_21 : decode cX10_undo 21 = .ok (.isub, 1) := by decide +kernel
theorem dX10_undo_22 : decode cX10_undo 22 = .ok (.putfield 144, 3) := by decide +kernel
theorem dX10_undo_25 : decode cX10_undo 25 = .ok (.iconst 0, 1) := by decide +kernel
theorem dX10_undo_26 : decode cX10_undo 26 = .ok (.istore_n 1, 1) := by decide +kernel
theorem dX10_undo_27 : decode cX10_undo 27 = .ok (.iload_n 1, 1) := by decide +kernel
theorem dX10_undo_28 : decode cX10_undo 28 = .ok (.sipush 439, 3) := by decide +kernel
theorem dX10_undo_31 : decode cX10_undo 31 = .ok (.if_icmp .ge 30, 3) := by decide +kernel
theorem dX10_undo_34 : decode cX10_undo 34 = .ok (.aload_n 0, 1) := by decide +kernel
theorem dX10_undo_35 : decode cX10_undo 35 = .ok (.getfield 7, 3) := by decide +kernel
theorem dX10_undo_38 : decode cX10_undo 38 = .ok (.iload_n 1, 1) := by decide +kernel
theorem dX10_undo_39 : decode cX10_undo 39 = .ok (.aload_n 0, 1) := by decide +kernel
theorem dX10_undo_40 : decode cX10_undo 40 = .ok (.getfield 16, 3) := by decide +kernel
theorem dX10_undo_43 : decode cX10_undo 43 = .ok (.sipush 439, 3) := by decide +kernel
theorem dX10_undo_46 : decode cX10_undo 46 = .ok (.aload_n 0, 1) := by decide +kernel
theorem dX10_undo_47 : decode cX10_undo 47 = .ok (.getfield 144, 3) := by decide +kernel
theorem dX10_undo_50 : decode cX10_undo 50 = .ok (.imul, 1) := by decide +kernel
theorem dX10_undo_51 : decode cX10_undo 51 = .ok (.iload_n 1, 1) := by decide +kernel
theorem dX10_undo_52 : decode cX10_undo 52 = .ok (.iadd, 1) := by decide +kernel
theorem dX10_undo_53 : decode cX10_undo 53 = .ok (.iaload, 1) := by decide +kernel
theorem dX10_undo_54 : decode cX10_undo 54 = .ok (.iastore, 1) := by decide +kernel
theorem dX10_undo_55 : decode cX10_undo 55 = .ok (.iinc 1 1, 3) := by decide +kernel
theorem dX10_undo_58 : decode cX10_undo 58 = .ok (.goto (-31), 3) := by decide +kernel
theorem dX10_undo_61 : decode cX10_undo 61 = .ok (.aload_n 0, 1) := by decide +kernel
theorem dX10_undo_62 : decode cX10_undo 62 = .ok (.getfield 144, 3) := by decide +kernel
theorem dX10_undo_65 : decode cX10_undo 65 = .ok (.ireturn, 1) := by decide +kernel
theorem dX10_undoDepth_0 : decode cX10_undoDepth 0 = .ok (.aload_n 0, 1) := by decide +kernel
theorem dX10_undoDepth_1 : decode cX10_undoDepth 1 = .ok (.iconst 0, 1) := by decide +kernel
theorem dX10_undoDepth_2 : decode cX10_undoDepth 2 = .ok (.putfield 47, 3) := by decide +kernel
theorem dX10_undoDepth_5 : decode cX10_undoDepth 5 = .ok (.aload_n 0, 1) := by decide +kernel
theorem dX10_undoDepth_6 : decode cX10_undoDepth 6 = .ok (.getfield 144, 3) := by decide +kernel
theorem dX10_undoDepth_9 : decode cX10_undoDepth 9 = .ok (.ireturn, 1) := by decide +kernel
theorem dX10_save_0 : decode cX10_save 0 = .ok (.aload_n 0, 1) := by decide +kernel
theorem dX10_save_1 : decode cX10_save 1 = .ok (.iconst 0, 1) := by decide +kernel
theorem dX10_save_2 : decode cX10_save 2 = .ok (.putfield 47, 3) := by decide +kernel
theorem dX10_save_5 : decode cX10_save 5 = .ok (.iload_n 1, 1) := by decide +kernel
theorem dX10_save_6 : decode cX10_save 6 = .ok (.iconst 0, 1) := by decide +kernel
theorem dX10_save_7 : decode cX10_save 7 = .ok (.iconst 1, 1) := by decide +kernel
theorem dX10_save_8 : decode cX10_save 8 = .ok (.invokestatic 60, 3) := by decide +kernel
theorem dX10_save_11 : decode cX10_save 11 = .ok (.ifCond .ne 5, 3) := by decide +kernel
theorem dX10_save_14 : decode cX10_save 14 = .ok (.iconst (-1), 1) := by decide +kernel
theorem dX10_save_15 : decode cX10_save 15 = .ok (.ireturn, 1) := by decide +kernel
theorem dX10_save_16 : decode cX10_save 16 = .ok (.iconst 0, 1) := by decide +kernel
theorem dX10_save_17 : decode cX10_save 17 = .ok (.istore_n 2, 1) := by decide +kernel
theorem dX10_save_18 : decode cX10_save 18 = .ok (.iload_n 2, 1) := by decide +kernel
theorem dX10_save_19 : decode cX10_save 19 = .ok (.sipush 439, 3) := by decide +kernel
theorem dX10_save_22 : decode cX10_save 22 = .ok (.if_icmp .ge 27, 3) := by decide +kernel
theorem dX10_save_25 : decode cX10_save 25 = .ok (.aload_n 0, 1) := by decide +kernel
theorem dX10_save_26 : decode cX10_save 26 = .ok (.getfield 19, 3) := by decide +kernel
theorem dX10_save_29 : decode cX10_save 29 = .ok (.sipush 439, 3) := by decide +kernel
theorem dX10_save_32 : decode cX10_save 32 = .ok (.iload_n 1, 1) := by decide +kernel
theorem dX10_save_33 : decode cX10_save 33 = .ok (.imul, 1) := by decide +kernel
theorem dX10_save_34 : decode cX10_save 34 = .ok (.iload_n 2, 1) := by decide +kernel
theorem dX10_save_35 : decode cX10_save 35 = .ok (.iadd, 1) := by decide +kernel
theorem dX10_save_36 : decode cX10_save 36 = .ok (.aload_n 0, 1) := by decide +kernel
theorem dX10_save_37 : decode cX10_save 37 = .ok (.getfield 7, 3) := by decide +kernel
theorem dX10_save_40 : decode cX10_save 40 = .ok (.iload_n 2, 1) := by decide +kernel
theorem dX10_save_41 : decode cX10_save 41 = .ok (.iaload, 1) := by decide +kernel
theorem dX10_save_42 : decode cX10_save 42 = .ok (.iastore, 1) := by decide +kernel
theorem dX10_save_43 : decode cX10_save 43 = .ok (.iinc 2 1, 3) := by decide +kernel
theorem dX10_save_46 : decode cX10_save 46 = .ok (.goto (-28), 3) := by decide +kernel
theorem dX10_save_49 : decode cX10_save 49 = .ok (.aload_n 0, 1) := by decide +kernel
theorem dX10_save_50 : decode cX10_save 50 = .ok (.getfield 22, 3) := by decide +kernel
theorem dX10_save_53 : decode cX10_save 53 = .ok (.iload_n 1, 1) := by decide +kernel
theorem dX10_save_54 : decode cX10_save 54 = .ok (.iconst 1, 1) := by decide +kernel
theorem dX10_save_55 : decode cX10_save 55 = .ok (.bastore, 1) := by decide +kernel
theorem dX10_save_56 : decode cX10_save 56 = .ok (.aload_n 0, 1) := by decide +kernel
theorem dX10_save_57 : decode cX10_save 57 = .ok (.getfield 7, 3) := by decide +kernel
theorem dX10_save_60 : decode cX10_save 60 = .ok (.bipush 8, 2) := by decide +kernel
theorem dX10_save_62 : decode cX10_save 62 = .ok (.iaload, 1) := by decide +kernel
theorem dX10_save_63 : decode cX10_save 63 = .ok (.aload_n 0, 1) := by decide +kernel
theorem dX10_save_64 : decode cX10_save 64 = .ok (.getfield 7, 3) := by decide +kernel
theorem dX10_save_67 : decode cX10_save 67 = .ok (.bipush 9, 2) := by decide +kernel
theorem dX10_save_69 : decode cX10_save 69 = .ok (.iaload, 1) := by decide +kernel
theorem dX10_save_70 : decode cX10_save 70 = .ok (.iadd, 1) := by decide +kernel
theorem dX10_save_71 : decode cX10_save 71 = .ok (.ireturn, 1) := by decide +kernel
theorem dX10_restore_0 : decode cX10_restore 0 = .ok (.aload_n 0, 1) := by decide +kernel
theorem dX10_restore_1 : decode cX10_restore 1 = .ok (.iconst 0, 1) := by decide +kernel
theorem dX10_restore_2 : decode cX10_restore 2 = .ok (.putfield 47, 3) := by decide +kernel
theorem dX10_restore_5 : decode cX10_restore 5 = .ok (.iload_n 1, 1) := by decide +kernel
theorem dX10_restore_6 : decode cX10_restore 6 = .ok (.iconst 0, 1) := by decide +kernel
theorem dX10_restore_7 : decode cX10_restore 7 = .ok (.iconst 1, 1) := by decide +kernel
theorem dX10_restore_8 : decode cX10_restore 8 = .ok (.invokestatic 60, 3) := by decide +kernel
theorem dX10_restore_11 : decode cX10_restore 11 = .ok (.ifCond .ne 5, 3) := by decide +kernel
theorem dX10_restore_14 : decode cX10_restore 14 = .ok (.iconst (-1), 1) := by decide +kernel
theorem dX10_restore_15 : decode cX10_restore 15 = .ok (.ireturn, 1) := by decide +kernel
theorem dX10_restore_16 : decode cX10_restore 16 = .ok (.aload_n 0, 1) := by decide +kernel
theorem dX10_restore_17 : decode cX10_restore 17 = .ok (.getfield 22, 3) := by decide +kernel
theorem dX10_restore_20 : decode cX10_restore 20 = .ok (.iload_n 1, 1) := by decide +kernel
theorem dX10_restore_21 : decode cX10_restore 21 = .ok (.baload, 1) := by decide +kernel
theorem dX10_restore_22 : decode cX10_restore 22 = .ok (.ifCond .ne 6, 3) := by decide +kernel
theorem dX10_restore_25 : decode cX10_restore 25 = .ok (.bipush (-2), 2) := by decide +kernel
theorem dX10_restore_27 : decode cX10_restore 27 = .ok (.ireturn, 1) := by decide +kernel
theorem dX10_restore_28 : decode cX10_restore 28 = .ok (.iconst 0, 1) := by decide +kernel
theorem dX10_restore_29 : decode cX10_restore 29 = .ok (.istore_n 2, 1) := by decide +kernel
theorem dX10_restore_30 : decode cX10_restore 30 = .ok (.iload_n 2, 1) := by decide +kernel
theorem dX10_restore_31 : decode cX10_restore 31 = .ok (.sipush 439, 3) := by decide +kernel
theorem dX10_restore_34 : decode cX10_restore 34 = .ok (.if_icmp .ge 27, 3) := by decide +kernel
theorem dX10_restore_37 : decode cX10_restore 37 = .ok (.aload_n 0, 1) := by decide +kernel
theorem dX10_restore_38 : decode cX10_restore 38 = .ok (.getfield 7, 3) := by decide +kernel
theorem dX10_restore_41 : decode cX10_restore 41 = .ok (.iload_n 2, 1) := by decide +kernel
theorem dX10_restore_42 : decode cX10_restore 42 = .ok (.aload_n 0, 1) := by decide +kernel
theorem dX10_restore_43 : decode cX10_restore 43 = .ok (.getfield 19, 3) := by decide +kernel
theorem dX10_restore_46 : decode cX10_restore 46 = .ok (.sipush 439, 3) := by decide +kernel
theorem dX10_restore_49 : decode cX10_restore 49 = .ok (.iload_n 1, 1) := by decide +kernel
theorem dX10_restore_50 : decode cX10_restore 50 = .ok (.imul, 1) := by decide +kernel
theorem dX10_restore_51 : decode cX10_restore 51 = .ok (.iload_n 2, 1) := by decide +kernel
theorem dX10_restore_52 : decode cX10_restore 52 = .ok (.iadd, 1) := by decide +kernel
theorem dX10_restore_53 : decode cX10_restore 53 = .ok (.iaload, 1) := by decide +kernel
theorem dX10_restore_54 : decode cX10_restore 54 = .ok (.iastore, 1) := by decide +kernel
theorem dX10_restore_55 : decode cX10_restore 55 = .ok (.iinc 2 1, 3) := by decide +kernel
theorem dX10_restore_58 : decode cX10_restore 58 = .ok (.goto (-28), 3) := by decide +kernel
theorem dX10_restore_61 : decode cX10_restore 61 = .ok (.aload_n 0, 1) := by decide +kernel
theorem dX10_restore_62 : decode cX10_restore 62 = .ok (.iconst 0, 1) := by decide +kernel
theorem dX10_restore_63 : decode cX10_restore 63 = .ok (.putfield 144, 3) := by decide +kernel
theorem dX10_restore_66 : decode cX10_restore 66 = .ok (.aload_n 0, 1) := by decide +kernel
theorem dX10_restore_67 : decode cX10_restore 67 = .ok (.getfield 7, 3) := by decide +kernel
theorem dX10_restore_70 : decode cX10_restore 70 = .ok (.bipush 8, 2) := by decide +kernel
theorem dX10_restore_72 : decode cX10_restore 72 = .ok (.iaload, 1) := by decide +kernel
theorem dX10_restore_73 : decode cX10_restore 73 = .ok (.aload_n 0, 1) := by decide +kernel
theorem dX10_restore_74 : decode cX10_restore 74 = .ok (.getfield 7, 3) := by decide +kernel
theorem dX10_restore_77 : decode cX10_restore 77 = .ok (.bipush 9, 2) := by decide +kernel
theorem dX10_restore_79 : decode cX10_restore 79 = .ok (.iaload, 1) := by decide +kernel
theorem dX10_restore_80 : decode cX10_restore 80 = .ok (.iadd, 1) := by decide +kernel
theorem dX10_restore_81 : decode cX10_restore 81 = .ok (.ireturn, 1) := by decide +kernel
theorem dJ6_bitCount_0f7a4_0 : decode cJ6_bitCount_0f7a4 0 = .ok (.iload_n 0, 1) := by decide +kernel
theorem dJ6_bitCount_0f7a4_1 : decode cJ6_bitCount_0f7a4 1 = .ok (.iload_n 0, 1) := by decide +kernel
theorem dJ6_bitCount_0f7a4_2 : decode cJ6_bitCount_0f7a4 2 = .ok (.iconst 1, 1) := by decide +kernel
theorem dJ6_bitCount_0f7a4_3 : decode cJ6_bitCount_0f7a4 3 = .ok (.iushr, 1) := by decide +kernel
theorem dJ6_bitCount_0f7a4_4 : decode cJ6_bitCount_0f7a4 4 = .ok (.ldc_w 265, 3) := by decide +kernel
theorem dJ6_bitCount_0f7a4_7 : decode cJ6_bitCount_0f7a4 7 = .ok (.iand, 1) := by decide +kernel
theorem dJ6_bitCount_0f7a4_8 : decode cJ6_bitCount_0f7a4 8 = .ok (.isub, 1) := by decide +kernel
theorem dJ6_bitCount_0f7a4_9 : decode cJ6_bitCount_0f7a4 9 = .ok (.istore_n 0, 1) := by decide +kernel
theorem dJ6_bitCount_0f7a4_10 : decode cJ6_bitCount_0f7a4 10 = .ok (.iload_n 0, 1) := by decide +kernel
theorem dJ6_bitCount_0f7a4_11 : decode cJ6_bitCount_0f7a4 11 = .ok (.ldc_w 266, 3) := by decide +kernel
theorem dJ6_bitCount_0f7a4_14 : decode cJ6_bitCount_0f7a4 14 = .ok (.iand, 1) := by decide +kernel
theorem dJ6_bitCount_0f7a4_15 : decode cJ6_bitCount_0f7a4 15 = .ok (.iload_n 0, 1) := by decide +kernel
theorem dJ6_bitCount_0f7a4_16 : decode cJ6_bitCount_0f7a4 16 = .ok (.iconst 2, 1) := by decide +kernel
theorem dJ6_bitCount_0f7a4_17 : decode cJ6_bitCount_0f7a4 17 = .ok (.iushr, 1) := by decide +kernel
theorem dJ6_bitCount_0f7a4_18 : decode cJ6_bitCount_0f7a4 18 = .ok (.ldc_w 266, 3) := by decide +kernel
theorem dJ6_bitCount_0f7a4_21 : decode cJ6_bitCount_0f7a4 21 = .ok (.iand, 1) := by decide +kernel
theorem dJ6_bitCount_0f7a4_22 : decode cJ6_bitCount_0f7a4 22 = .ok (.iadd, 1) := by decide +kernel
theorem dJ6_bitCount_0f7a4_23 : decode cJ6_bitCount_0f7a4 23 = .ok (.istore_n 0, 1) := by decide +kernel
theorem dJ6_bitCount_0f7a4_24 : decode cJ6_bitCount_0f7a4 24 = .ok (.iload_n 0, 1) := by decide +kernel
theorem dJ6_bitCount_0f7a4_25 : decode cJ6_bitCount_0f7a4 25 = .ok (.iload_n 0, 1) := by decide +kernel
theorem dJ6_bitCount_0f7a4_26 : decode cJ6_bitCount_0f7a4 26 = .ok (.iconst 4, 1) := by decide +kernel
theorem dJ6_bitCount_0f7a4_27 : decode cJ6_bitCount_0f7a4 27 = .ok (.iushr, 1) := by decide +kernel
theorem dJ6_bitCount_0f7a4_28 : decode cJ6_bitCount_0f7a4 28 = .ok (.iadd, 1) := by decide +kernel
theorem dJ6_bitCount_0f7a4_29 : decode cJ6_bitCount_0f7a4 29 = .ok (.ldc_w 267, 3) := by decide +kernel
theorem dJ6_bitCount_0f7a4_32 : decode cJ6_bitCount_0f7a4 32 = .ok (.iand, 1) := by decide +kernel
theorem dJ6_bitCount_0f7a4_33 : decode cJ6_bitCount_0f7a4 33 = .ok (.istore_n 0, 1) := by decide +kernel
theorem dJ6_bitCount_0f7a4_34 : decode cJ6_bitCount_0f7a4 34 = .ok (.iload_n 0, 1) := by decide +kernel
theorem dJ6_bitCount_0f7a4_35 : decode cJ6_bitCount_0f7a4 35 = .ok (.iload_n 0, 1) := by decide +kernel
theorem dJ6_bitCount_0f7a4_36 : decode cJ6_bitCount_0f7a4 36 = .ok (.bipush 8, 2) := by decide +kernel
theorem dJ6_bitCount_0f7a4_38 : decode cJ6_bitCount_0f7a4 38 = .ok (.iushr, 1) := by decide +kernel
theorem dJ6_bitCount_0f7a4_39 : decode cJ6_bitCount_0f7a4 39 = .ok (.iadd, 1) := by decide +kernel
theorem dJ6_bitCount_0f7a4_40 : decode cJ6_bitCount_0f7a4 40 = .ok (.istore_n 0, 1) := by decide +kernel
theorem dJ6_bitCount_0f7a4_41 : decode cJ6_bitCount_0f7a4 41 = .ok (.iload_n 0, 1) := by decide +kernel
theorem dJ6_bitCount_0f7a4_42 : decode cJ6_bitCount_0f7a4 42 = .ok (.iload_n 0, 1) := by decide +kernel
theorem dJ6_bitCount_0f7a4_43 : decode cJ6_bitCount_0f7a4 43 = .ok (.bipush 16, 2) := by decide +kernel
theorem dJ6_bitCount_0f7a4_45 : decode cJ6_bitCount_0f7a4 45 = .ok (.iushr, 1) := by decide +kernel
theorem dJ6_bitCount_0f7a4_46 : decode cJ6_bitCount_0f7a4 46 = .ok (.iadd, 1) := by decide +kernel
theorem dJ6_bitCount_0f7a4_47 : decode cJ6_bitCount_0f7a4 47 = .ok (.istore_n 0, 1) := by decide +kernel
theorem dJ6_bitCount_0f7a4_48 : decode cJ6_bitCount_0f7a4 48 = .ok (.iload_n 0, 1) := by decide +kernel
theorem dJ6_bitCount_0f7a4_49 : decode cJ6_bitCount_0f7a4 49 = .ok (.bipush 63, 2) := by decide +kernel
theorem dJ6_bitCount_0f7a4_51 : decode cJ6_bitCount_0f7a4 51 = .ok (.iand, 1) := by decide +kernel
theorem dJ6_bitCount_0f7a4_52 : decode cJ6_bitCount_0f7a4 52 = .ok (.ireturn, 1) := by decide +kernel
theorem dJ9_max_7cf53_0 : decode cJ9_max_7cf53 0 = .ok (.iload_n 0, 1) := by decide +kernel
theorem dJ9_max_7cf53_1 : decode cJ9_max_7cf53 1 = .ok (.iload_n 1, 1) := by decide +kernel
theorem dJ9_max_7cf53_2 : decode cJ9_max_7cf53 2 = .ok (.if_icmp .lt 7, 3) := by decide +kernel
theorem dJ9_max_7cf53_5 : decode cJ9_max_7cf53 5 = .ok (.iload_n 0, 1) := by decide +kernel
theorem dJ9_max_7cf53_6 : decode cJ9_max_7cf53 6 = .ok (.goto 4, 3) := by decide +kernel
theorem dJ9_max_7cf53_9 : decode cJ9_max_7cf53 9 = .ok (.iload_n 1, 1) := by decide +kernel
theorem dJ9_max_7cf53_10 : decode cJ9_max_7cf53 10 = .ok (.ireturn, 1) := by decide +kernel
theorem dJ9_min_7cf53_0 : decode cJ9_min_7cf53 0 = .ok (.iload_n 0, 1) := by decide +kernel
theorem dJ9_min_7cf53_1 : decode cJ9_min_7cf53 1 = .ok (.iload_n 1, 1) := by decide +kernel
theorem dJ9_min_7cf53_2 : decode cJ9_min_7cf53 2 = .ok (.if_icmp .gt 7, 3) := by decide +kernel
theorem dJ9_min_7cf53_5 : decode cJ9_min_7cf53 5 = .ok (.iload_n 0, 1) := by decide +kernel
theorem dJ9_min_7cf53_6 : decode cJ9_min_7cf53 6 = .ok (.goto 4, 3) := by decide +kernel
theorem dJ9_min_7cf53_9 : decode cJ9_min_7cf53 9 = .ok (.iload_n 1, 1) := by decide +kernel
theorem dJ9_min_7cf53_10 : decode cJ9_min_7cf53 10 = .ok (.ireturn, 1) := by decide +kernel
theorem dJ0_length_8abf5_0 : decode cJ0_length_8abf5 0 = .ok (.aload_n 0, 1) := by decide +kernel
theorem dJ0_length_8abf5_1 : decode cJ0_length_8abf5 1 = .ok (.getfield 9, 3) := by decide +kernel
theorem dJ0_length_8abf5_4 : decode cJ0_length_8abf5 4 = .ok (.arraylength, 1) := by decide +kernel
theorem dJ0_length_8abf5_5 : decode cJ0_length_8abf5 5 = .ok (.aload_n 0, 1) := by decide +kernel
theorem dJ0_length_8abf5_6 : decode cJ0_length_8abf5 6 = .ok (.invokevirtual 335, 3) := by decide +kernel
theorem dJ0_length_8abf5_9 : decode cJ0_length_8abf5 9 = .ok (.ishr, 1) := by decide +kernel
theorem dJ0_length_8abf5_10 : decode cJ0_length_8abf5 10 = .ok (.ireturn, 1) := by decide +kernel
theorem dJ0_charAt_5068e_0 : decode cJ0_charAt_5068e 0 = .ok (.aload_n 0, 1) := by decide +kernel
theorem dJ0_charAt_5068e_1 : decode cJ0_charAt_5068e 1 = .ok (.invokevirtual 492, 3) := by decide +kernel
theorem dJ0_charAt_5068e_4 : decode cJ0_charAt_5068e 4 = .ok (.ifCond .eq 12, 3) := by decide +kernel
theorem dJ0_charAt_5068e_7 : decode cJ0_charAt_5068e 7 = .ok (.aload_n 0, 1) := by decide +kernel
theorem dJ0_charAt_5068e_8 : decode cJ0_charAt_5068e 8 = .ok (.getfield 9, 3) := by decide +kernel
theorem dJ0_charAt_5068e_11 : decode cJ0_charAt_5068e 11 = .ok (.iload_n 1, 1) := by decide +kernel
theorem dJ0_charAt_5068e_12 : decode cJ0_charAt_5068e 12 = .ok (.invokestatic 495, 3) := by decide +kernel
theorem dJ0_charAt_5068e_15 : decode cJ0_charAt_5068e 15 = .ok (.ireturn, 1) := by decide +kernel
theorem dJ0_charAt_5068e_16 : decode cJ0_charAt_5068e 16 = .ok (.aload_n 0, 1) := by decide +kernel
theorem dJ0_charAt_5068e_17 : decode cJ0_charAt_5068e 17 = .ok (.getfield 9, 3) := by decide +kernel
theorem dJ0_charAt_5068e_20 : decode cJ0_charAt_5068e 20 = .ok (.iload_n 1, 1) := by decide +kernel
theorem dJ0_charAt_5068e_21 : decode cJ0_charAt_5068e 21 = .ok (.invokestatic 498, 3) := by decide +kernel
theorem dJ0_charAt_5068e_24 : decode cJ0_charAt_5068e 24 = .ok (.ireturn, 1) := by decide +kernel
theorem dJ0_coder_7d493_0 : decode cJ0_coder_7d493 0 = .ok (.getstatic 38, 3) := by decide +kernel
theorem dJ0_coder_7d493_3 : decode cJ0_coder_7d493 3 = .ok (.ifCond .eq 10, 3) := by decide +kernel
theorem dJ0_coder_7d493_6 : decode cJ0_coder_7d493 6 = .ok (.aload_n 0, 1) := by decide +kernel
theorem dJ0_coder_7d493_7 : decode cJ0_coder_7d493 7 = .ok (.getfield 15, 3) := by decide +kernel
theorem dJ0_coder_7d493_10 : decode cJ0_coder_7d493 10 = .ok (.goto 4, 3) := by decide +kernel
theorem dJ0_coder_7d493_13 : decode cJ0_coder_7d493 13 = .ok (.iconst 1, 1) := by decide +kernel
theorem dJ0_coder_7d493_14 : decode cJ0_coder_7d493 14 = .ok (.ireturn, 1) := by decide +kernel
theorem dJ0_isLatin1_aae02_0 : decode cJ0_isLatin1_aae02 0 = .ok (.getstatic 38, 3) := by decide +kernel
theorem dJ0_isLatin1_aae02_3 : decode cJ0_isLatin1_aae02 3 = .ok (.ifCond .eq 14, 3) := by decide +kernel
theorem dJ0_isLatin1_aae02_6 : decode cJ0_isLatin1_aae02 6 = .ok (.aload_n 0, 1) := by decide +kernel
theorem dJ0_isLatin1_aae02_7 : decode cJ0_isLatin1_aae02 7 = .ok (.getfield 15, 3) := by decide +kernel
theorem dJ0_isLatin1_aae02_10 : decode cJ0_isLatin1_aae02 10 = .ok (.ifCond .ne 7, 3) := by decide +kernel
theorem dJ0_isLatin1_aae02_13 : decode cJ0_isLatin1_aae02 13 = .ok (.iconst 1, 1) := by decide +kernel
theorem dJ0_isLatin1_aae02_14 : decode cJ0_isLatin1_aae02 14 = .ok (.goto 4, 3) := by decide +kernel
theorem dJ0_isLatin1_aae02_17 : decode cJ0_isLatin1_aae02 17 = .ok (.iconst 0, 1) := by decide +kernel
theorem dJ0_isLatin1_aae02_18 : decode cJ0_isLatin1_aae02 18 = .ok (.ireturn, 1) := by decide +kernel
theorem dJ0_checkIndex_df160_0 : decode cJ0_checkIndex_df160 0 = .ok (.iload_n 0, 1) := by decide +kernel
theorem dJ0_checkIndex_df160_1 : decode cJ0_checkIndex_df160 1 = .ok (.iload_n 1, 1) := by decide +kernel
theorem dJ0_checkIndex_df160_2 : decode cJ0_checkIndex_df160 2 = .ok (.getstatic 1053, 3) := by decide +kernel
theorem dJ0_checkIndex_df160_5 : decode cJ0_checkIndex_df160 5 = .ok (.invokestatic 1059, 3) := by decide +kernel
theorem dJ0_checkIndex_df160_8 : decode cJ0_checkIndex_df160 8 = .ok (.pop, 1) := by decide +kernel
theorem dJ0_checkIndex_df160_9 : decode cJ0_checkIndex_df160 9 = .ok (.return_, 1) := by decide +kernel
theorem dJ1_charAt_3b067_0 : decode cJ1_charAt_3b067 0 = .ok (.iload_n 1, 1) := by decide +kernel
theorem dJ1_charAt_3b067_1 : decode cJ1_charAt_3b067 1 = .ok (.aload_n 0, 1) := by decide +kernel
theorem dJ1_charAt_3b067_2 : decode cJ1_charAt_3b067 2 = .ok (.arraylength, 1) := by decide +kernel
theorem dJ1_charAt_3b067_3 : decode cJ1_charAt_3b067 3 = .ok (.invokestatic 9, 3) := by decide +kernel
theorem dJ1_charAt_3b067_6 : decode cJ1_charAt_3b067 6 = .ok (.aload_n 0, 1) := by decide +kernel
theorem dJ1_charAt_3b067_7 : decode cJ1_charAt_3b067 7 = .ok (.iload_n 1, 1) := by decide +kernel
theorem dJ1_charAt_3b067_8 : decode cJ1_charAt_3b067 8 = .ok (.baload, 1) := by decide +kernel
theorem dJ1_charAt_3b067_9 : decode cJ1_charAt_3b067 9 = .ok (.sipush 255, 3) := by decide +kernel
theorem dJ1_charAt_3b067_12 : decode cJ1_charAt_3b067 12 = .ok (.iand, 1) := by decide +kernel
theorem dJ1_charAt_3b067_13 : decode cJ1_charAt_3b067 13 = .ok (.i2c, 1) := by decide +kernel
theorem dJ1_charAt_3b067_14 : decode cJ1_charAt_3b067 14 = .ok (.ireturn, 1) := by decide +kernel
theorem dJ2_getChar_3b067_0 : decode cJ2_getChar_3b067 0 = .ok (.getstatic 44, 3) := by decide +kernel
theorem dJ2_getChar_3b067_3 : decode cJ2_getChar_3b067 3 = .ok (.ifCond .ne 25, 3) := by decide +kernel
theorem dJ2_getChar_3b067_6 : decode cJ2_getChar_3b067 6 = .ok (.iload_n 1, 1) := by decide +kernel
theorem dJ2_getChar_3b067_7 : decode cJ2_getChar_3b067 7 = .ok (.ifCond .lt 11, 3) := by decide +kernel
theorem dJ2_getChar_3b067_10 : decode cJ2_getChar_3b067 10 = .ok (.iload_n 1, 1) := by decide +kernel
theorem dJ2_getChar_3b067_11 : decode cJ2_getChar_3b067 11 = .ok (.aload_n 0, 1) := by decide +kernel
theorem dJ2_getChar_3b067_12 : decode cJ2_getChar_3b067 12 = .ok (.invokestatic 48, 3) := by decide +kernel
theorem dJ2_getChar_3b067_15 : decode cJ2_getChar_3b067 15 = .ok (.if_icmp .lt 13, 3) := by decide +kernel
theorem dJ2_getChar_3b067_18 : decode cJ2_getChar_3b067 18 = .ok (.new 52, 3) := by decide +kernel
theorem dJ2_getChar_3b067_21 : decode cJ2_getChar_3b067 21 = .ok (.dup, 1) := by decide +kernel
theorem dJ2_getChar_3b067_22 : decode cJ2_getChar_3b067 22 = .ok (.ldc 54, 2) := by decide +kernel
theorem dJ2_getChar_3b067_24 : decode cJ2_getChar_3b067 24 = .ok (.invokespecial 56, 3) := by decide +kernel
theorem dJ2_getChar_3b067_27 : decode cJ2_getChar_3b067 27 = .ok (.athrow, 1) := by decide +kernel
theorem dJ2_getChar_3b067_28 : decode cJ2_getChar_3b067 28 = .ok (.iload_n 1, 1) := by decide +kernel
theorem dJ2_getChar_3b067_29 : decode cJ2_getChar_3b067 29 = .ok (.iconst 1, 1) := by decide +kernel
theorem dJ2_getChar_3b067_30 : decode cJ2_getChar_3b067 30 = .ok (.ishl, 1) := by decide +kernel
theorem dJ2_getChar_3b067_31 : decode cJ2_getChar_3b067 31 = .ok (.istore_n 1, 1) := by decide +kernel
theorem dJ2_getChar_3b067_32 : decode cJ2_getChar_3b067 32 = .ok (.aload_n 0, 1) := by decide +kernel
theorem dJ2_getChar_3b067_33 : decode cJ2_getChar_3b067 33 = .ok (.iload_n 1, 1) := by decide +kernel
theorem dJ2_getChar_3b067_34 : decode cJ2_getChar_3b067 34 = .ok (.iinc 1 1, 3) := by decide +kernel
theorem dJ2_getChar_3b067_37 : decode cJ2_getChar_3b067 37 = .ok (.baload, 1) := by decide +kernel
theorem dJ2_getChar_3b067_38 : decode cJ2_getChar_3b067 38 = .ok (.sipush 255, 3) := by decide +kernel
theorem dJ2_getChar_3b067_41 : decode cJ2_getChar_3b067 41 = .ok (.iand, 1) := by decide +kernel
theorem dJ2_getChar_3b067_42 : decode cJ2_getChar_3b067 42 = .ok (.getstatic 59, 3) := by decide +kernel
theorem dJ2_getChar_3b067_45 : decode cJ2_getChar_3b067 45 = .ok (.ishl, 1) := by decide +kernel
theorem dJ2_getChar_3b067_46 : decode cJ2_getChar_3b067 46 = .ok (.aload_n 0, 1) := by decide +kernel
theorem dJ2_getChar_3b067_47 : decode cJ2_getChar_3b067 47 = .ok (.iload_n 1, 1) := by decide +kernel
theorem dJ2_getChar_3b067_48 : decode cJ2_getChar_3b067 48 = .ok (.baload, 1) := by decide +kernel
theorem dJ2_getChar_3b067_49 : decode cJ2_getChar_3b067 49 = .ok (.sipush 255, 3) := by decide +kernel
theorem dJ2_getChar_3b067_52 : decode cJ2_getChar_3b067 52 = .ok (.iand, 1) := by decide +kernel
theorem dJ2_getChar_3b067_53 : decode cJ2_getChar_3b067 53 = .ok (.getstatic 63, 3) := by decide +kernel
theorem dJ2_getChar_3b067_56 : decode cJ2_getChar_3b067 56 = .ok (.ishl, 1) := by decide +kernel
theorem dJ2_getChar_3b067_57 : decode cJ2_getChar_3b067 57 = .ok (.ior, 1) := by decide +kernel
theorem dJ2_getChar_3b067_58 : decode cJ2_getChar_3b067 58 = .ok (.i2c, 1) := by decide +kernel
theorem dJ2_getChar_3b067_59 : decode cJ2_getChar_3b067 59 = .ok (.ireturn, 1) := by decide +kernel
theorem dJ2_length_9d52b_0 : decode cJ2_length_9d52b 0 = .ok (.aload_n 0, 1) := by decide +kernel
theorem dJ2_length_9d52b_1 : decode cJ2_length_9d52b 1 = .ok (.arraylength, 1) := by decide +kernel
theorem dJ2_length_9d52b_2 : decode cJ2_length_9d52b 2 = .ok (.iconst 1, 1) := by decide +kernel
theorem dJ2_length_9d52b_3 : decode cJ2_length_9d52b 3 = .ok (.ishr, 1) := by decide +kernel
theorem dJ2_length_9d52b_4 : decode cJ2_length_9d52b 4 = .ok (.ireturn, 1) := by decide +kernel
theorem dJ2_charAt_3b067_0 : decode cJ2_charAt_3b067 0 = .ok (.iload_n 1, 1) := by decide +kernel
theorem dJ2_charAt_3b067_1 : decode cJ2_charAt_3b067 1 = .ok (.aload_n 0, 1) := by decide +kernel
theorem dJ2_charAt_3b067_2 : decode cJ2_charAt_3b067 2 = .ok (.invokestatic 67, 3) := by decide +kernel
theorem dJ2_charAt_3b067_5 : decode cJ2_charAt_3b067 5 = .ok (.aload_n 0, 1) := by decide +kernel
theorem dJ2_charAt_3b067_6 : decode cJ2_charAt_3b067 6 = .ok (.iload_n 1, 1) := by decide +kernel
theorem dJ2_charAt_3b067_7 : decode cJ2_charAt_3b067 7 = .ok (.invokestatic 71, 3) := by decide +kernel
theorem dJ2_charAt_3b067_10 : decode cJ2_charAt_3b067 10 = .ok (.ireturn, 1) := by decide +kernel
theorem dJ2_checkIndex_2214a_0 : decode cJ2_checkIndex_2214a 0 = .ok (.iload_n 0, 1) := by decide +kernel
theorem dJ2_checkIndex_2214a_1 : decode cJ2_checkIndex_2214a 1 = .ok (.aload_n 1, 1) := by decide +kernel
theorem dJ2_checkIndex_2214a_2 : decode cJ2_checkIndex_2214a 2 = .ok (.invokestatic 48, 3) := by decide +kernel
theorem dJ2_checkIndex_2214a_5 : decode cJ2_checkIndex_2214a 5 = .ok (.invokestatic 414, 3) := by decide +kernel
theorem dJ2_checkIndex_2214a_8 : decode cJ2_checkIndex_2214a 8 = .ok (.return_, 1) := by decide +kernel
theorem dJ7_fill_d0a16_0 : decode cJ7_fill_d0a16 0 = .ok (.iconst 0, 1) := by decide +kernel
theorem dJ7_fill_d0a16_1 : decode cJ7_fill_d0a16 1 = .ok (.istore_n 3, 1) := by decide +kernel
theorem dJ7_fill_d0a16_2 : decode cJ7_fill_d0a16 2 = .ok (.aload_n 0, 1) := by decide +kernel
theorem dJ7_fill_d0a16_3 : decode cJ7_fill_d0a16 3 = .ok (.arraylength, 1) := by decide +kernel
theorem dJ7_fill_d0a16_4 : decode cJ7_fill_d0a16 4 = .ok (.istore 4, 2) := by decide +kernel
theorem dJ7_fill_d0a16_6 : decode cJ7_fill_d0a16 6 = .ok (.iload_n 3, 1) := by decide +kernel
theorem dJ7_fill_d0a16_7 : decode cJ7_fill_d0a16 7 = .ok (.iload 4, 2) := by decide +kernel
theorem dJ7_fill_d0a16_9 : decode cJ7_fill_d0a16 9 = .ok (.if_icmp .ge 13, 3) := by decide +kernel
theorem dJ7_fill_d0a16_12 : decode cJ7_fill_d0a16 12 = .ok (.aload_n 0, 1) := by decide +kernel
theorem dJ7_fill_d0a16_13 : decode cJ7_fill_d0a16 13 = .ok (.iload_n 3, 1) := by decide +kernel
theorem dJ7_fill_d0a16_14 : decode cJ7_fill_d0a16 14 = .ok (.lload_n 1, 1) := by decide +kernel
theorem dJ7_fill_d0a16_15 : decode cJ7_fill_d0a16 15 = .ok (.lastore, 1) := by decide +kernel
theorem dJ7_fill_d0a16_16 : decode cJ7_fill_d0a16 16 = .ok (.iinc 3 1, 3) := by decide +kernel
theorem dJ7_fill_d0a16_19 : decode cJ7_fill_d0a16 19 = .ok (.goto (-13), 3) := by decide +kernel
theorem dJ7_fill_d0a16_22 : decode cJ7_fill_d0a16 22 = .ok (.return_, 1) := by decide +kernel
theorem dJ7_fill_53178_0 : decode cJ7_fill_53178 0 = .ok (.iconst 0, 1) := by decide +kernel
theorem dJ7_fill_53178_1 : decode cJ7_fill_53178 1 = .ok (.istore_n 2, 1) := by decide +kernel
theorem dJ7_fill_53178_2 : decode cJ7_fill_53178 2 = .ok (.aload_n 0, 1) := by decide +kernel
theorem dJ7_fill_53178_3 : decode cJ7_fill_53178 3 = .ok (.arraylength, 1) := by decide +kernel
theorem dJ7_fill_53178_4 : decode cJ7_fill_53178 4 = .ok (.istore_n 3, 1) := by decide +kernel
theorem dJ7_fill_53178_5 : decode cJ7_fill_53178 5 = .ok (.iload_n 2, 1) := by decide +kernel
theorem dJ7_fill_53178_6 : decode cJ7_fill_53178 6 = .ok (.iload_n 3, 1) := by decide +kernel
theorem dJ7_fill_53178_7 : decode cJ7_fill_53178 7 = .ok (.if_icmp .ge 13, 3) := by decide +kernel
theorem dJ7_fill_53178_10 : decode cJ7_fill_53178 10 = .ok (.aload_n 0, 1) := by decide +kernel
theorem dJ7_fill_53178_11 : decode cJ7_fill_53178 11 = .ok (.iload_n 2, 1) := by decide +kernel
theorem dJ7_fill_53178_12 : decode cJ7_fill_53178 12 = .ok (.iload_n 1, 1) := by decide +kernel
theorem dJ7_fill_53178_13 : decode cJ7_fill_53178 13 = .ok (.iastore, 1) := by decide +kernel
theorem dJ7_fill_53178_14 : decode cJ7_fill_53178 14 = .ok (.iinc 2 1, 3) := by decide +kernel
theorem dJ7_fill_53178_17 : decode cJ7_fill_53178 17 = .ok (.goto (-12), 3) := by decide +kernel
theorem dJ7_fill_53178_20 : decode cJ7_fill_53178 20 = .ok (.return_, 1) := by decide +kernel
theorem dJ3_checkIndex_8e157_0 : decode cJ3_checkIndex_8e157 0 = .ok (.iload_n 0, 1) := by decide +kernel
theorem dJ3_checkIndex_8e157_1 : decode cJ3_checkIndex_8e157 1 = .ok (.ifCond .lt 8, 3) := by decide +kernel
theorem dJ3_checkIndex_8e157_4 : decode cJ3_checkIndex_8e157 4 = .ok (.iload_n 0, 1) := by decide +kernel
theorem dJ3_checkIndex_8e157_5 : decode cJ3_checkIndex_8e157 5 = .ok (.iload_n 1, 1) := by decide +kernel
theorem dJ3_checkIndex_8e157_6 : decode cJ3_checkIndex_8e157 6 = .ok (.if_icmp .lt 10, 3) := by decide +kernel
theorem dJ3_checkIndex_8e157_9 : decode cJ3_checkIndex_8e157 9 = .ok (.aload_n 2, 1) := by decide +kernel
theorem dJ3_checkIndex_8e157_10 : decode cJ3_checkIndex_8e157 10 = .ok (.iload_n 0, 1) := by decide +kernel
theorem dJ3_checkIndex_8e157_11 : decode cJ3_checkIndex_8e157 11 = .ok (.iload_n 1, 1) := by decide +kernel
theorem dJ3_checkIndex_8e157_12 : decode cJ3_checkIndex_8e157 12 = .ok (.invokestatic 95, 3) := by decide +kernel
theorem dJ3_checkIndex_8e157_15 : decode cJ3_checkIndex_8e157 15 = .ok (.athrow, 1) := by decide +kernel
theorem dJ3_checkIndex_8e157_16 : decode cJ3_checkIndex_8e157 16 = .ok (.iload_n 0, 1) := by decide +kernel
theorem dJ3_checkIndex_8e157_17 : decode cJ3_checkIndex_8e157 17 = .ok (.ireturn, 1) := by decide +kernel
theorem dL_law_0 : decode cL_law 0 = .ok (.new 7, 3) := by decide +kernel
theorem dL_law_3 : decode cL_law 3 = .ok (.dup, 1) := by decide +kernel
theorem dL_law_4 : decode cL_law 4 = .ok (.invokespecial 9, 3) := by decide +kernel
theorem dL_law_7 : decode cL_law 7 = .ok (.astore_n 1, 1) := by decide +kernel
theorem dL_law_8 : decode cL_law 8 = .ok (.new 10, 3) := by decide +kernel
theorem dL_law_11 : decode cL_law 11 = .ok (.dup, 1) := by decide +kernel
theorem dL_law_12 : decode cL_law 12 = .ok (.invokespecial 12, 3) := by decide +kernel
theorem dL_law_15 : decode cL_law 15 = .ok (.astore_n 2, 1) := by decide +kernel
theorem dL_law_16 : decode cL_law 16 = .ok (.iconst 0, 1) := by decide +kernel
theorem dL_law_17 : decode cL_law 17 = .ok (.istore_n 3, 1) := by decide +kernel
theorem dL_law_18 : decode cL_law 18 = .ok (.iload_n 3, 1) := by decide +kernel
theorem dL_law_19 : decode cL_law 19 = .ok (.aload_n 0, 1) := by decide +kernel
theorem dL_law_20 : decode cL_law 20 = .ok (.arraylength, 1) := by decide +kernel
theorem dL_law_21 : decode cL_law 21 = .ok (.iconst 5, 1) := by decide +kernel
theorem dL_law_22 : decode cL_law 22 = .ok (.isub, 1) := by decide +kernel
theorem dL_law_23 : decode cL_law 23 = .ok (.if_icmp .gt 700, 3) := by decide +kernel
theorem dL_law_26 : decode cL_law 26 = .ok (.aload_n 0, 1) := by decide +kernel
theorem dL_law_27 : decode cL_law 27 = .ok (.iload_n 3, 1) := by decide +kernel
theorem dL_law_28 : decode cL_law 28 = .ok (.iaload, 1) := by decide +kernel
theorem dL_law_29 : decode cL_law 29 = .ok (.bipush 31, 2) := by decide +kernel
theorem dL_law_31 : decode cL_law 31 = .ok (.iand, 1) := by decide +kernel
theorem dL_law_32 : decode cL_law 32 = .ok (.tableswitch 685 0 26 #[124, 147, 160, 173, 196, 219, 242, 255, 268, 291, 324, 357, 390, 403, 416, 429, 442, 475, 528, 541, 554, 567, 590, 613, 626, 639, 662], 124) := by decide +kernel
theorem dL_law_156 : decode cL_law 156 = .ok (.aload_n 1, 1) := by decide +kernel
theorem dL_law_157 : decode cL_law 157 = .ok (.aload_n 0, 1) := by decide +kernel
theorem dL_law_158 : decode cL_law 158 = .ok (.iload_n 3, 1) := by decide +kernel
theorem dL_law_159 : decode cL_law 159 = .ok (.iconst 1, 1) := by decide +kernel
theorem dL_law_160 : decode cL_law 160 = .ok (.iadd, 1) := by decide +kernel
theorem dL_law_161 : decode cL_law 161 = .ok (.iaload, 1) := by decide +kernel
theorem dL_law_162 : decode cL_law 162 = .ok (.invokevirtual 13, 3) := by decide +kernel
theorem dL_law_165 : decode cL_law 165 = .ok (.aload_n 2, 1) := by decide +kernel
theorem dL_law_166 : decode cL_law 166 = .ok (.aload_n 0, 1) := by decide +kernel
theorem dL_law_167 : decode cL_law 167 = .ok (.iload_n 3, 1) := by decide +kernel
theorem dL_law_168 : decode cL_law 168 = .ok (.iconst 1, 1) := by decide +kernel
theorem dL_law_169 : decode cL_law 169 = .ok (.iadd, 1) := by decide +kernel
theorem dL_law_170 : decode cL_law 170 = .ok (.iaload, 1) := by decide +kernel
theorem dL_law_171 : decode cL_law 171 = .ok (.invokevirtual 17, 3) := by decide +kernel
theorem dL_law_174 : decode cL_law 174 = .ok (.if_icmp .eq 543, 3) := by decide +kernel
theorem dL_law_177 : decode cL_law 177 = .ok (.iconst 0, 1) := by decide +kernel
theorem dL_law_178 : decode cL_law 178 = .ok (.ireturn, 1) := by decide +kernel
theorem dL_law_179 : decode cL_law 179 = .ok (.aload_n 1, 1) := by decide +kernel
theorem dL_law_180 : decode cL_law 180 = .ok (.invokevirtual 18, 3) := by decide +kernel
theorem dL_law_183 : decode cL_law 183 = .ok (.aload_n 2, 1) := by decide +kernel
theorem dL_law_184 : decode cL_law 184 = .ok (.invokevirtual 22, 3) := by decide +kernel
theorem dL_law_187 : decode cL_law 187 = .ok (.if_icmp .eq 530, 3) := by decide +kernel
theorem dL_law_190 : decode cL_law 190 = .ok (.iconst 0, 1) := by decide +kernel
theorem dL_law_191 : decode cL_law 191 = .ok (.ireturn, 1) := by decide +kernel
theorem dL_law_192 : decode cL_law 192 = .ok (.aload_n 1, 1) := by decide +kernel
theorem dL_law_193 : decode cL_law 193 = .ok (.invokevirtual 23, 3) := by decide +kernel
theorem dL_law_196 : decode cL_law 196 = .ok (.aload_n 2, 1) := by decide +kernel
theorem dL_law_197 : decode cL_law 197 = .ok (.invokevirtual 26, 3) := by decide +kernel
theorem dL_law_200 : decode cL_law 200 = .ok (.if_icmp .eq 517, 3) := by decide +kernel
theorem dL_law_203 : decode cL_law 203 = .ok (.iconst 0, 1) := by decide +kernel
theorem dL_law_204 : decode cL_law 204 = .ok (.ireturn, 1) := by decide +kernel
theorem dL_law_205 : decode cL_law 205 = .ok (.aload_n 1, 1) := by decide +kernel
theorem dL_law_206 : decode cL_law 206 = .ok (.aload_n 0, 1) := by decide +kernel
theorem dL_law_207 : decode cL_law 207 = .ok (.iload_n 3, 1) := by decide +kernel
theorem dL_law_208 : decode cL_law 208 = .ok (.iconst 1, 1) := by decide +kernel
theorem dL_law_209 : decode cL_law 209 = .ok (.iadd, 1) := by decide +kernel
theorem dL_law_210 : decode cL_law 210 = .ok (.iaload, 1) := by decide +kernel
theorem dL_law_211 : decode cL_law 211 = .ok (.invokevirtual 27, 3) := by decide +kernel
theorem dL_law_214 : decode cL_law 214 = .ok (.aload_n 2, 1) := by decide +kernel
theorem dL_law_215 : decode cL_law 215 = .ok (.aload_n 0, 1) := by decide +kernel
theorem dL_law_216 : decode cL_law 216 = .ok (.iload_n 3, 1) := by decide +kernel
theorem dL_law_217 : decode cL_law 217 = .ok (.iconst 1, 1) := by decide +kernel
theorem dL_law_218 : decode cL_law 218 = .ok (.iadd, 1) := by decide +kernel
theorem dL_law_219 : decode cL_law 219 = .ok (.iaload, 1) := by decide +kernel
theorem dL_law_220 : decode cL_law 220 = .ok (.invokevirtual 30, 3) := by decide +kernel
theorem dL_law_223 : decode cL_law 223 = .ok (.if_icmp .eq 494, 3) := by decide +kernel
theorem dL_law_226 : decode cL_law 226 = .ok (.iconst 0, 1) := by decide +kernel
theorem dL_law_227 : decode cL_law 227 = .ok (.ireturn, 1) := by decide +kernel
theorem dL_law_228 : decode cL_law 228 = .ok (.aload_n 1, 1) := by decide +kernel
theorem dL_law_229 : decode cL_law 229 = .ok (.aload_n 0, 1) := by decide +kernel
theorem dL_law_230 : decode cL_law 230 = .ok (.iload_n 3, 1) := by decide +kernel
theorem dL_law_231 : decode cL_law 231 = .ok (.iconst 1, 1) := by decide +kernel
theorem dL_law_232 : decode cL_law 232 = .ok (.iadd, 1) := by decide +kernel
theorem dL_law_233 : decode cL_law 233 = .ok (.iaload, 1) := by decide +kernel
theorem dL_law_234 : decode cL_law 234 = .ok (.invokevirtual 31, 3) := by decide +kernel
theorem dL_law_237 : decode cL_law 237 = .ok (.aload_n 2, 1) := by decide +kernel
theorem dL_law_238 : decode cL_law 238 = .ok (.aload_n 0, 1) := by decide +kernel
theorem dL_law_239 : decode cL_law 239 = .ok (.iload_n 3, 1) := by decide +kernel
theorem dL_law_240 : decode cL_law 240 = .ok (.iconst 1, 1) := by decide +kernel
theorem dL_law_241 : decode cL_law 241 = .ok (.iadd, 1) := by decide +kernel
theorem dL_law_242 : decode cL_law 242 = .ok (.iaload, 1) := by decide +kernel
theorem dL_law_243 : decode cL_law 243 = .ok (.invokevirtual 34, 3) := by decide +kernel
theorem dL_law_246 : decode cL_law 246 = .ok (.if_icmp .eq 471, 3) := by decide +kernel
theorem dL_law_249 : decode cL_law 249 = .ok (.iconst 0, 1) := by decide +kernel
theorem dL_law_250 : decode cL_law 250 = .ok (.ireturn, 1) := by decide +kernel
theorem dL_law_251 : decode cL_law 251 = .ok (.aload_n 1, 1) := by decide +kernel
theorem dL_law_252 : decode cL_law 252 = .ok (.aload_n 0, 1) := by decide +kernel
theorem dL_law_253 : decode cL_law 253 = .ok (.iload_n 3, 1) := by decide +kernel
theorem dL_law_254 : decode cL_law 254 = .ok (.iconst 1, 1) := by decide +kernel
theorem dL_law_255 : decode cL_law 255 = .ok (.iadd, 1) := by decide +kernel
theorem dL_law_256 : decode cL_law 256 = .ok (.iaload, 1) := by decide +kernel
theorem dL_law_257 : decode cL_law 257 = .ok (.invokevirtual 35, 3) := by decide +kernel
theorem dL_law_260 : decode cL_law 260 = .ok (.aload_n 2, 1) := by decide +kernel
theorem dL_law_261 : decode cL_law 261 = .ok (.aload_n 0, 1) := by decide +kernel
theorem dL_law_262 : decode cL_law 262 = .ok (.iload_n 3, 1) := by decide +kernel
theorem dL_law_263 : decode cL_law 263 = .ok (.iconst 1, 1) := by decide +kernel
theorem dL_law_264 : decode cL_law 264 = .ok (.iadd, 1) := by decide +kernel
theorem dL_law_265 : decode cL_law 265 = .ok (.iaload, 1) := by decide +kernel
theorem dL_law_266 : decode cL_law 266 = .ok (.invokevirtual 38, 3) := by decide +kernel
theorem dL_law_269 : decode cL_law 269 = .ok (.if_icmp .eq 448, 3) := by decide +kernel
theorem dL_law_272 : decode cL_law 272 = .ok (.iconst 0, 1) := by decide +kernel
theorem dL_law_273 : decode cL_law 273 = .ok (.ireturn, 1) := by decide +kernel
theorem dL_law_274 : decode cL_law 274 = .ok (.aload_n 1, 1) := by decide +kernel
theorem dL_law_275 : decode cL_law 275 = .ok (.invokevirtual 39, 3) := by decide +kernel
theorem dL_law_278 : decode cL_law 278 = .ok (.aload_n 2, 1) := by decide +kernel
theorem dL_law_279 : decode cL_law 279 = .ok (.invokevirtual 42, 3) := by decide +kernel
theorem dL_law_282 : decode cL_law 282 = .ok (.if_icmp .eq 435, 3) := by decide +kernel
theorem dL_law_285 : decode cL_law 285 = .ok (.iconst 0, 1) := by decide +kernel
theorem dL_law_286 : decode cL_law 286 = .ok (.ireturn, 1) := by decide +kernel
theorem dL_law_287 : decode cL_law 287 = .ok (.aload_n 1, 1) := by decide +kernel
theorem dL_law_288 : decode cL_law 288 = .ok (.invokevirtual 43, 3) := by decide +kernel
theorem dL_law_291 : decode cL_law 291 = .ok (.aload_n 2, 1) := by decide +kernel
theorem dL_law_292 : decode cL_law 292 = .ok (.invokevirtual 46, 3) := by decide +kernel
theorem dL_law_295 : decode cL_law 295 = .ok (.if_icmp .eq 422, 3) := by decide +kernel
theorem dL_law_298 : decode cL_law 298 = .ok (.iconst 0, 1) := by decide +kernel
theorem dL_law_299 : decode cL_law 299 = .ok (.ireturn, 1) := by decide +kernel
theorem dL_law_300 : decode cL_law 300 = .ok (.aload_n 1, 1) := by decide +kernel
theorem dL_law_301 : decode cL_law 301 = .ok (.aload_n 0, 1) := by decide +kernel
theorem dL_law_302 : decode cL_law 302 = .ok (.iload_n 3, 1) := by decide +kernel
theorem dL_law_303 : decode cL_law 303 = .ok (.iconst 1, 1) := by decide +kernel
theorem dL_law_304 : decode cL_law 304 = .ok (.iadd, 1) := by decide +kernel
theorem dL_law_305 : decode cL_law 305 = .ok (.iaload, 1) := by decide +kernel
theorem dL_law_306 : decode cL_law 306 = .ok (.invokevirtual 47, 3) := by decide +kernel
theorem dL_law_309 : decode cL_law 309 = .ok (.aload_n 2, 1) := by decide +kernel
theorem dL_law_310 : decode cL_law 310 = .ok (.aload_n 0, 1) := by decide +kernel
theorem dL_law_311 : decode cL_law 311 = .ok (.iload_n 3, 1) := by decide +kernel
theorem dL_law_312 : decode cL_law 312 = .ok (.iconst 1, 1) := by decide +kernel
theorem dL_law_313 : decode cL_law 313 = .ok (.iadd, 1) := by decide +kernel
theorem dL_law_314 : decode cL_law 314 = .ok (.iaload, 1) := by decide +kernel
theorem dL_law_315 : decode cL_law 315 = .ok (.invokevirtual 50, 3) := by decide +kernel
theorem dL_law_318 : decode cL_law 318 = .ok (.if_icmp .eq 399, 3) := by decide +kernel
theorem dL_law_321 : decode cL_law 321 = .ok (.iconst 0, 1) := by decide +kernel
theorem dL_law_322 : decode cL_law 322 = .ok (.ireturn, 1) := by decide +kernel
theorem dL_law_323 : decode cL_law 323 = .ok (.aload_n 1, 1) := by decide +kernel
theorem dL_law_324 : decode cL_law 324 = .ok (.aload_n 0, 1) := by decide +kernel
theorem dL_law_325 : decode cL_law 325 = .ok (.iload_n 3, 1) := by decide +kernel
theorem dL_law_326 : decode cL_law 326 = .ok (.iconst 1, 1) := by decide +kernel
theorem dL_law_327 : decode cL_law 327 = .ok (.iadd, 1) := by decide +kernel
theorem dL_law_328 : decode cL_law 328 = .ok (.iaload, 1) := by decide +kernel
theorem dL_law_329 : decode cL_law 329 = .ok (.aload_n 0, 1) := by decide +kernel
theorem dL_law_330 : decode cL_law 330 = .ok (.iload_n 3, 1) := by decide +kernel
theorem dL_law_331 : decode cL_law 331 = .ok (.iconst 2, 1) := by decide +kernel
theorem dL_law_332 : decode cL_law 332 = .ok (.iadd, 1) := by decide +kernel
theorem dL_law_333 : decode cL_law 333 = .ok (.iaload, 1) := by decide +kernel
theorem dL_law_334 : decode cL_law 334 = .ok (.invokevirtual 51, 3) := by decide +kernel
theorem dL_law_337 : decode cL_law 337 = .ok (.aload_n 2, 1) := by decide +kernel
theorem dL_law_338 : decode cL_law 338 = .ok (.aload_n 0, 1) := by decide +kernel
theorem dL_law_339 : decode cL_law 339 = .ok (.iload_n 3, 1) := by decide +kernel
theorem dL_law_340 : decode cL_law 340 = .ok (.iconst 1, 1) := by decide +kernel
theorem dL_law_341 : decode cL_law 341 = .ok (.iadd, 1) := by decide +kernel
theorem dL_law_342 : decode cL_law 342 = .ok (.iaload, 1) := by decide +kernel
theorem dL_law_343 : decode cL_law 343 = .ok (.aload_n 0, 1) := by decide +kernel
theorem dL_law_344 : decode cL_law 344 = .ok (.iload_n 3, 1) := by decide +kernel
theorem dL_law_345 : decode cL_law 345 = .ok (.iconst 2, 1) := by decide +kernel
theorem dL_law_346 : decode cL_law 346 = .ok (.iadd, 1) := by decide +kernel
theorem dL_law_347 : decode cL_law 347 = .ok (.iaload, 1) := by decide +kernel
theorem dL_law_348 : decode cL_law 348 = .ok (.invokevirtual 55, 3) := by decide +kernel
theorem dL_law_351 : decode cL_law 351 = .ok (.if_icmp .eq 366, 3) := by decide +kernel
theorem dL_law_354 : decode cL_law 354 = .ok (.iconst 0, 1) := by decide +kernel
theorem dL_law_355 : decode cL_law 355 = .ok (.ireturn, 1) := by decide +kernel
theorem dL_law_356 : decode cL_law 356 = .ok (.aload_n 1, 1) := by decide +kernel
theorem dL_law_357 : decode cL_law 357 = .ok (.aload_n 0, 1) := by decide +kernel
theorem dL_law_358 : decode cL_law 358 = .ok (.iload_n 3, 1) := by decide +kernel
theorem dL_law_359 : decode cL_law 359 = .ok (.iconst 1, 1) := by decide +kernel
theorem dL_law_360 : decode cL_law 360 = .ok (.iadd, 1) := by decide +kernel
theorem dL_law_361 : decode cL_law 361 = .ok (.iaload, 1) := by decide +kernel
theorem dL_law_362 : decode cL_law 362 = .ok (.aload_n 0, 1) := by decide +kernel
theorem dL_law_363 : decode cL_law 363 = .ok (.iload_n 3, 1) := by decide +kernel
theorem dL_law_364 : decode cL_law 364 = .ok (.iconst 2, 1) := by decide +kernel
theorem dL_law_365 : decode cL_law 365 = .ok (.iadd, 1) := by decide +kernel
theorem dL_law_366 : decode cL_law 366 = .ok (.iaload, 1) := by decide +kernel
theorem dL_law_367 : decode cL_law 367 = .ok (.invokevirtual 56, 3) := by decide +kernel
theorem dL_law_370 : decode cL_law 370 = .ok (.aload_n 2, 1) := by decide +kernel
theorem dL_law_371 : decode cL_law 371 = .ok (.aload_n 0, 1) := by decide +kernel
theorem dL_law_372 : decode cL_law 372 = .ok (.iload_n 3, 1) := by decide +kernel
theorem dL_law_373 : decode cL_law 373 = .ok (.iconst 1, 1) := by decide +kernel
theorem dL_law_374 : decode cL_law 374 = .ok (.iadd, 1) := by decide +kernel
theorem dL_law_375 : decode cL_law 375 = .ok (.iaload, 1) := by decide +kernel
theorem dL_law_376 : decode cL_law 376 = .ok (.aload_n 0, 1) := by decide +kernel
theorem dL_law_377 : decode cL_law 377 = .ok (.iload_n 3, 1) := by decide +kernel
theorem dL_law_378 : decode cL_law 378 = .ok (.iconst 2, 1) := by decide +kernel
theorem dL_law_379 : decode cL_law 379 = .ok (.iadd, 1) := by decide +kernel
theorem dL_law_380 : decode cL_law 380 = .ok (.iaload, 1) := by decide +kernel
theorem dL_law_381 : decode cL_law 381 = .ok (.invokevirtual 59, 3) := by decide +kernel
theorem dL_law_384 : decode cL_law 384 = .ok (.if_icmp .eq 333, 3) := by decide +kernel
theorem dL_law_387 : decode cL_law 387 = .ok (.iconst 0, 1) := by decide +kernel
theorem dL_law_388 : decode cL_law 388 = .ok (.ireturn, 1) := by decide +kernel
theorem dL_law_389 : decode cL_law 389 = .ok (.aload_n 1, 1) := by decide +kernel
theorem dL_law_390 : decode cL_law 390 = .ok (.aload_n 0, 1) := by decide +kernel
theorem dL_law_391 : decode cL_law 391 = .ok (.iload_n 3, 1) := by decide +kernel
theorem dL_law_392 : decode cL_law 392 = .ok (.iconst 1, 1) := by decide +kernel
theorem dL_law_393 : decode cL_law 393 = .ok (.iadd, 1) := by decide +kernel
theorem dL_law_394 : decode cL_law 394 = .ok (.iaload, 1) := by decide +kernel
theorem dL_law_395 : decode cL_law 395 = .ok (.aload_n 0, 1) := by decide +kernel
theorem dL_law_396 : decode cL_law 396 = .ok (.iload_n 3, 1) := by decide +kernel
theorem dL_law_397 : decode cL_law 397 = .ok (.iconst 2, 1) := by decide +kernel
theorem dL_law_398 : decode cL_law 398 = .ok (.iadd, 1) := by decide +kernel
theorem dL_law_399 : decode cL_law 399 = .ok (.iaload, 1) := by decide +kernel
theorem dL_law_400 : decode cL_law 400 = .ok (.invokevirtual 60, 3) := by decide +kernel
theorem dL_law_403 : decode cL_law 403 = .ok (.aload_n 2, 1) := by decide +kernel
theorem dL_law_404 : decode cL_law 404 = .ok (.aload_n 0, 1) := by decide +kernel
theorem dL_law_405 : decode cL_law 405 = .ok (.iload_n 3, 1) := by decide +kernel
theorem dL_law_406 : decode cL_law 406 = .ok (.iconst 1, 1) := by decide +kernel
theorem dL_law_407 : decode cL_law 407 = .ok (.iadd, 1) := by decide +kernel
theorem dL_law_408 : decode cL_law 408 = .ok (.iaload, 1) := by decide +kernel
theorem dL_law_409 : decode cL_law 409 = .ok (.aload_n 0, 1) := by decide +kernel
theorem dL_law_410 : decode cL_law 410 = .ok (.iload_n 3, 1) := by decide +kernel
theorem dL_law_411 : decode cL_law 411 = .ok (.iconst 2, 1) := by decide +kernel
theorem dL_law_412 : decode cL_law 412 = .ok (.iadd, 1) := by decide +kernel
theorem dL_law_413 : decode cL_law 413 = .ok (.iaload, 1) := by decide +kernel
theorem dL_law_414 : decode cL_law 414 = .ok (.invokevirtual 63, 3) := by decide +kernel
theorem dL_law_417 : decode cL_law 417 = .ok (.if_icmp .eq 300, 3) := by decide +kernel
theorem dL_law_420 : decode cL_law 420 = .ok (.iconst 0, 1) := by decide +kernel
theorem dL_law_421 : decode cL_law 421 = .ok (.ireturn, 1) := by decide +kernel
theorem dL_law_422 : decode cL_law 422 = .ok (.aload_n 1, 1) := by decide +kernel
theorem dL_law_423 : decode cL_law 423 = .ok (.invokevirtual 64, 3) := by decide +kernel
theorem dL_law_426 : decode cL_law 426 = .ok (.aload_n 2, 1) := by decide +kernel
theorem dL_law_427 : decode cL_law 427 = .ok (.invokevirtual 67, 3) := by decide +kernel
theorem dL_law_430 : decode cL_law 430 = .ok (.if_icmp .eq 287, 3) := by decide +kernel
theorem dL_law_433 : decode cL_law 433 = .ok (.iconst 0, 1) := by decide +kernel
theorem dL_law_434 : decode cL_law 434 = .ok (.ireturn, 1) := by decide +kernel
theorem dL_law_435 : decode cL_law 435 = .ok (.aload_n 1, 1) := by decide +kernel
theorem dL_law_436 : decode cL_law 436 = .ok (.invokevirtual 68, 3) := by decide +kernel
theorem dL_law_439 : decode cL_law 439 = .ok (.aload_n 2, 1) := by decide +kernel
theorem dL_law_440 : decode cL_law 440 = .ok (.invokevirtual 71, 3) := by decide +kernel
theorem dL_law_443 : decode cL_law 443 = .ok (.if_icmp .eq 274, 3) := by decide +kernel
theorem dL_law_446 : decode cL_law 446 = .ok (.iconst 0, 1) := by decide +kernel
theorem dL_law_447 : decode cL_law 447 = .ok (.ireturn, 1) := by decide +kernel
theorem dL_law_448 : decode cL_law 448 = .ok (.aload_n 1, 1) := by decide +kernel
theorem dL_law_449 : decode cL_law 449 = .ok (.invokevirtual 72, 3) := by decide +kernel
theorem dL_law_452 : decode cL_law 452 = .ok (.aload_n 2, 1) := by decide +kernel
theorem dL_law_453 : decode cL_law 453 = .ok (.invokevirtual 75, 3) := by decide +kernel
theorem dL_law_456 : decode cL_law 456 = .ok (.if_icmp .eq 261, 3) := by decide +kernel
theorem dL_law_459 : decode cL_law 459 = .ok (.iconst 0, 1) := by decide +kernel
theorem dL_law_460 : decode cL_law 460 = .ok (.ireturn, 1) := by decide +kernel
theorem dL_law_461 : decode cL_law 461 = .ok (.aload_n 1, 1) := by decide +kernel
theorem dL_law_462 : decode cL_law 462 = .ok (.invokevirtual 76, 3) := by decide +kernel
theorem dL_law_465 : decode cL_law 465 = .ok (.aload_n 2, 1) := by decide +kernel
theorem dL_law_466 : decode cL_law 466 = .ok (.invokevirtual 79, 3) := by decide +kernel
theorem dL_law_469 : decode cL_law 469 = .ok (.if_icmp .eq 248, 3) := by decide +kernel
theorem dL_law_472 : decode cL_law 472 = .ok (.iconst 0, 1) := by decide +kernel
theorem dL_law_473 : decode cL_law 473 = .ok (.ireturn, 1) := by decide +kernel
theorem dL_law_474 : decode cL_law 474 = .ok (.aload_n 1, 1) := by decide +kernel
theorem dL_law_475 : decode cL_law 475 = .ok (.aload_n 0, 1) := by decide +kernel
theorem dL_law_476 : decode cL_law 476 = .ok (.iload_n 3, 1) := by decide +kernel
theorem dL_law_477 : decode cL_law 477 = .ok (.iconst 1, 1) := by decide +kernel
theorem dL_law_478 : decode cL_law 478 = .ok (.iadd, 1) := by decide +kernel
theorem dL_law_479 : decode cL_law 479 = .ok (.iaload, 1) := by decide +kernel
theorem dL_law_480 : decode cL_law 480 = .ok (.aload_n 0, 1) := by decide +kernel
theorem dL_law_481 : decode cL_law 481 = .ok (.iload_n 3, 1) := by decide +kernel
theorem dL_law_482 : decode cL_law 482 = .ok (.iconst 2, 1) := by decide +kernel
theorem dL_law_483 : decode cL_law 483 = .ok (.iadd, 1) := by decide +kernel
theorem dL_law_484 : decode cL_law 484 = .ok (.iaload, 1) := by decide +kernel
theorem dL_law_485 : decode cL_law 485 = .ok (.invokevirtual 80, 3) := by decide +kernel
theorem dL_law_488 : decode cL_law 488 = .ok (.aload_n 2, 1) := by decide +kernel
theorem dL_law_489 : decode cL_law 489 = .ok (.aload_n 0, 1) := by decide +kernel
theorem dL_law_490 : decode cL_law 490 = .ok (.iload_n 3, 1) := by decide +kernel
theorem dL_law_491 : decode cL_law 491 = .ok (.iconst 1, 1) := by decide +kernel
theorem dL_law_492 : decode cL_law 492 = .ok (.iadd, 1) := by decide +kernel
theorem dL_law_493 : decode cL_law 493 = .ok (.iaload, 1) := by decide +kernel
theorem dL_law_494 : decode cL_law 494 = .ok (.aload_n 0, 1) := by decide +kernel
theorem dL_law_495 : decode cL_law 495 = .ok (.iload_n 3, 1) := by decide +kernel
theorem dL_law_496 : decode cL_law 496 = .ok (.iconst 2, 1) := by decide +kernel
theorem dL_law_497 : decode cL_law 497 = .ok (.iadd, 1) := by decide +kernel
theorem dL_law_498 : decode cL_law 498 = .ok (.iaload, 1) := by decide +kernel
theorem dL_law_499 : decode cL_law 499 = .ok (.invokevirtual 83, 3) := by decide +kernel
theorem dL_law_502 : decode cL_law 502 = .ok (.if_icmp .eq 215, 3) := by decide +kernel
theorem dL_law_505 : decode cL_law 505 = .ok (.iconst 0, 1) := by decide +kernel
theorem dL_law_506 : decode cL_law 506 = .ok (.ireturn, 1) := by decide +kernel
theorem dL_law_507 : decode cL_law 507 = .ok (.aload_n 1, 1) := by decide +kernel
theorem dL_law_508 : decode cL_law 508 = .ok (.aload_n 0, 1) := by decide +kernel
theorem dL_law_509 : decode cL_law 509 = .ok (.iload_n 3, 1) := by decide +kernel
theorem dL_law_510 : decode cL_law 510 = .ok (.iconst 1, 1) := by decide +kernel
theorem dL_law_511 : decode cL_law 511 = .ok (.iadd, 1) := by decide +kernel
theorem dL_law_512 : decode cL_law 512 = .ok (.iaload, 1) := by decide +kernel
theorem dL_law_513 : decode cL_law 513 = .ok (.aload_n 0, 1) := by decide +kernel
theorem dL_law_514 : decode cL_law 514 = .ok (.iload_n 3, 1) := by decide +kernel
theorem dL_law_515 : decode cL_law 515 = .ok (.iconst 2, 1) := by decide +kernel
theorem dL_law_516 : decode cL_law 516 = .ok (.iadd, 1) := by decide +kernel
theorem dL_law_517 : decode cL_law 517 = .ok (.iaload, 1) := by decide +kernel
theorem dL_law_518 : decode cL_law 518 = .ok (.aload_n 0, 1) := by decide +kernel
theorem dL_law_519 : decode cL_law 519 = .ok (.iload_n 3, 1) := by decide +kernel
theorem dL_law_520 : decode cL_law 520 = .ok (.iconst 3, 1) := by decide +kernel
theorem dL_law_521 : decode cL_law 521 = .ok (.iadd, 1) := by decide +kernel
theorem dL_law_522 : decode cL_law 522 = .ok (.iaload, 1) := by decide +kernel
theorem dL_law_523 : decode cL_law 523 = .ok (.aload_n 0, 1) := by decide +kernel
theorem dL_law_524 : decode cL_law 524 = .ok (.iload_n 3, 1) := by decide +kernel
theorem dL_law_525 : decode cL_law 525 = .ok (.iconst 4, 1) := by decide +kernel
theorem dL_law_526 : decode cL_law 526 = .ok (.iadd, 1) := by decide +kernel
theorem dL_law_527 : decode cL_law 527 = .ok (.iaload, 1) := by decide +kernel
theorem dL_law_528 : decode cL_law 528 = .ok (.invokevirtual 84, 3) := by decide +kernel
theorem dL_law_531 : decode cL_law 531 = .ok (.aload_n 2, 1) := by decide +kernel
theorem dL_law_532 : decode cL_law 532 = .ok (.aload_n 0, 1) := by decide +kernel
theorem dL_law_533 : decode cL_law 533 = .ok (.iload_n 3, 1) := by decide +kernel
theorem dL_law_534 : decode cL_law 534 = .ok (.iconst 1, 1) := by decide +kernel
theorem dL_law_535 : decode cL_law 535 = .ok (.iadd, 1) := by decide +kernel
theorem dL_law_536 : decode cL_law 536 = .ok (.iaload, 1) := by decide +kernel
theorem dL_law_537 : decode cL_law 537 = .ok (.aload_n 0, 1) := by decide +kernel
theorem dL_law_538 : decode cL_law 538 = .ok (.iload_n 3, 1) := by decide +kernel
theorem dL_law_539 : decode cL_law 539 = .ok (.iconst 2, 1) := by decide +kernel
theorem dL_law_540 : decode cL_law 540 = .ok (.iadd, 1) := by decide +kernel
theorem dL_law_541 : decode cL_law 541 = .ok (.iaload, 1) := by decide +kernel
theorem dL_law_542 : decode cL_law 542 = .ok (.aload_n 0, 1) := by decide +kernel
theorem dL_law_543 : decode cL_law 543 = .ok (.iload_n 3, 1) := by decide +kernel
theorem dL_law_544 : decode cL_law 544 = .ok (.iconst 3, 1) := by decide +kernel
theorem dL_law_545 : decode cL_law 545 = .ok (.iadd, 1) := by decide +kernel
theorem dL_law_546 : decode cL_law 546 = .ok (.iaload, 1) := by decide +kernel
theorem dL_law_547 : decode cL_law 547 = .ok (.aload_n 0, 1) := by decide +kernel
theorem dL_law_548 : decode cL_law 548 = .ok (.iload_n 3, 1) := by decide +kernel
theorem dL_law_549 : decode cL_law 549 = .ok (.iconst 4, 1) := by decide +kernel
theorem dL_law_550 : decode cL_law 550 = .ok (.iadd, 1) := by decide +kernel
theorem dL_law_551 : decode cL_law 551 = .ok (.iaload, 1) := by decide +kernel
theorem dL_law_552 : decode cL_law 552 = .ok (.invokevirtual 88, 3) := by decide +kernel
theorem dL_law_555 : decode cL_law 555 = .ok (.if_icmp .eq 162, 3) := by decide +kernel
theorem dL_law_558 : decode cL_law 558 = .ok (.iconst 0, 1) := by decide +kernel
theorem dL_law_559 : decode cL_law 559 = .ok (.ireturn, 1) := by decide +kernel
theorem dL_law_560 : decode cL_law 560 = .ok (.aload_n 1, 1) := by decide +kernel
theorem dL_law_561 : decode cL_law 561 = .ok (.invokevirtual 89, 3) := by decide +kernel
theorem dL_law_564 : decode cL_law 564 = .ok (.aload_n 2, 1) := by decide +kernel
theorem dL_law_565 : decode cL_law 565 = .ok (.invokevirtual 92, 3) := by decide +kernel
theorem dL_law_568 : decode cL_law 568 = .ok (.if_icmp .eq 149, 3) := by decide +kernel
theorem dL_law_571 : decode cL_law 571 = .ok (.iconst 0, 1) := by decide +kernel
theorem dL_law_572 : decode cL_law 572 = .ok (.ireturn, 1) := by decide +kernel
theorem dL_law_573 : decode cL_law 573 = .ok (.aload_n 1, 1) := by decide +kernel
theorem dL_law_574 : decode cL_law 574 = .ok (.invokevirtual 93, 3) := by decide +kernel
theorem dL_law_577 : decode cL_law 577 = .ok (.aload_n 2, 1) := by decide +kernel
theorem dL_law_578 : decode cL_law 578 = .ok (.invokevirtual 96, 3) := by decide +kernel
theorem dL_law_581 : decode cL_law 581 = .ok (.if_icmp .eq 136, 3) := by decide +kernel
theorem dL_law_584 : decode cL_law 584 = .ok (.iconst 0, 1) := by decide +kernel
theorem dL_law_585 : decode cL_law 585 = .ok (.ireturn, 1) := by decide +kernel
theorem dL_law_586 : decode cL_law 586 = .ok (.aload_n 1, 1) := by decide +kernel
theorem dL_law_587 : decode cL_law 587 = .ok (.invokevirtual 97, 3) := by decide +kernel
theorem dL_law_590 : decode cL_law 590 = .ok (.aload_n 2, 1) := by decide +kernel
theorem dL_law_591 : decode cL_law 591 = .ok (.invokevirtual 100, 3) := by decide +kernel
theorem dL_law_594 : decode cL_law 594 = .ok (.if_icmp .eq 123, 3) := by decide +kernel
theorem dL_law_597 : decode cL_law 597 = .ok (.iconst 0, 1) := by decide +kernel
theorem dL_law_598 : decode cL_law 598 = .ok (.ireturn, 1) := by decide +kernel
theorem dL_law_599 : decode cL_law 599 = .ok (.aload_n 1, 1) := by decide +kernel
theorem dL_law_600 : decode cL_law 600 = .ok (.aload_n 0, 1) := by decide +kernel
theorem dL_law_601 : decode cL_law 601 = .ok (.iload_n 3, 1) := by decide +kernel
theorem dL_law_602 : decode cL_law 602 = .ok (.iconst 1, 1) := by decide +kernel
theorem dL_law_603 : decode cL_law 603 = .ok (.iadd, 1) := by decide +kernel
theorem dL_law_604 : decode cL_law 604 = .ok (.iaload, 1) := by decide +kernel
theorem dL_law_605 : decode cL_law 605 = .ok (.invokevirtual 101, 3) := by decide +kernel
theorem dL_law_608 : decode cL_law 608 = .ok (.aload_n 2, 1) := by decide +kernel
theorem dL_law_609 : decode cL_law 609 = .ok (.aload_n 0, 1) := by decide +kernel
theorem dL_law_610 : decode cL_law 610 = .ok (.iload_n 3, 1) := by decide +kernel
theorem dL_law_611 : decode cL_law 611 = .ok (.iconst 1, 1) := by decide +kernel
theorem dL_law_612 : decode cL_law 612 = .ok (.iadd, 1) := by decide +kernel
theorem dL_law_613 : decode cL_law 613 = .ok (.iaload, 1) := by decide +kernel
theorem dL_law_614 : decode cL_law 614 = .ok (.invokevirtual 104, 3) := by decide +kernel
theorem dL_law_617 : decode cL_law 617 = .ok (.if_icmp .eq 100, 3) := by decide +kernel
theorem dL_law_620 : decode cL_law 620 = .ok (.iconst 0, 1) := by decide +kernel
theorem dL_law_621 : decode cL_law 621 = .ok (.ireturn, 1) := by decide +kernel
theorem dL_law_622 : decode cL_law 622 = .ok (.aload_n 1, 1) := by decide +kernel
theorem dL_law_623 : decode cL_law 623 = .ok (.aload_n 0, 1) := by decide +kernel
theorem dL_law_624 : decode cL_law 624 = .ok (.iload_n 3, 1) := by decide +kernel
theorem dL_law_625 : decode cL_law 625 = .ok (.iconst 1, 1) := by decide +kernel
theorem dL_law_626 : decode cL_law 626 = .ok (.iadd, 1) := by decide +kernel
theorem dL_law_627 : decode cL_law 627 = .ok (.iaload, 1) := by decide +kernel
theorem dL_law_628 : decode cL_law 628 = .ok (.invokevirtual 105, 3) := by decide +kernel
theorem dL_law_631 : decode cL_law 631 = .ok (.aload_n 2, 1) := by decide +kernel
theorem dL_law_632 : decode cL_law 632 = .ok (.aload_n 0, 1) := by decide +kernel
theorem dL_law_633 : decode cL_law 633 = .ok (.iload_n 3, 1) := by decide +kernel
theorem dL_law_634 : decode cL_law 634 = .ok (.iconst 1, 1) := by decide +kernel
theorem dL_law_635 : decode cL_law 635 = .ok (.iadd, 1) := by decide +kernel
theorem dL_law_636 : decode cL_law 636 = .ok (.iaload, 1) := by decide +kernel
theorem dL_law_637 : decode cL_law 637 = .ok (.invokevirtual 108, 3) := by decide +kernel
theorem dL_law_640 : decode cL_law 640 = .ok (.if_icmp .eq 77, 3) := by decide +kernel
theorem dL_law_643 : decode cL_law 643 = .ok (.iconst 0, 1) := by decide +kernel
theorem dL_law_644 : decode cL_law 644 = .ok (.ireturn, 1) := by decide +kernel
theorem dL_law_645 : decode cL_law 645 = .ok (.aload_n 1, 1) := by decide +kernel
theorem dL_law_646 : decode cL_law 646 = .ok (.invokevirtual 109, 3) := by decide +kernel
theorem dL_law_649 : decode cL_law 649 = .ok (.aload_n 2, 1) := by decide +kernel
theorem dL_law_650 : decode cL_law 650 = .ok (.invokevirtual 112, 3) := by decide +kernel
theorem dL_law_653 : decode cL_law 653 = .ok (.if_icmp .eq 64, 3) := by decide +kernel
theorem dL_law_656 : decode cL_law 656 = .ok (.iconst 0, 1) := by decide +kernel
theorem dL_law_657 : decode cL_law 657 = .ok (.ireturn, 1) := by decide +kernel
theorem dL_law_658 : decode cL_law 658 = .ok (.aload_n 1, 1) := by decide +kernel
theorem dL_law_659 : decode cL_law 659 = .ok (.invokevirtual 113, 3) := by decide +kernel
theorem dL_law_662 : decode cL_law 662 = .ok (.aload_n 2, 1) := by decide +kernel
theorem dL_law_663 : decode cL_law 663 = .ok (.invokevirtual 116, 3) := by decide +kernel
theorem dL_law_666 : decode cL_law 666 = .ok (.if_icmp .eq 51, 3) := by decide +kernel
theorem dL_law_669 : decode cL_law 669 = .ok (.iconst 0, 1) := by decide +kernel
theorem dL_law_670 : decode cL_law 670 = .ok (.ireturn, 1) := by decide +kernel
theorem dL_law_671 : decode cL_law 671 = .ok (.aload_n 1, 1) := by decide +kernel
theorem dL_law_672 : decode cL_law 672 = .ok (.aload_n 0, 1) := by decide +kernel
theorem dL_law_673 : decode cL_law 673 = .ok (.iload_n 3, 1) := by decide +kernel
theorem dL_law_674 : decode cL_law 674 = .ok (.iconst 1, 1) := by decide +kernel
theorem dL_law_675 : decode cL_law 675 = .ok (.iadd, 1) := by decide +kernel
theorem dL_law_676 : decode cL_law 676 = .ok (.iaload, 1) := by decide +kernel
theorem dL_law_677 : decode cL_law 677 = .ok (.invokevirtual 117, 3) := by decide +kernel
theorem dL_law_680 : decode cL_law 680 = .ok (.aload_n 2, 1) := by decide +kernel
theorem dL_law_681 : decode cL_law 681 = .ok (.aload_n 0, 1) := by decide +kernel
theorem dL_law_682 : decode cL_law 682 = .ok (.iload_n 3, 1) := by decide +kernel
theorem dL_law_683 : decode cL_law 683 = .ok (.iconst 1, 1) := by decide +kernel
theorem dL_law_684 : decode cL_law 684 = .ok (.iadd, 1) := by decide +kernel
theorem dL_law_685 : decode cL_law 685 = .ok (.iaload, 1) := by decide +kernel
theorem dL_law_686 : decode cL_law 686 = .ok (.invokevirtual 120, 3) := by decide +kernel
theorem dL_law_689 : decode cL_law 689 = .ok (.if_icmp .eq 28, 3) := by decide +kernel
theorem dL_law_692 : decode cL_law 692 = .ok (.iconst 0, 1) := by decide +kernel
theorem dL_law_693 : decode cL_law 693 = .ok (.ireturn, 1) := by decide +kernel
theorem dL_law_694 : decode cL_law 694 = .ok (.aload_n 1, 1) := by decide +kernel
theorem dL_law_695 : decode cL_law 695 = .ok (.aload_n 0, 1) := by decide +kernel
theorem dL_law_696 : decode cL_law 696 = .ok (.iload_n 3, 1) := by decide +kernel
theorem dL_law_697 : decode cL_law 697 = .ok (.iconst 1, 1) := by decide +kernel
theorem dL_law_698 : decode cL_law 698 = .ok (.iadd, 1) := by decide +kernel
theorem dL_law_699 : decode cL_law 699 = .ok (.iaload, 1) := by decide +kernel
theorem dL_law_700 : decode cL_law 700 = .ok (.invokevirtual 121, 3) := by decide +kernel
theorem dL_law_703 : decode cL_law 703 = .ok (.aload_n 2, 1) := by decide +kernel
theorem dL_law_704 : decode cL_law 704 = .ok (.aload_n 0, 1) := by decide +kernel
theorem dL_law_705 : decode cL_law 705 = .ok (.iload_n 3, 1) := by decide +kernel
theorem dL_law_706 : decode cL_law 706 = .ok (.iconst 1, 1) := by decide +kernel
theorem dL_law_707 : decode cL_law 707 = .ok (.iadd, 1) := by decide +kernel
theorem dL_law_708 : decode cL_law 708 = .ok (.iaload, 1) := by decide +kernel
theorem dL_law_709 : decode cL_law 709 = .ok (.invokevirtual 124, 3) := by decide +kernel
theorem dL_law_712 : decode cL_law 712 = .ok (.if_icmp .eq 5, 3) := by decide +kernel
theorem dL_law_715 : decode cL_law 715 = .ok (.iconst 0, 1) := by decide +kernel
theorem dL_law_716 : decode cL_law 716 = .ok (.ireturn, 1) := by decide +kernel
theorem dL_law_717 : decode cL_law 717 = .ok (.iinc 3 5, 3) := by decide +kernel
theorem dL_law_720 : decode cL_law 720 = .ok (.goto (-702), 3) := by decide +kernel
theorem dL_law_723 : decode cL_law 723 = .ok (.iconst 1, 1) := by decide +kernel
theorem dL_law_724 : decode cL_law 724 = .ok (.ireturn, 1) := by decide +kernel
