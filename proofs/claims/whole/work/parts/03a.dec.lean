theorem dX0_init_0 : decode cX0_init 0 = .ok (.aload_n 0, 1) := by decide +kernel
theorem dX0_init_1 : decode cX0_init 1 = .ok (.invokespecial 3, 3) := by decide +kernel
theorem dX0_init_4 : decode cX0_init 4 = .ok (.aload_n 0, 1) := by decide +kernel
theorem dX0_init_5 : decode cX0_init 5 = .ok (.sipush 128, 3) := by decide +kernel
theorem dX0_init_8 : decode cX0_init 8 = .ok (.newarray .int, 2) := by decide +kernel
theorem dX0_init_10 : decode cX0_init 10 = .ok (.putfield 9, 3) := by decide +kernel
theorem dX0_init_13 : decode cX0_init 13 = .ok (.aload_n 0, 1) := by decide +kernel
theorem dX0_init_14 : decode cX0_init 14 = .ok (.sipush 128, 3) := by decide +kernel
theorem dX0_init_17 : decode cX0_init 17 = .ok (.newarray .int, 2) := by decide +kernel
theorem dX0_init_19 : decode cX0_init 19 = .ok (.putfield 15, 3) := by decide +kernel
theorem dX0_init_22 : decode cX0_init 22 = .ok (.aload_n 0, 1) := by decide +kernel
theorem dX0_init_23 : decode cX0_init 23 = .ok (.invokevirtual 18, 3) := by decide +kernel
theorem dX0_init_26 : decode cX0_init 26 = .ok (.return_, 1) := by decide +kernel
theorem dX0_clear_0 : decode cX0_clear 0 = .ok (.iconst 0, 1) := by decide +kernel
theorem dX0_clear_1 : decode cX0_clear 1 = .ok (.istore_n 1, 1) := by decide +kernel
theorem dX0_clear_2 : decode cX0_clear 2 = .ok (.iload_n 1, 1) := by decide +kernel
theorem dX0_clear_3 : decode cX0_clear 3 = .ok (.sipush 128, 3) := by decide +kernel
theorem dX0_clear_6 : decode cX0_clear 6 = .ok (.if_icmp .ge 16, 3) := by decide +kernel
theorem dX0_clear_9 : decode cX0_clear 9 = .ok (.aload_n 0, 1) := by decide +kernel
theorem dX0_clear_10 : decode cX0_clear 10 = .ok (.getfield 9, 3) := by decide +kernel
theorem dX0_clear_13 : decode cX0_clear 13 = .ok (.iload_n 1, 1) := by decide +kernel
theorem dX0_clear_14 : decode cX0_clear 14 = .ok (.iload_n 1, 1) := by decide +kernel
theorem dX0_clear_15 : decode cX0_clear 15 = .ok (.iastore, 1) := by decide +kernel
theorem dX0_clear_16 : decode cX0_clear 16 = .ok (.iinc 1 1, 3) := by decide +kernel
theorem dX0_clear_19 : decode cX0_clear 19 = .ok (.goto (-17), 3) := by decide +kernel
theorem dX0_clear_22 : decode cX0_clear 22 = .ok (.aload_n 0, 1) := by decide +kernel
theorem dX0_clear_23 : decode cX0_clear 23 = .ok (.getfield 15, 3) := by decide +kernel
theorem dX0_clear_26 : decode cX0_clear 26 = .ok (.iconst (-1), 1) := by decide +kernel
theorem dX0_clear_27 : decode cX0_clear 27 = .ok (.invokestatic 21, 3) := by decide +kernel
theorem dX0_clear_30 : decode cX0_clear 30 = .ok (.aload_n 0, 1) := by decide +kernel
theorem dX0_clear_31 : decode cX0_clear 31 = .ok (.iconst 1, 1) := by decide +kernel
theorem dX0_clear_32 : decode cX0_clear 32 = .ok (.putfield 27, 3) := by decide +kernel
theorem dX0_clear_35 : decode cX0_clear 35 = .ok (.return_, 1) := by decide +kernel
theorem dX0_agree_0 : decode cX0_agree 0 = .ok (.aload_n 0, 1) := by decide +kernel
theorem dX0_agree_1 : decode cX0_agree 1 = .ok (.getfield 27, 3) := by decide +kernel
theorem dX0_agree_4 : decode cX0_agree 4 = .ok (.ireturn, 1) := by decide +kernel
theorem dX0_rootOf_0 : decode cX0_rootOf 0 = .ok (.iload_n 1, 1) := by decide +kernel
theorem dX0_rootOf_1 : decode cX0_rootOf 1 = .ok (.istore_n 2, 1) := by decide +kernel
theorem dX0_rootOf_2 : decode cX0_rootOf 2 = .ok (.iconst 0, 1) := by decide +kernel
theorem dX0_rootOf_3 : decode cX0_rootOf 3 = .ok (.istore_n 3, 1) := by decide +kernel
theorem dX0_rootOf_4 : decode cX0_rootOf 4 = .ok (.iload_n 3, 1) := by decide +kernel
theorem dX0_rootOf_5 : decode cX0_rootOf 5 = .ok (.sipush 128, 3) := by decide +kernel
theorem dX0_rootOf_8 : decode cX0_rootOf 8 = .ok (.if_icmp .ge 43, 3) := by decide +kernel
theorem dX0_rootOf_11 : decode cX0_rootOf 11 = .ok (.aload_n 0, 1) := by decide +kernel
theorem dX0_rootOf_12 : decode cX0_rootOf 12 = .ok (.getfield 9, 3) := by decide +kernel
theorem dX0_rootOf_15 : decode cX0_rootOf 15 = .ok (.iload_n 2, 1) := by decide +kernel
theorem dX0_rootOf_16 : decode cX0_rootOf 16 = .ok (.iaload, 1) := by decide +kernel
theorem dX0_rootOf_17 : decode cX0_rootOf 17 = .ok (.iload_n 2, 1) := by decide +kernel
theorem dX0_rootOf_18 : decode cX0_rootOf 18 = .ok (.if_icmp .eq 33, 3) := by decide +kernel
theorem dX0_rootOf_21 : decode cX0_rootOf 21 = .ok (.aload_n 0, 1) := by decide +kernel
theorem dX0_rootOf_22 : decode cX0_rootOf 22 = .ok (.getfield 9, 3) := by decide +kernel
theorem dX0_rootOf_25 : decode cX0_rootOf 25 = .ok (.iload_n 2, 1) := by decide +kernel
theorem dX0_rootOf_26 : decode cX0_rootOf 26 = .ok (.aload_n 0, 1) := by decide +kernel
theorem dX0_rootOf_27 : decode cX0_rootOf 27 = .ok (.getfield 9, 3) := by decide +kernel
theorem dX0_rootOf_30 : decode cX0_rootOf 30 = .ok (.aload_n 0, 1) := by decide +kernel
theorem dX0_rootOf_31 : decode cX0_rootOf 31 = .ok (.getfield 9, 3) := by decide +kernel
theorem dX0_rootOf_34 : decode cX0_rootOf 34 = .ok (.iload_n 2, 1) := by decide +kernel
theorem dX0_rootOf_35 : decode cX0_rootOf 35 = .ok (.iaload, 1) := by decide +kernel
theorem dX0_rootOf_36 : decode cX0_rootOf 36 = .ok (.iaload, 1) := by decide +kernel
theorem dX0_rootOf_37 : decode cX0_rootOf 37 = .ok (.iastore, 1) := by decide +kernel
theorem dX0_rootOf_38 : decode cX0_rootOf 38 = .ok (.aload_n 0, 1) := by decide +kernel
theorem dX0_rootOf_39 : decode cX0_rootOf 39 = .ok (.getfield 9, 3) := by decide +kernel
theorem dX0_rootOf_42 : decode cX0_rootOf 42 = .ok (.iload_n 2, 1) := by decide +kernel
theorem dX0_rootOf_43 : decode cX0_rootOf 43 = .ok (.iaload, 1) := by decide +kernel
theorem dX0_rootOf_44 : decode cX0_rootOf 44 = .ok (.istore_n 2, 1) := by decide +kernel
theorem dX0_rootOf_45 : decode cX0_rootOf 45 = .ok (.iinc 3 1, 3) := by decide +kernel
theorem dX0_rootOf_48 : decode cX0_rootOf 48 = .ok (.goto (-44), 3) := by decide +kernel
theorem dX0_rootOf_51 : decode cX0_rootOf 51 = .ok (.iload_n 2, 1) := by decide +kernel
theorem dX0_rootOf_52 : decode cX0_rootOf 52 = .ok (.ireturn, 1) := by decide +kernel
theorem dX0_constantOf_0 : decode cX0_constantOf 0 = .ok (.iload_n 1, 1) := by decide +kernel
theorem dX0_constantOf_1 : decode cX0_constantOf 1 = .ok (.invokestatic 31, 3) := by decide +kernel
theorem dX0_constantOf_4 : decode cX0_constantOf 4 = .ok (.ifCond .eq 11, 3) := by decide +kernel
theorem dX0_constantOf_7 : decode cX0_constantOf 7 = .ok (.iload_n 1, 1) := by decide +kernel
theorem dX0_constantOf_8 : decode cX0_constantOf 8 = .ok (.sipush 128, 3) := by decide +kernel
theorem dX0_constantOf_11 : decode cX0_constantOf 11 = .ok (.isub, 1) := by decide +kernel
theorem dX0_constantOf_12 : decode cX0_constantOf 12 = .ok (.goto 13, 3) := by decide +kernel
theorem dX0_constantOf_15 : decode cX0_constantOf 15 = .ok (.aload_n 0, 1) := by decide +kernel
theorem dX0_constantOf_16 : decode cX0_constantOf 16 = .ok (.getfield 15, 3) := by decide +kernel
theorem dX0_constantOf_19 : decode cX0_constantOf 19 = .ok (.aload_n 0, 1) := by decide +kernel
theorem dX0_constantOf_20 : decode cX0_constantOf 20 = .ok (.iload_n 1, 1) := by decide +kernel
theorem dX0_constantOf_21 : decode cX0_constantOf 21 = .ok (.invokevirtual 35, 3) := by decide +kernel
theorem dX0_constantOf_24 : decode cX0_constantOf 24 = .ok (.iaload, 1) := by decide +kernel
theorem dX0_constantOf_25 : decode cX0_constantOf 25 = .ok (.ireturn, 1) := by decide +kernel
theorem dX0_equate_0 : decode cX0_equate 0 = .ok (.iconst 0, 1) := by decide +kernel
theorem dX0_equate_1 : decode cX0_equate 1 = .ok (.istore_n 3, 1) := by decide +kernel
theorem dX0_equate_2 : decode cX0_equate 2 = .ok (.iload_n 3, 1) := by decide +kernel
theorem dX0_equate_3 : decode cX0_equate 3 = .ok (.aload_n 1, 1) := by decide +kernel
theorem dX0_equate_4 : decode cX0_equate 4 = .ok (.iload_n 2, 1) := by decide +kernel
theorem dX0_equate_5 : decode cX0_equate 5 = .ok (.invokevirtual 39, 3) := by decide +kernel
theorem dX0_equate_8 : decode cX0_equate 8 = .ok (.if_icmp .ge 27, 3) := by decide +kernel
theorem dX0_equate_11 : decode cX0_equate 11 = .ok (.aload_n 0, 1) := by decide +kernel
theorem dX0_equate_12 : decode cX0_equate 12 = .ok (.aload_n 1, 1) := by decide +kernel
theorem dX0_equate_13 : decode cX0_equate 13 = .ok (.iload_n 2, 1) := by decide +kernel
theorem dX0_equate_14 : decode cX0_equate 14 = .ok (.iconst 0, 1) := by decide +kernel
theorem dX0_equate_15 : decode cX0_equate 15 = .ok (.iload_n 3, 1) := by decide +kernel
theorem dX0_equate_16 : decode cX0_equate 16 = .ok (.invokevirtual 44, 3) := by decide +kernel
theorem dX0_equate_19 : decode cX0_equate 19 = .ok (.aload_n 1, 1) := by decide +kernel
theorem dX0_equate_20 : decode cX0_equate 20 = .ok (.iload_n 2, 1) := by decide +kernel
theorem dX0_equate_21 : decode cX0_equate 21 = .ok (.iconst 1, 1) := by decide +kernel
theorem dX0_equate_22 : decode cX0_equate 22 = .ok (.iload_n 3, 1) := by decide +kernel
theorem dX0_equate_23 : decode cX0_equate 23 = .ok (.invokevirtual 44, 3) := by decide +kernel
theorem dX0_equate_26 : decode cX0_equate 26 = .ok (.invokevirtual 48, 3) := by decide +kernel
theorem dX0_equate_29 : decode cX0_equate 29 = .ok (.iinc 3 1, 3) := by decide +kernel
theorem dX0_equate_32 : decode cX0_equate 32 = .ok (.goto (-30), 3) := by decide +kernel
theorem dX0_equate_35 : decode cX0_equate 35 = .ok (.return_, 1) := by decide +kernel
theorem dX0_join_0 : decode cX0_join 0 = .ok (.iload_n 1, 1) := by decide +kernel
theorem dX0_join_1 : decode cX0_join 1 = .ok (.invokestatic 31, 3) := by decide +kernel
theorem dX0_join_4 : decode cX0_join 4 = .ok (.ifCond .eq 34, 3) := by decide +kernel
theorem dX0_join_7 : decode cX0_join 7 = .ok (.iload_n 2, 1) := by decide +kernel
theorem dX0_join_8 : decode cX0_join 8 = .ok (.invokestatic 31, 3) := by decide +kernel
theorem dX0_join_11 : decode cX0_join 11 = .ok (.ifCond .eq 27, 3) := by decide +kernel
theorem dX0_join_14 : decode cX0_join 14 = .ok (.aload_n 0, 1) := by decide +kernel
theorem dX0_join_15 : decode cX0_join 15 = .ok (.aload_n 0, 1) := by decide +kernel
theorem dX0_join_16 : decode cX0_join 16 = .ok (.getfield 27, 3) := by decide +kernel
theorem dX0_join_19 : decode cX0_join 19 = .ok (.ifCond .eq 12, 3) := by decide +kernel
theorem dX0_join_22 : decode cX0_join 22 = .ok (.iload_n 1, 1) := by decide +kernel
theorem dX0_join_23 : decode cX0_join 23 = .ok (.iload_n 2, 1) := by decide +kernel
theorem dX0_join_24 : decode cX0_join 24 = .ok (.if_icmp .ne 7, 3) := by decide +kernel
theorem dX0_join_27 : decode cX0_join 27 = .ok (.iconst 1, 1) := by decide +kernel
theorem dX0_join_28 : decode cX0_join 28 = .ok (.goto 4, 3) := by decide +kernel
theorem dX0_join_31 : decode cX0_join 31 = .ok (.iconst 0, 1) := by decide +kernel
theorem dX0_join_32 : decode cX0_join 32 = .ok (.putfield 27, 3) := by decide +kernel
theorem dX0_join_35 : decode cX0_join 35 = .ok (.goto 65, 3) := by decide +kernel
theorem dX0_join_38 : decode cX0_join 38 = .ok (.iload_n 1, 1) := by decide +kernel
theorem dX0_join_39 : decode cX0_join 39 = .ok (.invokestatic 31, 3) := by decide +kernel
theorem dX0_join_42 : decode cX0_join 42 = .ok (.ifCond .eq 20, 3) := by decide +kernel
theorem dX0_join_45 : decode cX0_join 45 = .ok (.aload_n 0, 1) := by decide +kernel
theorem dX0_join_46 : decode cX0_join 46 = .ok (.aload_n 0, 1) := by decide +kernel
theorem dX0_join_47 : decode cX0_join 47 = .ok (.iload_n 2, 1) := by decide +kernel
theorem dX0_join_48 : decode cX0_join 48 = .ok (.invokevirtual 35, 3) := by decide +kernel
theorem dX0_join_51 : decode cX0_join 51 = .ok (.iload_n 1, 1) := by decide +kernel
theorem dX0_join_52 : decode cX0_join 52 = .ok (.sipush 128, 3) := by decide +kernel
theorem dX0_join_55 : decode cX0_join 55 = .ok (.isub, 1) := by decide +kernel
theorem dX0_join_56 : decode cX0_join 56 = .ok (.invokevirtual 52, 3) := by decide +kernel
theorem dX0_join_59 : decode cX0_join 59 = .ok (.goto 41, 3) := by decide +kernel
theorem dX0_join_62 : decode cX0_join 62 = .ok (.iload_n 2, 1) := by decide +kernel
theorem dX0_join_63 : decode cX0_join 63 = .ok (.invokestatic 31, 3) := by decide +kernel
theorem dX0_join_66 : decode cX0_join 66 = .ok (.ifCond .eq 20, 3) := by decide +kernel
theorem dX0_join_69 : decode cX0_join 69 = .ok (.aload_n 0, 1) := by decide +kernel
theorem dX0_join_70 : decode cX0_join 70 = .ok (.aload_n 0, 1) := by decide +kernel
theorem dX0_join_71 : decode cX0_join 71 = .ok (.iload_n 1, 1) := by decide +kernel
theorem dX0_join_72 : decode cX0_join 72 = .ok (.invokevirtual 35, 3) := by decide +kernel
theorem dX0_join_75 : decode cX0_join 75 = .ok (.iload_n 2, 1) := by decide +kernel
theorem dX0_join_76 : decode cX0_join 76 = .ok (.sipush 128, 3) := by decide +kernel
theorem dX0_join_79 : decode cX0_join 79 = .ok (.isub, 1) := by decide +kernel
theorem dX0_join_80 : decode cX0_join 80 = .ok (.invokevirtual 52, 3) := by decide +kernel
theorem dX0_join_83 : decode cX0_join 83 = .ok (.goto 17, 3) := by decide +kernel
theorem dX0_join_86 : decode cX0_join 86 = .ok (.aload_n 0, 1) := by decide +kernel
theorem dX0_join_87 : decode cX0_join 87 = .ok (.aload_n 0, 1) := by decide +kernel
theorem dX0_join_88 : decode cX0_join 88 = .ok (.iload_n 1, 1) := by decide +kernel
theorem dX0_join_89 : decode cX0_join 89 = .ok (.invokevirtual 35, 3) := by decide +kernel
theorem dX0_join_92 : decode cX0_join 92 = .ok (.aload_n 0, 1) := by decide +kernel
theorem dX0_join_93 : decode cX0_join 93 = .ok (.iload_n 2, 1) := by decide +kernel
theorem dX0_join_94 : decode cX0_join 94 = .ok (.invokevirtual 35, 3) := by decide +kernel
theorem dX0_join_97 : decode cX0_join 97 = .ok (.invokevirtual 55, 3) := by decide +kernel
theorem dX0_join_100 : decode cX0_join 100 = .ok (.return_, 1) := by decide +kernel
theorem dX0_fix_0 : decode cX0_fix 0 = .ok (.aload_n 0, 1) := by decide +kernel
theorem dX0_fix_1 : decode cX0_fix 1 = .ok (.getfield 15, 3) := by decide +kernel
theorem dX0_fix_4 : decode cX0_fix 4 = .ok (.iload_n 1, 1) := by decide +kernel
theorem dX0_fix_5 : decode cX0_fix 5 = .ok (.iaload, 1) := by decide +kernel
theorem dX0_fix_6 : decode cX0_fix 6 = .ok (.iconst (-1), 1) := by decide +kernel
theorem dX0_fix_7 : decode cX0_fix 7 = .ok (.if_icmp .ne 13, 3) := by decide +kernel
theorem dX0_fix_10 : decode cX0_fix 10 = .ok (.aload_n 0, 1) := by decide +kernel
theorem dX0_fix_11 : decode cX0_fix 11 = .ok (.getfield 15, 3) := by decide +kernel
theorem dX0_fix_14 : decode cX0_fix 14 = .ok (.iload_n 1, 1) := by decide +kernel
theorem dX0_fix_15 : decode cX0_fix 15 = .ok (.iload_n 2, 1) := by decide +kernel
theorem dX0_fix_16 : decode cX0_fix 16 = .ok (.iastore, 1) := by decide +kernel
theorem dX0_fix_17 : decode cX0_fix 17 = .ok (.goto 23, 3) := by decide +kernel
theorem dX0_fix_20 : decode cX0_fix 20 = .ok (.iload_n 2, 1) := by decide +kernel
theorem dX0_fix_21 : decode cX0_fix 21 = .ok (.iconst (-1), 1) := by decide +kernel
theorem dX0_fix_22 : decode cX0_fix 22 = .ok (.if_icmp .eq 18, 3) := by decide +kernel
theorem dX0_fix_25 : decode cX0_fix 25 = .ok (.aload_n 0, 1) := by decide +kernel
theorem dX0_fix_26 : decode cX0_fix 26 = .ok (.getfield 15, 3) := by decide +kernel
theorem dX0_fix_29 : decode cX0_fix 29 = .ok (.iload_n 1, 1) := by decide +kernel
theorem dX0_fix_30 : decode cX0_fix 30 = .ok (.iaload, 1) := by decide +kernel
theorem dX0_fix_31 : decode cX0_fix 31 = .ok (.iload_n 2, 1) := by decide +kernel
theorem dX0_fix_32 : decode cX0_fix 32 = .ok (.if_icmp .eq 8, 3) := by decide +kernel
theorem dX0_fix_35 : decode cX0_fix 35 = .ok (.aload_n 0, 1) := by decide +kernel
theorem dX0_fix_36 : decode cX0_fix 36 = .ok (.iconst 0, 1) := by decide +kernel
theorem dX0_fix_37 : decode cX0_fix 37 = .ok (.putfield 27, 3) := by decide +kernel
theorem dX0_fix_40 : decode cX0_fix 40 = .ok (.return_, 1) := by decide +kernel
theorem dX0_unite_0 : decode cX0_unite 0 = .ok (.iload_n 1, 1) := by decide +kernel
theorem dX0_unite_1 : decode cX0_unite 1 = .ok (.iload_n 2, 1) := by decide +kernel
theorem dX0_unite_2 : decode cX0_unite 2 = .ok (.invokestatic 58, 3) := by decide +kernel
theorem dX0_unite_5 : decode cX0_unite 5 = .ok (.istore_n 3, 1) := by decide +kernel
theorem dX0_unite_6 : decode cX0_unite 6 = .ok (.iload_n 1, 1) := by decide +kernel
theorem dX0_unite_7 : decode cX0_unite 7 = .ok (.iload_n 2, 1) := by decide +kernel
theorem dX0_unite_8 : decode cX0_unite 8 = .ok (.invokestatic 64, 3) := by decide +kernel
theorem dX0_unite_11 : decode cX0_unite 11 = .ok (.istore 4, 2) := by decide +kernel
theorem dX0_unite_13 : decode cX0_unite 13 = .ok (.iload_n 3, 1) := by decide +kernel
theorem dX0_unite_14 : decode cX0_unite 14 = .ok (.iload 4, 2) := by decide +kernel
theorem dX0_unite_16 : decode cX0_unite 16 = .ok (.if_icmp .eq 23, 3) := by decide +kernel
theorem dX0_unite_19 : decode cX0_unite 19 = .ok (.aload_n 0, 1) := by decide +kernel
theorem dX0_unite_20 : decode cX0_unite 20 = .ok (.getfield 9, 3) := by decide +kernel
theorem dX0_unite_23 : decode cX0_unite 23 = .ok (.iload 4, 2) := by decide +kernel
theorem dX0_unite_25 : decode cX0_unite 25 = .ok (.iload_n 3, 1) := by decide +kernel
theorem dX0_unite_26 : decode cX0_unite 26 = .ok (.iastore, 1) := by decide +kernel
theorem dX0_unite_27 : decode cX0_unite 27 = .ok (.aload_n 0, 1) := by decide +kernel
theorem dX0_unite_28 : decode cX0_unite 28 = .ok (.iload_n 3, 1) := by decide +kernel
theorem dX0_unite_29 : decode cX0_unite 29 = .ok (.aload_n 0, 1) := by decide +kernel
theorem dX0_unite_30 : decode cX0_unite 30 = .ok (.getfield 15, 3) := by decide +kernel
theorem dX0_unite_33 : decode cX0_unite 33 = .ok (.iload 4, 2) := by decide +kernel
theorem dX0_unite_35 : decode cX0_unite 35 = .ok (.iaload, 1) := by decide +kernel
theorem dX0_unite_36 : decode cX0_unite 36 = .ok (.invokevirtual 52, 3) := by decide +kernel
theorem dX0_unite_39 : decode cX0_unite 39 = .ok (.return_, 1) := by decide +kernel
theorem dX1_init_0 : decode cX1_init 0 = .ok (.aload_n 0, 1) := by decide +kernel
theorem dX1_init_1 : decode cX1_init 1 = .ok (.invokespecial 3, 3) := by decide +kernel
theorem dX1_init_4 : decode cX1_init 4 = .ok (.aload_n 0, 1) := by decide +kernel
theorem dX1_init_5 : decode cX1_init 5 = .ok (.bipush 8, 2) := by decide +kernel
theorem dX1_init_7 : decode cX1_init 7 = .ok (.newarray .int, 2) := by decide +kernel
theorem dX1_init_9 : decode cX1_init 9 = .ok (.putfield 9, 3) := by decide +kernel
theorem dX1_init_12 : decode cX1_init 12 = .ok (.return_, 1) := by decide +kernel
theorem dX1_countOf_0 : decode cX1_countOf 0 = .ok (.aload_n 0, 1) := by decide +kernel
theorem dX1_countOf_1 : decode cX1_countOf 1 = .ok (.getfield 9, 3) := by decide +kernel
theorem dX1_countOf_4 : decode cX1_countOf 4 = .ok (.iload_n 1, 1) := by decide +kernel
theorem dX1_countOf_5 : decode cX1_countOf 5 = .ok (.iaload, 1) := by decide +kernel
theorem dX1_countOf_6 : decode cX1_countOf 6 = .ok (.invokestatic 15, 3) := by decide +kernel
theorem dX1_countOf_9 : decode cX1_countOf 9 = .ok (.ireturn, 1) := by decide +kernel
theorem dX1_startOf_0 : decode cX1_startOf 0 = .ok (.iconst 0, 1) := by decide +kernel
theorem dX1_startOf_1 : decode cX1_startOf 1 = .ok (.istore_n 3, 1) := by decide +kernel
theorem dX1_startOf_2 : decode cX1_startOf 2 = .ok (.iconst 1, 1) := by decide +kernel
theorem dX1_startOf_3 : decode cX1_startOf 3 = .ok (.istore 4, 2) := by decide +kernel
theorem dX1_startOf_5 : decode cX1_startOf 5 = .ok (.iload 4, 2) := by decide +kernel
theorem dX1_startOf_7 : decode cX1_startOf 7 = .ok (.bipush 16, 2) := by decide +kernel
theorem dX1_startOf_9 : decode cX1_startOf 9 = .ok (.if_icmp .ge 39, 3) := by decide +kernel
theorem dX1_startOf_12 : decode cX1_startOf 12 = .ok (.iload_n 3, 1) := by decide +kernel
theorem dX1_startOf_13 : decode cX1_startOf 13 = .ok (.iload_n 2, 1) := by decide +kernel
theorem dX1_startOf_14 : decode cX1_startOf 14 = .ok (.if_icmp .ge 34, 3) := by decide +kernel
theorem dX1_startOf_17 : decode cX1_startOf 17 = .ok (.aload_n 0, 1) := by decide +kernel
theorem dX1_startOf_18 : decode cX1_startOf 18 = .ok (.getfield 9, 3) := by decide +kernel
theorem dX1_startOf_21 : decode cX1_startOf 21 = .ok (.iload_n 1, 1) := by decide +kernel
theorem dX1_startOf_22 : decode cX1_startOf 22 = .ok (.iaload, 1) := by decide +kernel
theorem dX1_startOf_23 : decode cX1_startOf 23 = .ok (.iconst 1, 1) := by decide +kernel
theorem dX1_startOf_24 : decode cX1_startOf 24 = .ok (.iload 4, 2) := by decide +kernel
theorem dX1_startOf_26 : decode cX1_startOf 26 = .ok (.ishl, 1) := by decide +kernel
theorem dX1_startOf_27 : decode cX1_startOf 27 = .ok (.iand, 1) := by decide +kernel
theorem dX1_startOf_28 : decode cX1_startOf 28 = .ok (.ifCond .eq 14, 3) := by decide +kernel
theorem dX1_startOf_31 : decode cX1_startOf 31 = .ok (.iinc 3 1, 3) := by decide +kernel
theorem dX1_startOf_34 : decode cX1_startOf 34 = .ok (.iload_n 3, 1) := by decide +kernel
theorem dX1_startOf_35 : decode cX1_startOf 35 = .ok (.iload_n 2, 1) := by decide +kernel
theorem dX1_startOf_36 : decode cX1_startOf 36 = .ok (.if_icmp .ne 6, 3) := by decide +kernel
theorem dX1_startOf_39 : decode cX1_startOf 39 = .ok (.iload 4, 2) := by decide +kernel
theorem dX1_startOf_41 : decode cX1_startOf 41 = .ok (.ireturn, 1) := by decide +kernel
theorem dX1_startOf_42 : decode cX1_startOf 42 = .ok (.iinc 4 1, 3) := by decide +kernel
theorem dX1_startOf_45 : decode cX1_startOf 45 = .ok (.goto (-40), 3) := by decide +kernel
theorem dX1_startOf_48 : decode cX1_startOf 48 = .ok (.iconst 0, 1) := by decide +kernel
theorem dX1_startOf_49 : decode cX1_startOf 49 = .ok (.ireturn, 1) := by decide +kernel
theorem dX1_sliceAt_0 : decode cX1_sliceAt 0 = .ok (.aload_n 0, 1) := by decide +kernel
theorem dX1_sliceAt_1 : decode cX1_sliceAt 1 = .ok (.getfield 9, 3) := by decide +kernel
theorem dX1_sliceAt_4 : decode cX1_sliceAt 4 = .ok (.iload_n 1, 1) := by decide +kernel
theorem dX1_sliceAt_5 : decode cX1_sliceAt 5 = .ok (.iaload, 1) := by decide +kernel
theorem dX1_sliceAt_6 : decode cX1_sliceAt 6 = .ok (.iconst 2, 1) := by decide +kernel
theorem dX1_sliceAt_7 : decode cX1_sliceAt 7 = .ok (.iload_n 2, 1) := by decide +kernel
theorem dX1_sliceAt_8 : decode cX1_sliceAt 8 = .ok (.ishl, 1) := by decide +kernel
theorem dX1_sliceAt_9 : decode cX1_sliceAt 9 = .ok (.iconst 1, 1) := by decide +kernel
theorem dX1_sliceAt_10 : decode cX1_sliceAt 10 = .ok (.isub, 1) := by decide +kernel
theorem dX1_sliceAt_11 : decode cX1_sliceAt 11 = .ok (.iand, 1) := by decide +kernel
theorem dX1_sliceAt_12 : decode cX1_sliceAt 12 = .ok (.istore_n 3, 1) := by decide +kernel
theorem dX1_sliceAt_13 : decode cX1_sliceAt 13 = .ok (.iload_n 3, 1) := by decide +kernel
theorem dX1_sliceAt_14 : decode cX1_sliceAt 14 = .ok (.invokestatic 15, 3) := by decide +kernel
theorem dX1_sliceAt_17 : decode cX1_sliceAt 17 = .ok (.ireturn, 1) := by decide +kernel
theorem dX1_cut_0 : decode cX1_cut 0 = .ok (.aload_n 0, 1) := by decide +kernel
theorem dX1_cut_1 : decode cX1_cut 1 = .ok (.getfield 9, 3) := by decide +kernel
theorem dX1_cut_4 : decode cX1_cut 4 = .ok (.iconst 0, 1) := by decide +kernel
theorem dX1_cut_5 : decode cX1_cut 5 = .ok (.invokestatic 21, 3) := by decide +kernel
theorem dX1_cut_8 : decode cX1_cut 8 = .ok (.iconst 0, 1) := by decide +kernel
theorem dX1_cut_9 : decode cX1_cut 9 = .ok (.istore_n 2, 1) := by decide +kernel
theorem dX1_cut_10 : decode cX1_cut 10 = .ok (.iload_n 2, 1) := by decide +kernel
theorem dX1_cut_11 : decode cX1_cut 11 = .ok (.aload_n 1, 1) := by decide +kernel
theorem dX1_cut_12 : decode cX1_cut 12 = .ok (.getfield 27, 3) := by decide +kernel
theorem dX1_cut_15 : decode cX1_cut 15 = .ok (.invokevirtual 33, 3) := by decide +kernel
theorem dX1_cut_18 : decode cX1_cut 18 = .ok (.if_icmp .ge 23, 3) := by decide +kernel
theorem dX1_cut_21 : decode cX1_cut 21 = .ok (.aload_n 0, 1) := by decide +kernel
theorem dX1_cut_22 : decode cX1_cut 22 = .ok (.aload_n 1, 1) := by decide +kernel
theorem dX1_cut_23 : decode cX1_cut 23 = .ok (.iload_n 2, 1) := by decide +kernel
theorem dX1_cut_24 : decode cX1_cut 24 = .ok (.iconst 0, 1) := by decide +kernel
theorem dX1_cut_25 : decode cX1_cut 25 = .ok (.invokevirtual 39, 3) := by decide +kernel
theorem dX1_cut_28 : decode cX1_cut 28 = .ok (.aload_n 0, 1) := by decide +kernel
theorem dX1_cut_29 : decode cX1_cut 29 = .ok (.aload_n 1, 1) := by decide +kernel
theorem dX1_cut_30 : decode cX1_cut 30 = .ok (.iload_n 2, 1) := by decide +kernel
theorem dX1_cut_31 : decode cX1_cut 31 = .ok (.iconst 1, 1) := by decide +kernel
theorem dX1_cut_32 : decode cX1_cut 32 = .ok (.invokevirtual 39, 3) := by decide +kernel
theorem dX1_cut_35 : decode cX1_cut 35 = .ok (.iinc 2 1, 3) := by decide +kernel
theorem dX1_cut_38 : decode cX1_cut 38 = .ok (.goto (-28), 3) := by decide +kernel
theorem dX1_cut_41 : decode cX1_cut 41 = .ok (.iconst 1, 1) := by decide +kernel
theorem dX1_cut_42 : decode cX1_cut 42 = .ok (.istore_n 2, 1) := by decide +kernel
theorem dX1_cut_43 : decode cX1_cut 43 = .ok (.iconst 0, 1) := by decide +kernel
theorem dX1_cut_44 : decode cX1_cut 44 = .ok (.istore_n 3, 1) := by decide +kernel
theorem dX1_cut_45 : decode cX1_cut 45 = .ok (.iload_n 3, 1) := by decide +kernel
theorem dX1_cut_46 : decode cX1_cut 46 = .ok (.sipush 128, 3) := by decide +kernel
theorem dX1_cut_49 : decode cX1_cut 49 = .ok (.if_icmp .ge 84, 3) := by decide +kernel
theorem dX1_cut_52 : decode cX1_cut 52 = .ok (.iload_n 2, 1) := by decide +kernel
theorem dX1_cut_53 : decode cX1_cut 53 = .ok (.ifCond .eq 80, 3) := by decide +kernel
theorem dX1_cut_56 : decode cX1_cut 56 = .ok (.iconst 0, 1) := by decide +kernel
theorem dX1_cut_57 : decode cX1_cut 57 = .ok (.istore_n 2, 1) := by decide +kernel
theorem dX1_cut_58 : decode cX1_cut 58 = .ok (.iconst 0, 1) := by decide +kernel
theorem dX1_cut_59 : decode cX1_cut 59 = .ok (.istore 4, 2) := by decide +kernel
theorem dX1_cut_61 : decode cX1_cut 61 = .ok (.iload 4, 2) := by decide +kernel
theorem dX1_cut_63 : decode cX1_cut 63 = .ok (.aload_n 1, 1) := by decide +kernel
theorem dX1_cut_64 : decode cX1_cut 64 = .ok (.getfield 27, 3) := by decide +kernel
theorem dX1_cut_67 : decode cX1_cut 67 = .ok (.invokevirtual 33, 3) := by decide +kernel
theorem dX1_cut_70 : decode cX1_cut 70 = .ok (.if_icmp .ge 57, 3) := by decide +kernel
theorem dX1_cut_73 : decode cX1_cut 73 = .ok (.aload_n 0, 1) := by decide +kernel
theorem dX1_cut_74 : decode cX1_cut 74 = .ok (.aload_n 1, 1) := by decide +kernel
theorem dX1_cut_75 : decode cX1_cut 75 = .ok (.getfield 27, 3) := by decide +kernel
theorem dX1_cut_78 : decode cX1_cut 78 = .ok (.iload 4, 2) := by decide +kernel
theorem dX1_cut_80 : decode cX1_cut 80 = .ok (.iconst 1, 1) := by decide +kernel
theorem dX1_cut_81 : decode cX1_cut 81 = .ok (.iconst 0, 1) := by decide +kernel
theorem dX1_cut_82 : decode cX1_cut 82 = .ok (.invokevirtual 43, 3) := by decide +kernel
theorem dX1_cut_85 : decode cX1_cut 85 = .ok (.istore 5, 2) := by decide +kernel
theorem dX1_cut_87 : decode cX1_cut 87 = .ok (.aload_n 0, 1) := by decide +kernel
theorem dX1_cut_88 : decode cX1_cut 88 = .ok (.aload_n 1, 1) := by decide +kernel
theorem dX1_cut_89 : decode cX1_cut 89 = .ok (.getfield 27, 3) := by decide +kernel
theorem dX1_cut_92 : decode cX1_cut 92 = .ok (.iload 4, 2) := by decide +kernel
theorem dX1_cut_94 : decode cX1_cut 94 = .ok (.iconst 0, 1) := by decide +kernel
theorem dX1_cut_95 : decode cX1_cut 95 = .ok (.iconst 1, 1) := by decide +kernel
theorem dX1_cut_96 : decode cX1_cut 96 = .ok (.invokevirtual 43, 3) := by decide +kernel
theorem dX1_cut_99 : decode cX1_cut 99 = .ok (.istore 6, 2) := by decide +kernel
theorem dX1_cut_101 : decode cX1_cut 101 = .ok (.iload_n 2, 1) := by decide +kernel
theorem dX1_cut_102 : decode cX1_cut 102 = .ok (.ifCond .ne 13, 3) := by decide +kernel
theorem dX1_cut_105 : decode cX1_cut 105 = .ok (.iload 5, 2) := by decide +kernel
theorem dX1_cut_107 : decode cX1_cut 107 = .ok (.ifCond .ne 8, 3) := by decide +kernel
theorem dX1_cut_110 : decode cX1_cut 110 = .ok (.iload 6, 2) := by decide +kernel
theorem dX1_cut_112 : decode cX1_cut 112 = .ok (.ifCond .eq 7, 3) := by decide +kernel
theorem dX1_cut_115 : decode cX1_cut 115 = .ok (.iconst 1, 1) := by decide +kernel
theorem dX1_cut_116 : decode cX1_cut 116 = .ok (.goto 4, 3) := by decide +kernel
theorem dX1_cut_119 : decode cX1_cut 119 = .ok (.iconst 0, 1) := by decide +kernel
theorem dX1_cut_120 : decode cX1_cut 120 = .ok (.istore_n 2, 1) := by decide +kernel
theorem dX1_cut_121 : decode cX1_cut 121 = .ok (.iinc 4 1, 3) := by decide +kernel
theorem dX1_cut_124 : decode cX1_cut 124 = .ok (.goto (-63), 3) := by decide +kernel
theorem dX1_cut_127 : decode cX1_cut 127 = .ok (.iinc 3 1, 3) := by decide +kernel
theorem dX1_cut_130 : decode cX1_cut 130 = .ok (.goto (-85), 3) := by decide +kernel
theorem dX1_cut_133 : decode cX1_cut 133 = .ok (.return_, 1) := by decide +kernel
theorem dX1_cutAroundParts_0 : decode cX1_cutAroundParts 0 = .ok (.aload_n 1, 1) := by decide +kernel
theorem dX1_cutAroundParts_1 : decode cX1_cutAroundParts 1 = .ok (.getfield 27, 3) := by decide +kernel
theorem dX1_cutAroundParts_4 : decode cX1_cutAroundParts 4 = .ok (.astore 4, 2) := by decide +kernel
theorem dX1_cutAroundParts_6 : decode cX1_cutAroundParts 6 = .ok (.aload 4, 2) := by decide +kernel
theorem dX1_cutAroundParts_8 : decode cX1_cutAroundParts 8 = .ok (.iload_n 2, 1) := by decide +kernel
theorem dX1_cutAroundParts_9 : decode cX1_cutAroundParts 9 = .ok (.invokevirtual 47, 3) := by decide +kernel
theorem dX1_cutAroundParts_12 : decode cX1_cutAroundParts 12 = .ok (.istore 5, 2) := by decide +kernel
theorem dX1_cutAroundParts_14 : decode cX1_cutAroundParts 14 = .ok (.iconst 0, 1) := by decide +kernel
theorem dX1_cutAroundParts_15 : decode cX1_cutAroundParts 15 = .ok (.istore 6, 2) := by decide +kernel
theorem dX1_cutAroundParts_17 : decode cX1_cutAroundParts 17 = .ok (.iload 6, 2) := by decide +kernel
theorem dX1_cutAroundParts_19 : decode cX1_cutAroundParts 19 = .ok (.iload 5, 2) := by decide +kernel
theorem dX1_cutAroundParts_21 : decode cX1_cutAroundParts 21 = .ok (.if_icmp .ge 103, 3) := by decide +kernel
theorem dX1_cutAroundParts_24 : decode cX1_cutAroundParts 24 = .ok (.aload 4, 2) := by decide +kernel
theorem dX1_cutAroundParts_26 : decode cX1_cutAroundParts 26 = .ok (.iload_n 2, 1) := by decide +kernel
theorem dX1_cutAroundParts_27 : decode cX1_cutAroundParts 27 = .ok (.iload_n 3, 1) := by decide +kernel
theorem dX1_cutAroundParts_28 : decode cX1_cutAroundParts 28 = .ok (.iload 6, 2) := by decide +kernel
theorem dX1_cutAroundParts_30 : decode cX1_cutAroundParts 30 = .ok (.invokevirtual 50, 3) := by decide +kernel
theorem dX1_cutAroundParts_33 : decode cX1_cutAroundParts 33 = .ok (.istore 7, 2) := by decide +kernel
theorem dX1_cutAroundParts_35 : decode cX1_cutAroundParts 35 = .ok (.iload 7, 2) := by decide +kernel
theorem dX1_cutAroundParts_37 : decode cX1_cutAroundParts 37 = .ok (.invokestatic 54, 3) := by decide +kernel
theorem dX1_cutAroundParts_40 : decode cX1_cutAroundParts 40 = .ok (.ifCond .eq 6, 3) := by decide +kernel
theorem dX1_cutAroundParts_43 : decode cX1_cutAroundParts 43 = .ok (.goto 75, 3) := by decide +kernel
theorem dX1_cutAroundParts_46 : decode cX1_cutAroundParts 46 = .ok (.iload 6, 2) := by decide +kernel
theorem dX1_cutAroundParts_48 : decode cX1_cutAroundParts 48 = .ok (.ifCond .eq 15, 3) := by decide +kernel
theorem dX1_cutAroundParts_51 : decode cX1_cutAroundParts 51 = .ok (.aload 4, 2) := by decide +kernel
theorem dX1_cutAroundParts_53 : decode cX1_cutAroundParts 53 = .ok (.iload_n 2, 1) := by decide +kernel
theorem dX1_cutAroundParts_54 : decode cX1_cutAroundParts 54 = .ok (.iload_n 3, 1) := by decide +kernel
theorem dX1_cutAroundParts_55 : decode cX1_cutAroundParts 55 = .ok (.iload 6, 2) := by decide +kernel
theorem dX1_cutAroundParts_57 : decode cX1_cutAroundParts 57 = .ok (.invokevirtual 58, 3) := by decide +kernel
theorem dX1_cutAroundParts_60 : decode cX1_cutAroundParts 60 = .ok (.ifCond .eq 18, 3) := by decide +kernel
theorem dX1_cutAroundParts_63 : decode cX1_cutAroundParts 63 = .ok (.aload_n 0, 1) := by decide +kernel
theorem dX1_cutAroundParts_64 : decode cX1_cutAroundParts 64 = .ok (.aload_n 1, 1) := by decide +kernel
theorem dX1_cutAroundParts_65 : decode cX1_cutAroundParts 65 = .ok (.iload 7, 2) := by decide +kernel
theorem dX1_cutAroundParts_67 : decode cX1_cutAroundParts 67 = .ok (.invokestatic 62, 3) := by decide +kernel
theorem dX1_cutAroundParts_70 : decode cX1_cutAroundParts 70 = .ok (.iload 7, 2) := by decide +kernel
theorem dX1_cutAroundParts_72 : decode cX1_cutAroundParts 72 = .ok (.invokestatic 65, 3) := by decide +kernel
theorem dX1_cutAroundParts_75 : decode cX1_cutAroundParts 75 = .ok (.invokevirtual 68, 3) := by decide +kernel
theorem dX1_cutAroundParts_78 : decode cX1_cutAroundParts 78 = .ok (.iload 6, 2) := by decide +kernel
theorem dX1_cutAroundParts_80 : decode cX1_cutAroundParts 80 = .ok (.iload 5, 2) := by decide +kernel
theorem dX1_cutAroundParts_82 : decode cX1_cutAroundParts 82 = .ok (.iconst 1, 1) := by decide +kernel
theorem dX1_cutAroundParts_83 : decode cX1_cutAroundParts 83 = .ok (.isub, 1) := by decide +kernel
theorem dX1_cutAroundParts_84 : decode cX1_cutAroundParts 84 = .ok (.if_icmp .eq 17, 3) := by decide +kernel
theorem dX1_cutAroundParts_87 : decode cX1_cutAroundParts 87 = .ok (.aload 4, 2) := by decide +kernel
theorem dX1_cutAroundParts_89 : decode cX1_cutAroundParts 89 = .ok (.iload_n 2, 1) := by decide +kernel
theorem dX1_cutAroundParts_90 : decode cX1_cutAroundParts 90 = .ok (.iload_n 3, 1) := by decide +kernel
theorem dX1_cutAroundParts_91 : decode cX1_cutAroundParts 91 = .ok (.iload 6, 2) := by decide +kernel
theorem dX1_cutAroundParts_93 : decode cX1_cutAroundParts 93 = .ok (.iconst 1, 1) := by decide +kernel
theorem dX1_cutAroundParts_94 : decode cX1_cutAroundParts 94 = .ok (.iadd, 1) := by decide +kernel
theorem dX1_cutAroundParts_95 : decode cX1_cutAroundParts 95 = .ok (.invokevirtual 58, 3) := by decide +kernel
theorem dX1_cutAroundParts_98 : decode cX1_cutAroundParts 98 = .ok (.ifCond .eq 20, 3) := by decide +kernel
theorem dX1_cutAroundParts_101 : decode cX1_cutAroundParts 101 = .ok (.aload_n 0, 1) := by decide +kernel
theorem dX1_cutAroundParts_102 : decode cX1_cutAroundParts 102 = .ok (.aload_n 1, 1) := by decide +kernel
theorem dX1_cutAroundParts_103 : decode cX1_cutAroundParts 103 = .ok (.iload 7, 2) := by decide +kernel
theorem dX1_cutAroundParts_105 : decode cX1_cutAroundParts 105 = .ok (.invokestatic 62, 3) := by decide +kernel
theorem dX1_cutAroundParts_108 : decode cX1_cutAroundParts 108 = .ok (.iload 7, 2) := by decide +kernel
theorem dX1_cutAroundParts_110 : decode cX1_cutAroundParts 110 = .ok (.invokestatic 65, 3) := by decide +kernel
theorem dX1_cutAroundParts_113 : decode cX1_cutAroundParts 113 = .ok (.iconst 1, 1) := by decide +kernel
theorem dX1_cutAroundParts_114 : decode cX1_cutAroundParts 114 = .ok (.iadd, 1) := by decide +kernel
theorem dX1_cutAroundParts_115 : decode cX1_cutAroundParts 115 = .ok (.invokevirtual 68, 3) := by decide +kernel
theorem dX1_cutAroundParts_118 : decode cX1_cutAroundParts 118 = .ok (.iinc 6 1, 3) := by decide +kernel
theorem dX1_cutAroundParts_121 : decode cX1_cutAroundParts 121 = .ok (.goto (-104), 3) := by decide +kernel
theorem dX1_cutAroundParts_124 : decode cX1_cutAroundParts 124 = .ok (.return_, 1) := by decide +kernel
theorem dX1_cutBelow_0 : decode cX1_cutBelow 0 = .ok (.iload_n 3, 1) := by decide +kernel
theorem dX1_cutBelow_1 : decode cX1_cutBelow 1 = .ok (.iconst 1, 1) := by decide +kernel
theorem dX1_cutBelow_2 : decode cX1_cutBelow 2 = .ok (.if_icmp .lt 24, 3) := by decide +kernel
theorem dX1_cutBelow_5 : decode cX1_cutBelow 5 = .ok (.iload_n 3, 1) := by decide +kernel
theorem dX1_cutBelow_6 : decode cX1_cutBelow 6 = .ok (.aload_n 1, 1) := by decide +kernel
theorem dX1_cutBelow_7 : decode cX1_cutBelow 7 = .ok (.iload_n 2, 1) := by decide +kernel
theorem dX1_cutBelow_8 : decode cX1_cutBelow 8 = .ok (.invokevirtual 71, 3) := by decide +kernel
theorem dX1_cutBelow_11 : decode cX1_cutBelow 11 = .ok (.if_icmp .ge 15, 3) := by decide +kernel
theorem dX1_cutBelow_14 : decode cX1_cutBelow 14 = .ok (.aload_n 0, 1) := by decide +kernel
theorem dX1_cutBelow_15 : decode cX1_cutBelow 15 = .ok (.getfield 9, 3) := by decide +kernel
theorem dX1_cutBelow_18 : decode cX1_cutBelow 18 = .ok (.iload_n 2, 1) := by decide +kernel
theorem dX1_cutBelow_19 : decode cX1_cutBelow 19 = .ok (.dup2, 1) := by decide +kernel
theorem dX1_cutBelow_20 : decode cX1_cutBelow 20 = .ok (.iaload, 1) := by decide +kernel
theorem dX1_cutBelow_21 : decode cX1_cutBelow 21 = .ok (.iconst 1, 1) := by decide +kernel
theorem dX1_cutBelow_22 : decode cX1_cutBelow 22 = .ok (.iload_n 3, 1) := by decide +kernel
theorem dX1_cutBelow_23 : decode cX1_cutBelow 23 = .ok (.ishl, 1) := by decide +kernel
theorem dX1_cutBelow_24 : decode cX1_cutBelow 24 = .ok (.ior, 1) := by decide +kernel
theorem dX1_cutBelow_25 : decode cX1_cutBelow 25 = .ok (.iastore, 1) := by decide +kernel
theorem dX1_cutBelow_26 : decode cX1_cutBelow 26 = .ok (.return_, 1) := by decide +kernel
theorem dX1_spread_0 : decode cX1_spread 0 = .ok (.iconst 0, 1) := by decide +kernel
theorem dX1_spread_1 : decode cX1_spread 1 = .ok (.istore 5, 2) := by decide +kernel
theorem dX1_spread_3 : decode cX1_spread 3 = .ok (.iconst 1, 1) := by decide +kernel
theorem dX1_spread_4 : decode cX1_spread 4 = .ok (.istore 6, 2) := by decide +kernel
theorem dX1_spread_6 : decode cX1_spread 6 = .ok (.iload 6, 2) := by decide +kernel
theorem dX1_spread_8 : decode cX1_spread 8 = .ok (.aload_n 1, 1) := by decide +kernel
theorem dX1_spread_9 : decode cX1_spread 9 = .ok (.iload_n 2, 1) := by decide +kernel
theorem dX1_spread_10 : decode cX1_spread 10 = .ok (.invokevirtual 47, 3) := by decide +kernel
theorem dX1_spread_13 : decode cX1_spread 13 = .ok (.if_icmp .ge 96, 3) := by decide +kernel
theorem dX1_spread_16 : decode cX1_spread 16 = .ok (.aload_n 1, 1) := by decide +kernel
theorem dX1_spread_17 : decode cX1_spread 17 = .ok (.iload_n 2, 1) := by decide +kernel
theorem dX1_spread_18 : decode cX1_spread 18 = .ok (.iload 4, 2) := by decide +kernel
theorem dX1_spread_20 : decode cX1_spread 20 = .ok (.iload 6, 2) := by decide +kernel
theorem dX1_spread_22 : decode cX1_spread 22 = .ok (.invokevirtual 50, 3) := by decide +kernel
theorem dX1_spread_25 : decode cX1_spread 25 = .ok (.istore 7, 2) := by decide +kernel
theorem dX1_spread_27 : decode cX1_spread 27 = .ok (.iload 7, 2) := by decide +kernel
theorem dX1_spread_29 : decode cX1_spread 29 = .ok (.invokestatic 54, 3) := by decide +kernel
theorem dX1_spread_32 : decode cX1_spread 32 = .ok (.ifCond .ne 19, 3) := by decide +kernel
theorem dX1_spread_35 : decode cX1_spread 35 = .ok (.aload_n 1, 1) := by decide +kernel
theorem dX1_spread_36 : decode cX1_spread 36 = .ok (.iload_n 2, 1) := by decide +kernel
theorem dX1_spread_37 : decode cX1_spread 37 = .ok (.iload 4, 2) := by decide +kernel
theorem dX1_spread_39 : decode cX1_spread 39 = .ok (.iload 6, 2) := by decide +kernel
theorem dX1_spread_41 : decode cX1_spread 41 = .ok (.invokevirtual 58, 3) := by decide +kernel
theorem dX1_spread_44 : decode cX1_spread 44 = .ok (.ifCond .ne 7, 3) := by decide +kernel
theorem dX1_spread_47 : decode cX1_spread 47 = .ok (.iconst 1, 1) := by decide +kernel
theorem dX1_spread_48 : decode cX1_spread 48 = .ok (.goto 4, 3) := by decide +kernel
theorem dX1_spread_51 : decode cX1_spread 51 = .ok (.iconst 0, 1) := by decide +kernel
theorem dX1_spread_52 : decode cX1_spread 52 = .ok (.istore 8, 2) := by decide +kernel
theorem dX1_spread_54 : decode cX1_spread 54 = .ok (.iload 8, 2) := by decide +kernel
theorem dX1_spread_56 : decode cX1_spread 56 = .ok (.ifCond .eq 47, 3) := by decide +kernel
theorem dX1_spread_59 : decode cX1_spread 59 = .ok (.aload_n 0, 1) := by decide +kernel
theorem dX1_spread_60 : decode cX1_spread 60 = .ok (.iload 7, 2) := by decide +kernel
theorem dX1_spread_62 : decode cX1_spread 62 = .ok (.invokevirtual 72, 3) := by decide +kernel
theorem dX1_spread_65 : decode cX1_spread 65 = .ok (.ifCond .ne 38, 3) := by decide +kernel
theorem dX1_spread_68 : decode cX1_spread 68 = .ok (.aload_n 0, 1) := by decide +kernel
theorem dX1_spread_69 : decode cX1_spread 69 = .ok (.aload_n 1, 1) := by decide +kernel
theorem dX1_spread_70 : decode cX1_spread 70 = .ok (.iload_n 2, 1) := by decide +kernel
theorem dX1_spread_71 : decode cX1_spread 71 = .ok (.iload_n 3, 1) := by decide +kernel
theorem dX1_spread_72 : decode cX1_spread 72 = .ok (.iload 6, 2) := by decide +kernel
theorem dX1_spread_74 : decode cX1_spread 74 = .ok (.invokevirtual 75, 3) := by decide +kernel
theorem dX1_spread_77 : decode cX1_spread 77 = .ok (.ifCond .eq 26, 3) := by decide +kernel
theorem dX1_spread_80 : decode cX1_spread 80 = .ok (.aload_n 0, 1) := by decide +kernel
theorem dX1_spread_81 : decode cX1_spread 81 = .ok (.getfield 9, 3) := by decide +kernel
theorem dX1_spread_84 : decode cX1_spread 84 = .ok (.iload 7, 2) := by decide +kernel
theorem dX1_spread_86 : decode cX1_spread 86 = .ok (.invokestatic 62, 3) := by decide +kernel
theorem dX1_spread_89 : decode cX1_spread 89 = .ok (.dup2, 1) := by decide +kernel
theorem dX1_spread_90 : decode cX1_spread 90 = .ok (.iaload, 1) := by decide +kernel
theorem dX1_spread_91 : decode cX1_spread 91 = .ok (.iconst 1, 1) := by decide +kernel
theorem dX1_spread_92 : decode cX1_spread 92 = .ok (.iload 7, 2) := by decide +kernel
theorem dX1_spread_94 : decode cX1_spread 94 = .ok (.invokestatic 65, 3) := by decide +kernel
theorem dX1_spread_97 : decode cX1_spread 97 = .ok (.ishl, 1) := by decide +kernel
theorem dX1_spread_98 : decode cX1_spread 98 = .ok (.ior, 1) := by decide +kernel
theorem dX1_spread_99 : decode cX1_spread 99 = .ok (.iastore, 1) := by decide +kernel
theorem dX1_spread_100 : decode cX1_spread 100 = .ok (.iconst 1, 1) := by decide +kernel
theorem dX1_spread_101 : decode cX1_spread 101 = .ok (.istore 5, 2) := by decide +kernel
theorem dX1_spread_103 : decode cX1_spread 103 = .ok (.iinc 6 1, 3) := by decide +kernel
theorem dX1_spread_106 : decode cX1_spread 106 = .ok (.goto (-100), 3) := by decide +kernel
theorem dX1_spread_109 : decode cX1_spread 109 = .ok (.iload 5, 2) := by decide +kernel
theorem dX1_spread_111 : decode cX1_spread 111 = .ok (.ireturn, 1) := by decide +kernel
theorem dX1_isMarked_0 : decode cX1_isMarked 0 = .ok (.aload_n 1, 1) := by decide +kernel
theorem dX1_isMarked_1 : decode cX1_isMarked 1 = .ok (.iload_n 2, 1) := by decide +kernel
theorem dX1_isMarked_2 : decode cX1_isMarked 2 = .ok (.iload_n 3, 1) := by decide +kernel
theorem dX1_isMarked_3 : decode cX1_isMarked 3 = .ok (.iload 4, 2) := by decide +kernel
theorem dX1_isMarked_5 : decode cX1_isMarked 5 = .ok (.invokevirtual 58, 3) := by decide +kernel
theorem dX1_isMarked_8 : decode cX1_isMarked 8 = .ok (.ifCond .eq 5, 3) := by decide +kernel
theorem dX1_isMarked_11 : decode cX1_isMarked 11 = .ok (.iconst 1, 1) := by decide +kernel
theorem dX1_isMarked_12 : decode cX1_isMarked 12 = .ok (.ireturn, 1) := by decide +kernel
theorem dX1_isMarked_13 : decode cX1_isMarked 13 = .ok (.aload_n 1, 1) := by decide +kernel
theorem dX1_isMarked_14 : decode cX1_isMarked 14 = .ok (.iload_n 2, 1) := by decide +kernel
theorem dX1_isMarked_15 : decode cX1_isMarked 15 = .ok (.iload_n 3, 1) := by decide +kernel
theorem dX1_isMarked_16 : decode cX1_isMarked 16 = .ok (.iload 4, 2) := by decide +kernel
theorem dX1_isMarked_18 : decode cX1_isMarked 18 = .ok (.invokevirtual 50, 3) := by decide +kernel
theorem dX1_isMarked_21 : decode cX1_isMarked 21 = .ok (.istore 5, 2) := by decide +kernel
theorem dX1_isMarked_23 : decode cX1_isMarked 23 = .ok (.iload 5, 2) := by decide +kernel
theorem dX1_isMarked_25 : decode cX1_isMarked 25 = .ok (.invokestatic 54, 3) := by decide +kernel
theorem dX1_isMarked_28 : decode cX1_isMarked 28 = .ok (.ifCond .ne 16, 3) := by decide +kernel
theorem dX1_isMarked_31 : decode cX1_isMarked 31 = .ok (.aload_n 0, 1) := by decide +kernel
theorem dX1_isMarked_32 : decode cX1_isMarked 32 = .ok (.iload 5, 2) := by decide +kernel
theorem dX1_isMarked_34 : decode cX1_isMarked 34 = .ok (.invokevirtual 72, 3) := by decide +kernel
theorem dX1_isMarked_37 : decode cX1_isMarked 37 = .ok (.ifCond .eq 7, 3) := by decide +kernel
theorem dX1_isMarked_40 : decode cX1_isMarked 40 = .ok (.iconst 1, 1) := by decide +kernel
theorem dX1_isMarked_41 : decode cX1_isMarked 41 = .ok (.goto 4, 3) := by decide +kernel
theorem dX1_isMarked_44 : decode cX1_isMarked 44 = .ok (.iconst 0, 1) := by decide +kernel
theorem dX1_isMarked_45 : decode cX1_isMarked 45 = .ok (.ireturn, 1) := by decide +kernel
theorem dX1_isCut_0 : decode cX1_isCut 0 = .ok (.aload_n 0, 1) := by decide +kernel
theorem dX1_isCut_1 : decode cX1_isCut 1 = .ok (.getfield 9, 3) := by decide +kernel
theorem dX1_isCut_4 : decode cX1_isCut 4 = .ok (.iload_n 1, 1) := by decide +kernel
theorem dX1_isCut_5 : decode cX1_isCut 5 = .ok (.invokestatic 62, 3) := by decide +kernel
theorem dX1_isCut_8 : decode cX1_isCut 8 = .ok (.iaload, 1) := by decide +kernel
theorem dX1_isCut_9 : decode cX1_isCut 9 = .ok (.iconst 1, 1) := by decide +kernel
theorem dX1_isCut_10 : decode cX1_isCut 10 = .ok (.iload_n 1, 1) := by decide +kernel
theorem dX1_isCut_11 : decode cX1_isCut 11 = .ok (.invokestatic 65, 3) := by decide +kernel
theorem dX1_isCut_14 : decode cX1_isCut 14 = .ok (.ishl, 1) := by decide +kernel
theorem dX1_isCut_15 : decode cX1_isCut 15 = .ok (.iand, 1) := by decide +kernel
theorem dX1_isCut_16 : decode cX1_isCut 16 = .ok (.ifCond .eq 7, 3) := by decide +kernel
theorem dX1_isCut_19 : decode cX1_isCut 19 = .ok (.iconst 1, 1) := by decide +kernel
theorem dX1_isCut_20 : decode cX1_isCut 20 = .ok (.goto 4, 3) := by decide +kernel
theorem dX1_isCut_23 : decode cX1_isCut 23 = .ok (.iconst 0, 1) := by decide +kernel
theorem dX1_isCut_24 : decode cX1_isCut 24 = .ok (.ireturn, 1) := by decide +kernel
theorem dX2_init_0 : decode cX2_init 0 = .ok (.aload_n 0, 1) := by decide +kernel
theorem dX2_init_1 : decode cX2_init 1 = .ok (.invokespecial 3, 3) := by decide +kernel
theorem dX2_init_4 : decode cX2_init 4 = .ok (.aload_n 0, 1) := by decide +kernel
theorem dX2_init_5 : decode cX2_init 5 = .ok (.bipush 6, 2) := by decide +kernel
theorem dX2_init_7 : decode cX2_init 7 = .ok (.anewarray 9, 3) := by decide +kernel
theorem dX2_init_10 : decode cX2_init 10 = .ok (.putfield 11, 3) := by decide +kernel
theorem dX2_init_13 : decode cX2_init 13 = .ok (.iconst 0, 1) := by decide +kernel
theorem dX2_init_14 : decode cX2_init 14 = .ok (.istore_n 1, 1) := by decide +kernel
theorem dX2_init_15 : decode cX2_init 15 = .ok (.iload_n 1, 1) := by decide +kernel
theorem dX2_init_16 : decode cX2_init 16 = .ok (.bipush 6, 2) := by decide +kernel
theorem dX2_init_18 : decode cX2_init 18 = .ok (.if_icmp .ge 22, 3) := by decide +kernel
theorem dX2_init_21 : decode cX2_init 21 = .ok (.aload_n 0, 1) := by decide +kernel
theorem dX2_init_22 : decode cX2_init 22 = .ok (.getfield 11, 3) := by decide +kernel
theorem dX2_init_25 : decode cX2_init 25 = .ok (.iload_n 1, 1) := by decide +kernel
theorem dX2_init_26 : decode cX2_init 26 = .ok (.new 9, 3) := by decide +kernel
theorem dX2_init_29 : decode cX2_init 29 = .ok (.dup, 1) := by decide +kernel
theorem dX2_init_30 : decode cX2_init 30 = .ok (.invokespecial 17, 3) := by decide +kernel
theorem dX2_init_33 : decode cX2_init 33 = .ok (.aastore, 1) := by decide +kernel
theorem dX2_init_34 : decode cX2_init 34 = .ok (.iinc 1 1, 3) := by decide +kernel
theorem dX2_init_37 : decode cX2_init 37 = .ok (.goto (-22), 3) := by decide +kernel
theorem dX2_init_40 : decode cX2_init 40 = .ok (.return_, 1) := by decide +kernel
theorem dX2_depth_0 : decode cX2_depth 0 = .ok (.aload_n 0, 1) := by decide +kernel
theorem dX2_depth_1 : decode cX2_depth 1 = .ok (.getfield 18, 3) := by decide +kernel
theorem dX2_depth_4 : decode cX2_depth 4 = .ok (.ireturn, 1) := by decide +kernel
theorem dX2_clear_0 : decode cX2_clear 0 = .ok (.aload_n 0, 1) := by decide +kernel
theorem dX2_clear_1 : decode cX2_clear 1 = .ok (.iconst 0, 1) := by decide +kernel
theorem dX2_clear_2 : decode cX2_clear 2 = .ok (.putfield 18, 3) := by decide +kernel
theorem dX2_clear_5 : decode cX2_clear 5 = .ok (.return_, 1) := by decide +kernel
theorem dX2_push_0 : decode cX2_push 0 = .ok (.aload_n 0, 1) := by decide +kernel
theorem dX2_push_1 : decode cX2_push 1 = .ok (.getfield 18, 3) := by decide +kernel
theorem dX2_push_4 : decode cX2_push 4 = .ok (.bipush 6, 2) := by decide +kernel
theorem dX2_push_6 : decode cX2_push 6 = .ok (.if_icmp .lt 7, 3) := by decide +kernel
theorem dX2_push_9 : decode cX2_push 9 = .ok (.aload_n 0, 1) := by decide +kernel
theorem dX2_push_10 : decode cX2_push 10 = .ok (.invokevirtual 22, 3) := by decide +kernel
theorem dX2_push_13 : decode cX2_push 13 = .ok (.aload_n 0, 1) := by decide +kernel
theorem dX2_push_14 : decode cX2_push 14 = .ok (.getfield 11, 3) := by decide +kernel
theorem dX2_push_17 : decode cX2_push 17 = .ok (.aload_n 0, 1) := by decide +kernel
theorem dX2_push_18 : decode cX2_push 18 = .ok (.getfield 18, 3) := by decide +kernel
theorem dX2_push_21 : decode cX2_push 21 = .ok (.aaload, 1) := by decide +kernel
theorem dX2_push_22 : decode cX2_push 22 = .ok (.aload_n 1, 1) := by decide +kernel
theorem dX2_push_23 : decode cX2_push 23 = .ok (.invokevirtual 25, 3) := by decide +kernel
theorem dX2_push_26 : decode cX2_push 26 = .ok (.aload_n 0, 1) := by decide +kernel
theorem dX2_push_27 : decode cX2_push 27 = .ok (.dup, 1) := by decide +kernel
theorem dX2_push_28 : decode cX2_push 28 = .ok (.getfield 18, 3) := by decide +kernel
theorem dX2_push_31 : decode cX2_push 31 = .ok (.iconst 1, 1) := by decide +kernel
theorem dX2_push_32 : decode cX2_push 32 = .ok (.iadd, 1) := by decide +kernel
theorem dX2_push_33 : decode cX2_push 33 = .ok (.putfield 18, 3) := by decide +kernel
theorem dX2_push_36 : decode cX2_push 36 = .ok (.return_, 1) := by decide +kernel
theorem dX2_popInto_0 : decode cX2_popInto 0 = .ok (.aload_n 0, 1) := by decide +kernel
theorem dX2_popInto_1 : decode cX2_popInto 1 = .ok (.getfield 18, 3) := by decide +kernel
theorem dX2_popInto_4 : decode cX2_popInto 4 = .ok (.ifCond .le 26, 3) := by decide +kernel
theorem dX2_popInto_7 : decode cX2_popInto 7 = .ok (.aload_n 0, 1) := by decide +kernel
theorem dX2_popInto_8 : decode cX2_popInto 8 = .ok (.dup, 1) := by decide +kernel
theorem dX2_popInto_9 : decode cX2_popInto 9 = .ok (.getfield 18, 3) := by decide +kernel
theorem dX2_popInto_12 : decode cX2_popInto 12 = .ok (.iconst 1, 1) := by decide +kernel
theorem dX2_popInto_13 : decode cX2_popInto 13 = .ok (.isub, 1) := by decide +kernel
theorem dX2_popInto_14 : decode cX2_popInto 14 = .ok (.putfield 18, 3) := by decide +kernel
theorem dX2_popInto_17 : decode cX2_popInto 17 = .ok (.aload_n 1, 1) := by decide +kernel
theorem dX2_popInto_18 : decode cX2_popInto 18 = .ok (.aload_n 0, 1) := by decide +kernel
theorem dX2_popInto_19 : decode cX2_popInto 19 = .ok (.getfield 11, 3) := by decide +kernel
theorem dX2_popInto_22 : decode cX2_popInto 22 = .ok (.aload_n 0, 1) := by decide +kernel
theorem dX2_popInto_23 : decode cX2_popInto 23 = .ok (.getfield 18, 3) := by decide +kernel
theorem dX2_popInto_26 : decode cX2_popInto 26 = .ok (.aaload, 1) := by decide +kernel
theorem dX2_popInto_27 : decode cX2_popInto 27 = .ok (.invokevirtual 25, 3) := by decide +kernel
theorem dX2_popInto_30 : decode cX2_popInto 30 = .ok (.return_, 1) := by decide +kernel
theorem dX2_forgetOldest_0 : decode cX2_forgetOldest 0 = .ok (.aload_n 0, 1) := by decide +kernel
theorem dX2_forgetOldest_1 : decode cX2_forgetOldest 1 = .ok (.getfield 11, 3) := by decide +kernel
theorem dX2_forgetOldest_4 : decode cX2_forgetOldest 4 = .ok (.iconst 0, 1) := by decide +kernel
theorem dX2_forgetOldest_5 : decode cX2_forgetOldest 5 = .ok (.aaload, 1) := by decide +kernel
theorem dX2_forgetOldest_6 : decode cX2_forgetOldest 6 = .ok (.astore_n 1, 1) := by decide +kernel
theorem dX2_forgetOldest_7 : decode cX2_forgetOldest 7 = .ok (.iconst 1, 1) := by decide +kernel
theorem dX2_forgetOldest_8 : decode cX2_forgetOldest 8 = .ok (.istore_n 2, 1) := by decide +kernel
theorem dX2_forgetOldest_9 : decode cX2_forgetOldest 9 = .ok (.iload_n 2, 1) := by decide +kernel
theorem dX2_forgetOldest_10 : decode cX2_forgetOldest 10 = .ok (.bipush 6, 2) := by decide +kernel
theorem dX2_forgetOldest_12 : decode cX2_forgetOldest 12 = .ok (.if_icmp .ge 23, 3) := by decide +kernel
theorem dX2_forgetOldest_15 : decode cX2_forgetOldest 15 = .ok (.aload_n 0, 1) := by decide +kernel
theorem dX2_forgetOldest_16 : decode cX2_forgetOldest 16 = .ok (.getfield 11, 3) := by decide +kernel
theorem dX2_forgetOldest_19 : decode cX2_forgetOldest 19 = .ok (.iload_n 2, 1) := by decide +kernel
theorem dX2_forgetOldest_20 : decode cX2_forgetOldest 20 = .ok (.iconst 1, 1) := by decide +kernel
theorem dX2_forgetOldest_21 : decode cX2_forgetOldest 21 = .ok (.isub, 1) := by decide +kernel
theorem dX2_forgetOldest_22 : decode cX2_forgetOldest 22 = .ok (.aload_n 0, 1) := by decide +kernel
theorem dX2_forgetOldest_23 : decode cX2_forgetOldest 23 = .ok (.getfield 11, 3) := by decide +kernel
theorem dX2_forgetOldest_26 : decode cX2_forgetOldest 26 = .ok (.iload_n 2, 1) := by decide +kernel
theorem dX2_forgetOldest_27 : decode cX2_forgetOldest 27 = .ok (.aaload, 1) := by decide +kernel
theorem dX2_forgetOldest_28 : decode cX2_forgetOldest 28 = .ok (.aastore, 1) := by decide +kernel
theorem dX2_forgetOldest_29 : decode cX2_forgetOldest 29 = .ok (.iinc 2 1, 3) := by decide +kernel
theorem dX2_forgetOldest_32 : decode cX2_forgetOldest 32 = .ok (.goto (-23), 3) := by decide +kernel
theorem dX2_forgetOldest_35 : decode cX2_forgetOldest 35 = .ok (.aload_n 0, 1) := by decide +kernel
theorem dX2_forgetOldest_36 : decode cX2_forgetOldest 36 = .ok (.getfield 11, 3) := by decide +kernel
theorem dX2_forgetOldest_39 : decode cX2_forgetOldest 39 = .ok (.iconst 5, 1) := by decide +kernel
theorem dX2_forgetOldest_40 : decode cX2_forgetOldest 40 = .ok (.aload_n 1, 1) := by decide +kernel
theorem dX2_forgetOldest_41 : decode cX2_forgetOldest 41 = .ok (.aastore, 1) := by decide +kernel
theorem dX2_forgetOldest_42 : decode cX2_forgetOldest 42 = .ok (.aload_n 0, 1) := by decide +kernel
theorem dX2_forgetOldest_43 : decode cX2_forgetOldest 43 = .ok (.iconst 5, 1) := by decide +kernel
theorem dX2_forgetOldest_44 : decode cX2_forgetOldest 44 = .ok (.putfield 18, 3) := by decide +kernel
theorem dX2_forgetOldest_47 : decode cX2_forgetOldest 47 = .ok (.return_, 1) := by decide +kernel
theorem dX3_init_0 : decode cX3_init 0 = .ok (.aload_n 0, 1) := by decide +kernel
theorem dX3_init_1 : decode cX3_init 1 = .ok (.invokespecial 3, 3) := by decide +kernel
theorem dX3_init_4 : decode cX3_init 4 = .ok (.aload_n 0, 1) := by decide +kernel
theorem dX3_init_5 : decode cX3_init 5 = .ok (.sipush 128, 3) := by decide +kernel
theorem dX3_init_8 : decode cX3_init 8 = .ok (.newarray .long, 2) := by decide +kernel
theorem dX3_init_10 : decode cX3_init 10 = .ok (.putfield 9, 3) := by decide +kernel
theorem dX3_init_13 : decode cX3_init 13 = .ok (.aload_n 0, 1) := by decide +kernel
theorem dX3_init_14 : decode cX3_init 14 = .ok (.sipush 128, 3) := by decide +kernel
theorem dX3_init_17 : decode cX3_init 17 = .ok (.newarray .int, 2) := by decide +kernel
theorem dX3_init_19 : decode cX3_init 19 = .ok (.putfield 15, 3) := by decide +kernel
theorem dX3_init_22 : decode cX3_init 22 = .ok (.aload_n 0, 1) := by decide +kernel
theorem dX3_init_23 : decode cX3_init 23 = .ok (.iconst 3, 1) := by decide +kernel
theorem dX3_init_24 : decode cX3_init 24 = .ok (.newarray .int, 2) := by decide +kernel
theorem dX3_init_26 : decode cX3_init 26 = .ok (.putfield 19, 3) := by decide +kernel
theorem dX3_init_29 : decode cX3_init 29 = .ok (.return_, 1) := by decide +kernel
theorem dX3_oneCount_0 : decode cX3_oneCount 0 = .ok (.aload_n 0, 1) := by decide +kernel
theorem dX3_oneCount_1 : decode cX3_oneCount 1 = .ok (.getfield 22, 3) := by decide +kernel
theorem dX3_oneCount_4 : decode cX3_oneCount 4 = .ok (.ireturn, 1) := by decide +kernel
theorem dX3_hasOne_0 : decode cX3_hasOne 0 = .ok (.iconst 0, 1) := by decide +kernel
theorem dX3_hasOne_1 : decode cX3_hasOne 1 = .ok (.istore_n 2, 1) := by decide +kernel
theorem dX3_hasOne_2 : decode cX3_hasOne 2 = .ok (.iload_n 2, 1) := by decide +kernel
theorem dX3_hasOne_3 : decode cX3_hasOne 3 = .ok (.aload_n 0, 1) := by decide +kernel
theorem dX3_hasOne_4 : decode cX3_hasOne 4 = .ok (.getfield 22, 3) := by decide +kernel
theorem dX3_hasOne_7 : decode cX3_hasOne 7 = .ok (.if_icmp .ge 21, 3) := by decide +kernel
theorem dX3_hasOne_10 : decode cX3_hasOne 10 = .ok (.aload_n 0, 1) := by decide +kernel
theorem dX3_hasOne_11 : decode cX3_hasOne 11 = .ok (.getfield 19, 3) := by decide +kernel
theorem dX3_hasOne_14 : decode cX3_hasOne 14 = .ok (.iload_n 2, 1) := by decide +kernel
theorem dX3_hasOne_15 : decode cX3_hasOne 15 = .ok (.iaload, 1) := by decide +kernel
theorem dX3_hasOne_16 : decode cX3_hasOne 16 = .ok (.iload_n 1, 1) := by decide +kernel
theorem dX3_hasOne_17 : decode cX3_hasOne 17 = .ok (.if_icmp .ne 5, 3) := by decide +kernel
theorem dX3_hasOne_20 : decode cX3_hasOne 20 = .ok (.iconst 1, 1) := by decide +kernel
theorem dX3_hasOne_21 : decode cX3_hasOne 21 = .ok (.ireturn, 1) := by decide +kernel
theorem dX3_hasOne_22 : decode cX3_hasOne 22 = .ok (.iinc 2 1, 3) := by decide +kernel
theorem dX3_hasOne_25 : decode cX3_hasOne 25 = .ok (.goto (-23), 3) := by decide +kernel
theorem dX3_hasOne_28 : decode cX3_hasOne 28 = .ok (.iconst 0, 1) := by decide +kernel
theorem dX3_hasOne_29 : decode cX3_hasOne 29 = .ok (.ireturn, 1) := by decide +kernel
theorem dX3_choose_0 : decode cX3_choose 0 = .ok (.aload_n 0, 1) := by decide +kernel
theorem dX3_choose_1 : decode cX3_choose 1 = .ok (.bipush (-9), 2) := by decide +kernel
theorem dX3_choose_3 : decode cX3_choose 3 = .ok (.putfield 22, 3) := by decide +kernel
theorem dX3_choose_6 : decode cX3_choose 6 = .ok (.aload_n 2, 1) := by decide +kernel
theorem dX3_choose_7 : decode cX3_choose 7 = .ok (.invokevirtual 26, 3) := by decide +kernel
theorem dX3_choose_10 : decode cX3_choose 10 = .ok (.ifCond .ne 4, 3) := by decide +kernel
theorem dX3_choose_13 : decode cX3_choose 13 = .ok (.return_, 1) := by decide +kernel
theorem dX3_choose_14 : decode cX3_choose 14 = .ok (.aload_n 0, 1) := by decide +kernel
theorem dX3_choose_15 : decode cX3_choose 15 = .ok (.aload_n 1, 1) := by decide +kernel
theorem dX3_choose_16 : decode cX3_choose 16 = .ok (.aload_n 2, 1) := by decide +kernel
theorem dX3_choose_17 : decode cX3_choose 17 = .ok (.invokevirtual 32, 3) := by decide +kernel
theorem dX3_choose_20 : decode cX3_choose 20 = .ok (.lstore_n 3, 1) := by decide +kernel
theorem dX3_choose_21 : decode cX3_choose 21 = .ok (.aload_n 0, 1) := by decide +kernel
theorem dX3_choose_22 : decode cX3_choose 22 = .ok (.invokevirtual 36, 3) := by decide +kernel
theorem dX3_choose_25 : decode cX3_choose 25 = .ok (.lload_n 3, 1) := by decide +kernel
theorem dX3_choose_26 : decode cX3_choose 26 = .ok (.invokestatic 39, 3) := by decide +kernel
theorem dX3_choose_29 : decode cX3_choose 29 = .ok (.ifCond .eq 11, 3) := by decide +kernel
theorem dX3_choose_32 : decode cX3_choose 32 = .ok (.aload_n 0, 1) := by decide +kernel
theorem dX3_choose_33 : decode cX3_choose 33 = .ok (.iconst 0, 1) := by decide +kernel
theorem dX3_choose_34 : decode cX3_choose 34 = .ok (.putfield 22, 3) := by decide +kernel
theorem dX3_choose_37 : decode cX3_choose 37 = .ok (.goto 52, 3) := by decide +kernel
theorem dX3_choose_40 : decode cX3_choose 40 = .ok (.aload_n 0, 1) := by decide +kernel
theorem dX3_choose_41 : decode cX3_choose 41 = .ok (.iconst 0, 1) := by decide +kernel
theorem dX3_choose_42 : decode cX3_choose 42 = .ok (.iconst 0, 1) := by decide +kernel
theorem dX3_choose_43 : decode cX3_choose 43 = .ok (.lload_n 3, 1) := by decide +kernel
theorem dX3_choose_44 : decode cX3_choose 44 = .ok (.invokevirtual 43, 3) := by decide +kernel
theorem dX3_choose_47 : decode cX3_choose 47 = .ok (.ifCond .eq 11, 3) := by decide +kernel
theorem dX3_choose_50 : decode cX3_choose 50 = .ok (.aload_n 0, 1) := by decide +kernel
theorem dX3_choose_51 : decode cX3_choose 51 = .ok (.iconst 1, 1) := by decide +kernel
theorem dX3_choose_52 : decode cX3_choose 52 = .ok (.putfield 22, 3) := by decide +kernel
theorem dX3_choose_55 : decode cX3_choose 55 = .ok (.goto 34, 3) := by decide +kernel
theorem dX3_choose_58 : decode cX3_choose 58 = .ok (.aload_n 0, 1) := by decide +kernel
theorem dX3_choose_59 : decode cX3_choose 59 = .ok (.iconst 0, 1) := by decide +kernel
theorem dX3_choose_60 : decode cX3_choose 60 = .ok (.iconst 0, 1) := by decide +kernel
theorem dX3_choose_61 : decode cX3_choose 61 = .ok (.lload_n 3, 1) := by decide +kernel
theorem dX3_choose_62 : decode cX3_choose 62 = .ok (.invokevirtual 47, 3) := by decide +kernel
theorem dX3_choose_65 : decode cX3_choose 65 = .ok (.ifCond .eq 11, 3) := by decide +kernel
theorem dX3_choose_68 : decode cX3_choose 68 = .ok (.aload_n 0, 1) := by decide +kernel
theorem dX3_choose_69 : decode cX3_choose 69 = .ok (.iconst 2, 1) := by decide +kernel
theorem dX3_choose_70 : decode cX3_choose 70 = .ok (.putfield 22, 3) := by decide +kernel
theorem dX3_choose_73 : decode cX3_choose 73 = .ok (.goto 16, 3) := by decide +kernel
theorem dX3_choose_76 : decode cX3_choose 76 = .ok (.aload_n 0, 1) := by decide +kernel
theorem dX3_choose_77 : decode cX3_choose 77 = .ok (.lload_n 3, 1) := by decide +kernel
theorem dX3_choose_78 : decode cX3_choose 78 = .ok (.invokevirtual 50, 3) := by decide +kernel
theorem dX3_choose_81 : decode cX3_choose 81 = .ok (.ifCond .eq 8, 3) := by decide +kernel
theorem dX3_choose_84 : decode cX3_choose 84 = .ok (.aload_n 0, 1) := by decide +kernel
theorem dX3_choose_85 : decode cX3_choose 85 = .ok (.iconst 3, 1) := by decide +kernel
theorem dX3_choose_86 : decode cX3_choose 86 = .ok (.putfield 22, 3) := by decide +kernel
theorem dX3_choose_89 : decode cX3_choose 89 = .ok (.return_, 1) := by decide +kernel
theorem dX3_wordOfZeros_0 : decode cX3_wordOfZeros 0 = .ok (.aload_n 0, 1) := by decide +kernel
theorem dX3_wordOfZeros_1 : decode cX3_wordOfZeros 1 = .ok (.getfield 9, 3) := by decide +kernel
theorem dX3_wordOfZeros_4 : decode cX3_wordOfZeros 4 = .ok (.lconst 0, 1) := by decide +kernel
theorem dX3_wordOfZeros_5 : decode cX3_wordOfZeros 5 = .ok (.invokestatic 53, 3) := by decide +kernel
theorem dX3_wordOfZeros_8 : decode cX3_wordOfZeros 8 = .ok (.lconst 0, 1) := by decide +kernel
theorem dX3_wordOfZeros_9 : decode cX3_wordOfZeros 9 = .ok (.lstore_n 3, 1) := by decide +kernel
theorem dX3_wordOfZeros_10 : decode cX3_wordOfZeros 10 = .ok (.iconst 0, 1) := by decide +kernel
theorem dX3_wordOfZeros_11 : decode cX3_wordOfZeros 11 = .ok (.istore 5, 2) := by decide +kernel
theorem dX3_wordOfZeros_13 : decode cX3_wordOfZeros 13 = .ok (.iload 5, 2) := by decide +kernel
theorem dX3_wordOfZeros_15 : decode cX3_wordOfZeros 15 = .ok (.iconst 3, 1) := by decide +kernel
theorem dX3_wordOfZeros_16 : decode cX3_wordOfZeros 16 = .ok (.if_icmp .ge 98, 3) := by decide +kernel
theorem dX3_wordOfZeros_19 : decode cX3_wordOfZeros 19 = .ok (.aload_n 1, 1) := by decide +kernel
theorem dX3_wordOfZeros_20 : decode cX3_wordOfZeros 20 = .ok (.iload 5, 2) := by decide +kernel
theorem dX3_wordOfZeros_22 : decode cX3_wordOfZeros 22 = .ok (.invokevirtual 59, 3) := by decide +kernel
theorem dX3_wordOfZeros_25 : decode cX3_wordOfZeros 25 = .ok (.ifCond .ne 13, 3) := by decide +kernel
theorem dX3_wordOfZeros_28 : decode cX3_wordOfZeros 28 = .ok (.lload_n 3, 1) := by decide +kernel
theorem dX3_wordOfZeros_29 : decode cX3_wordOfZeros 29 = .ok (.lconst 1, 1) := by decide +kernel
theorem dX3_wordOfZeros_30 : decode cX3_wordOfZeros 30 = .ok (.iload 5, 2) := by decide +kernel
theorem dX3_wordOfZeros_32 : decode cX3_wordOfZeros 32 = .ok (.bipush 16, 2) := by decide +kernel
theorem dX3_wordOfZeros_34 : decode cX3_wordOfZeros 34 = .ok (.imul, 1) := by decide +kernel
theorem dX3_wordOfZeros_35 : decode cX3_wordOfZeros 35 = .ok (.lshl, 1) := by decide +kernel
theorem dX3_wordOfZeros_36 : decode cX3_wordOfZeros 36 = .ok (.lor, 1) := by decide +kernel
theorem dX3_wordOfZeros_37 : decode cX3_wordOfZeros 37 = .ok (.lstore_n 3, 1) := by decide +kernel
theorem dX3_wordOfZeros_38 : decode cX3_wordOfZeros 38 = .ok (.iconst 0, 1) := by decide +kernel
theorem dX3_wordOfZeros_39 : decode cX3_wordOfZeros 39 = .ok (.istore 6, 2) := by decide +kernel
theorem dX3_wordOfZeros_41 : decode cX3_wordOfZeros 41 = .ok (.iload 6, 2) := by decide +kernel
theorem dX3_wordOfZeros_43 : decode cX3_wordOfZeros 43 = .ok (.aload_n 1, 1) := by decide +kernel
theorem dX3_wordOfZeros_44 : decode cX3_wordOfZeros 44 = .ok (.iload 5, 2) := by decide +kernel
theorem dX3_wordOfZeros_46 : decode cX3_wordOfZeros 46 = .ok (.invokevirtual 65, 3) := by decide +kernel
theorem dX3_wordOfZeros_49 : decode cX3_wordOfZeros 49 = .ok (.if_icmp .ge 59, 3) := by decide +kernel
theorem dX3_wordOfZeros_52 : decode cX3_wordOfZeros 52 = .ok (.lconst 1, 1) := by decide +kernel
theorem dX3_wordOfZeros_53 : decode cX3_wordOfZeros 53 = .ok (.iload 5, 2) := by decide +kernel
theorem dX3_wordOfZeros_55 : decode cX3_wordOfZeros 55 = .ok (.bipush 16, 2) := by decide +kernel
theorem dX3_wordOfZeros_57 : decode cX3_wordOfZeros 57 = .ok (.imul, 1) := by decide +kernel
theorem dX3_wordOfZeros_58 : decode cX3_wordOfZeros 58 = .ok (.iload 6, 2) := by decide +kernel
theorem dX3_wordOfZeros_60 : decode cX3_wordOfZeros 60 = .ok (.iadd, 1) := by decide +kernel
theorem dX3_wordOfZeros_61 : decode cX3_wordOfZeros 61 = .ok (.lshl, 1) := by decide +kernel
theorem dX3_wordOfZeros_62 : decode cX3_wordOfZeros 62 = .ok (.lstore 7, 2) := by decide +kernel
theorem dX3_wordOfZeros_64 : decode cX3_wordOfZeros 64 = .ok (.lload_n 3, 1) := by decide +kernel
theorem dX3_wordOfZeros_65 : decode cX3_wordOfZeros 65 = .ok (.aload_n 0, 1) := by decide +kernel
theorem dX3_wordOfZeros_66 : decode cX3_wordOfZeros 66 = .ok (.aload_n 1, 1) := by decide +kernel
theorem dX3_wordOfZeros_67 : decode cX3_wordOfZeros 67 = .ok (.iload 5, 2) := by decide +kernel
theorem dX3_wordOfZeros_69 : decode cX3_wordOfZeros 69 = .ok (.iconst 0, 1) := by decide +kernel
theorem dX3_wordOfZeros_70 : decode cX3_wordOfZeros 70 = .ok (.iload 6, 2) := by decide +kernel
theorem dX3_wordOfZeros_72 : decode cX3_wordOfZeros 72 = .ok (.invokevirtual 69, 3) := by decide +kernel
theorem dX3_wordOfZeros_75 : decode cX3_wordOfZeros 75 = .ok (.lload 7, 2) := by decide +kernel
theorem dX3_wordOfZeros_77 : decode cX3_wordOfZeros 77 = .ok (.aload_n 2, 1) := by decide +kernel
theorem dX3_wordOfZeros_78 : decode cX3_wordOfZeros 78 = .ok (.invokevirtual 73, 3) := by decide +kernel
theorem dX3_wordOfZeros_81 : decode cX3_wordOfZeros 81 = .ok (.lxor, 1) := by decide +kernel
theorem dX3_wordOfZeros_82 : decode cX3_wordOfZeros 82 = .ok (.lstore_n 3, 1) := by decide +kernel
theorem dX3_wordOfZeros_83 : decode cX3_wordOfZeros 83 = .ok (.lload_n 3, 1) := by decide +kernel
theorem dX3_wordOfZeros_84 : decode cX3_wordOfZeros 84 = .ok (.aload_n 0, 1) := by decide +kernel
theorem dX3_wordOfZeros_85 : decode cX3_wordOfZeros 85 = .ok (.aload_n 1, 1) := by decide +kernel
theorem dX3_wordOfZeros_86 : decode cX3_wordOfZeros 86 = .ok (.iload 5, 2) := by decide +kernel
theorem dX3_wordOfZeros_88 : decode cX3_wordOfZeros 88 = .ok (.iconst 1, 1) := by decide +kernel
theorem dX3_wordOfZeros_89 : decode cX3_wordOfZeros 89 = .ok (.iload 6, 2) := by decide +kernel
theorem dX3_wordOfZeros_91 : decode cX3_wordOfZeros 91 = .ok (.invokevirtual 69, 3) := by decide +kernel
theorem dX3_wordOfZeros_94 : decode cX3_wordOfZeros 94 = .ok (.lload 7, 2) := by decide +kernel
theorem dX3_wordOfZeros_96 : decode cX3_wordOfZeros 96 = .ok (.aload_n 2, 1) := by decide +kernel
theorem dX3_wordOfZeros_97 : decode cX3_wordOfZeros 97 = .ok (.invokevirtual 73, 3) := by decide +kernel
theorem dX3_wordOfZeros_100 : decode cX3_wordOfZeros 100 = .ok (.lxor, 1) := by decide +kernel
theorem dX3_wordOfZeros_101 : decode cX3_wordOfZeros 101 = .ok (.lstore_n 3, 1) := by decide +kernel
theorem dX3_wordOfZeros_102 : decode cX3_wordOfZeros 102 = .ok (.iinc 6 1, 3) := by decide +kernel
theorem dX3_wordOfZeros_105 : decode cX3_wordOfZeros 105 = .ok (.goto (-64), 3) := by decide +kernel
theorem dX3_wordOfZeros_108 : decode cX3_wordOfZeros 108 = .ok (.iinc 5 1, 3) := by decide +kernel
theorem dX3_wordOfZeros_111 : decode cX3_wordOfZeros 111 = .ok (.goto (-98), 3) := by decide +kernel
theorem dX3_wordOfZeros_114 : decode cX3_wordOfZeros 114 = .ok (.lload_n 3, 1) := by decide +kernel
theorem dX3_wordOfZeros_115 : decode cX3_wordOfZeros 115 = .ok (.lreturn, 1) := by decide +kernel
theorem dX3_constantPlace_0 : decode cX3_constantPlace 0 = .ok (.aload 4, 2) := by decide +kernel
theorem dX3_constantPlace_2 : decode cX3_constantPlace 2 = .ok (.iload_n 1, 1) := by decide +kernel
theorem dX3_constantPlace_3 : decode cX3_constantPlace 3 = .ok (.invokevirtual 77, 3) := by decide +kernel
theorem dX3_constantPlace_6 : decode cX3_constantPlace 6 = .ok (.istore 5, 2) := by decide +kernel
theorem dX3_constantPlace_8 : decode cX3_constantPlace 8 = .ok (.iload 5, 2) := by decide +kernel
theorem dX3_constantPlace_10 : decode cX3_constantPlace 10 = .ok (.iconst (-1), 1) := by decide +kernel
theorem dX3_constantPlace_11 : decode cX3_constantPlace 11 = .ok (.if_icmp .ne 18, 3) := by decide +kernel
theorem dX3_constantPlace_14 : decode cX3_constantPlace 14 = .ok (.aload_n 0, 1) := by decide +kernel
theorem dX3_constantPlace_15 : decode cX3_constantPlace 15 = .ok (.getfield 9, 3) := by decide +kernel
theorem dX3_constantPlace_18 : decode cX3_constantPlace 18 = .ok (.aload 4, 2) := by decide +kernel
theorem dX3_constantPlace_20 : decode cX3_constantPlace 20 = .ok (.iload_n 1, 1) := by decide +kernel
theorem dX3_constantPlace_21 : decode cX3_constantPlace 21 = .ok (.invokevirtual 80, 3) := by decide +kernel
theorem dX3_constantPlace_24 : decode cX3_constantPlace 24 = .ok (.dup2, 1) := by decide +kernel
theorem dX3_constantPlace_25 : decode cX3_constantPlace 25 = .ok (.laload, 1) := by decide +kernel
theorem dX3_constantPlace_26 : decode cX3_constantPlace 26 = .ok (.lload_n 2, 1) := by decide +kernel
theorem dX3_constantPlace_27 : decode cX3_constantPlace 27 = .ok (.lxor, 1) := by decide +kernel
theorem dX3_constantPlace_28 : decode cX3_constantPlace 28 = .ok (.lastore, 1) := by decide +kernel
theorem dX3_constantPlace_29 : decode cX3_constantPlace 29 = .ok (.iload 5, 2) := by decide +kernel
theorem dX3_constantPlace_31 : decode cX3_constantPlace 31 = .ok (.iconst 1, 1) := by decide +kernel
theorem dX3_constantPlace_32 : decode cX3_constantPlace 32 = .ok (.if_icmp .ne 7, 3) := by decide +kernel
theorem dX3_constantPlace_35 : decode cX3_constantPlace 35 = .ok (.lload_n 2, 1) := by decide +kernel
theorem dX3_constantPlace_36 : decode cX3_constantPlace 36 = .ok (.goto 4, 3) := by decide +kernel
theorem dX3_constantPlace_39 : decode cX3_constantPlace 39 = .ok (.lconst 0, 1) := by decide +kernel
theorem dX3_constantPlace_40 : decode cX3_constantPlace 40 = .ok (.lreturn, 1) := by decide +kernel
theorem dX3_gatherCandidates_0 : decode cX3_gatherCandidates 0 = .ok (.aload_n 0, 1) := by decide +kernel
theorem dX3_gatherCandidates_1 : decode cX3_gatherCandidates 1 = .ok (.iconst 0, 1) := by decide +kernel
theorem dX3_gatherCandidates_2 : decode cX3_gatherCandidates 2 = .ok (.putfield 83, 3) := by decide +kernel
theorem dX3_gatherCandidates_5 : decode cX3_gatherCandidates 5 = .ok (.iconst 0, 1) := by decide +kernel
theorem dX3_gatherCandidates_6 : decode cX3_gatherCandidates 6 = .ok (.istore_n 1, 1) := by decide +kernel
theorem dX3_gatherCandidates_7 : decode cX3_gatherCandidates 7 = .ok (.iload_n 1, 1) := by decide +kernel
theorem dX3_gatherCandidates_8 : decode cX3_gatherCandidates 8 = .ok (.sipush 128, 3) := by decide +kernel
theorem dX3_gatherCandidates_11 : decode cX3_gatherCandidates 11 = .ok (.if_icmp .ge 40, 3) := by decide +kernel
theorem dX3_gatherCandidates_14 : decode cX3_gatherCandidates 14 = .ok (.aload_n 0, 1) := by decide +kernel
theorem dX3_gatherCandidates_15 : decode cX3_gatherCandidates 15 = .ok (.getfield 9, 3) := by decide +kernel
theorem dX3_gatherCandidates_18 : decode cX3_gatherCandidates 18 = .ok (.iload_n 1, 1) := by decide +kernel
theorem dX3_gatherCandidates_19 : decode cX3_gatherCandidates 19 = .ok (.laload, 1) := by decide +kernel
theorem dX3_gatherCandidates_20 : decode cX3_gatherCandidates 20 = .ok (.lconst 0, 1) := by decide +kernel
theorem dX3_gatherCandidates_21 : decode cX3_gatherCandidates 21 = .ok (.lcmp, 1) := by decide +kernel
theorem dX3_gatherCandidates_22 : decode cX3_gatherCandidates 22 = .ok (.ifCond .eq 23, 3) := by decide +kernel
theorem dX3_gatherCandidates_25 : decode cX3_gatherCandidates 25 = .ok (.aload_n 0, 1) := by decide +kernel
theorem dX3_gatherCandidates_26 : decode cX3_gatherCandidates 26 = .ok (.getfield 15, 3) := by decide +kernel
theorem dX3_gatherCandidates_29 : decode cX3_gatherCandidates 29 = .ok (.aload_n 0, 1) := by decide +kernel
theorem dX3_gatherCandidates_30 : decode cX3_gatherCandidates 30 = .ok (.getfield 83, 3) := by decide +kernel
theorem dX3_gatherCandidates_33 : decode cX3_gatherCandidates 33 = .ok (.iload_n 1, 1) := by decide +kernel
theorem dX3_gatherCandidates_34 : decode cX3_gatherCandidates 34 = .ok (.iastore, 1) := by decide +kernel
theorem dX3_gatherCandidates_35 : decode cX3_gatherCandidates 35 = .ok (.aload_n 0, 1) := by decide +kernel
theorem dX3_gatherCandidates_36 : decode cX3_gatherCandidates 36 = .ok (.dup, 1) := by decide +kernel
theorem dX3_gatherCandidates_37 : decode cX3_gatherCandidates 37 = .ok (.getfield 83, 3) := by decide +kernel
theorem dX3_gatherCandidates_40 : decode cX3_gatherCandidates 40 = .ok (.iconst 1, 1) := by decide +kernel
theorem dX3_gatherCandidates_41 : decode cX3_gatherCandidates 41 = .ok (.iadd, 1) := by decide +kernel
theorem dX3_gatherCandidates_42 : decode cX3_gatherCandidates 42 = .ok (.putfield 83, 3) := by decide +kernel
theorem dX3_gatherCandidates_45 : decode cX3_gatherCandidates 45 = .ok (.iinc 1 1, 3) := by decide +kernel
theorem dX3_gatherCandidates_48 : decode cX3_gatherCandidates 48 = .ok (.goto (-41), 3) := by decide +kernel
theorem dX3_gatherCandidates_51 : decode cX3_gatherCandidates 51 = .ok (.return_, 1) := by decide +kernel
theorem dX3_pickThree_0 : decode cX3_pickThree 0 = .ok (.iconst 0, 1) := by decide +kernel
theorem dX3_pickThree_1 : decode cX3_pickThree 1 = .ok (.istore_n 3, 1) := by decide +kernel
theorem dX3_pickThree_2 : decode cX3_pickThree 2 = .ok (.iload_n 3, 1) := by decide +kernel
theorem dX3_pickThree_3 : decode cX3_pickThree 3 = .ok (.aload_n 0, 1) := by decide +kernel
theorem dX3_pickThree_4 : decode cX3_pickThree 4 = .ok (.getfield 83, 3) := by decide +kernel
theorem dX3_pickThree_7 : decode cX3_pickThree 7 = .ok (.if_icmp .ge 47, 3) := by decide +kernel
theorem dX3_pickThree_10 : decode cX3_pickThree 10 = .ok (.aload_n 0, 1) := by decide +kernel
theorem dX3_pickThree_11 : decode cX3_pickThree 11 = .ok (.getfield 19, 3) := by decide +kernel
theorem dX3_pickThree_14 : decode cX3_pickThree 14 = .ok (.iconst 0, 1) := by decide +kernel
theorem dX3_pickThree_15 : decode cX3_pickThree 15 = .ok (.aload_n 0, 1) := by decide +kernel
theorem dX3_pickThree_16 : decode cX3_pickThree 16 = .ok (.getfield 15, 3) := by decide +kernel
theorem dX3_pickThree_19 : decode cX3_pickThree 19 = .ok (.iload_n 3, 1) := by decide +kernel
theorem dX3_pickThree_20 : decode cX3_pickThree 20 = .ok (.iaload, 1) := by decide +kernel
theorem dX3_pickThree_21 : decode cX3_pickThree 21 = .ok (.iastore, 1) := by decide +kernel
theorem dX3_pickThree_22 : decode cX3_pickThree 22 = .ok (.aload_n 0, 1) := by decide +kernel
theorem dX3_pickThree_23 : decode cX3_pickThree 23 = .ok (.iconst 1, 1) := by decide +kernel
theorem dX3_pickThree_24 : decode cX3_pickThree 24 = .ok (.iload_n 3, 1) := by decide +kernel
theorem dX3_pickThree_25 : decode cX3_pickThree 25 = .ok (.iconst 1, 1) := by decide +kernel
theorem dX3_pickThree_26 : decode cX3_pickThree 26 = .ok (.iadd, 1) := by decide +kernel
theorem dX3_pickThree_27 : decode cX3_pickThree 27 = .ok (.lload_n 1, 1) := by decide +kernel
theorem dX3_pickThree_28 : decode cX3_pickThree 28 = .ok (.aload_n 0, 1) := by decide +kernel
theorem dX3_pickThree_29 : decode cX3_pickThree 29 = .ok (.getfield 9, 3) := by decide +kernel
theorem dX3_pickThree_32 : decode cX3_pickThree 32 = .ok (.aload_n 0, 1) := by decide +kernel
theorem dX3_pickThree_33 : decode cX3_pickThree 33 = .ok (.getfield 15, 3) := by decide +kernel
theorem dX3_pickThree_36 : decode cX3_pickThree 36 = .ok (.iload_n 3, 1) := by decide +kernel
theorem dX3_pickThree_37 : decode cX3_pickThree 37 = .ok (.iaload, 1) := by decide +kernel
theorem dX3_pickThree_38 : decode cX3_pickThree 38 = .ok (.laload, 1) := by decide +kernel
theorem dX3_pickThree_39 : decode cX3_pickThree 39 = .ok (.lxor, 1) := by decide +kernel
theorem dX3_pickThree_40 : decode cX3_pickThree 40 = .ok (.invokevirtual 47, 3) := by decide +kernel
theorem dX3_pickThree_43 : decode cX3_pickThree 43 = .ok (.ifCond .eq 5, 3) := by decide +kernel
theorem dX3_pickThree_46 : decode cX3_pickThree 46 = .ok (.iconst 1, 1) := by decide +kernel
theorem dX3_pickThree_47 : decode cX3_pickThree 47 = .ok (.ireturn, 1) := by decide +kernel
theorem dX3_pickThree_48 : decode cX3_pickThree 48 = .ok (.iinc 3 1, 3) := by decide +kernel
theorem dX3_pickThree_51 : decode cX3_pickThree 51 = .ok (.goto (-49), 3) := by decide +kernel
theorem dX3_pickThree_54 : decode cX3_pickThree 54 = .ok (.iconst 0, 1) := by decide +kernel
theorem dX3_pickThree_55 : decode cX3_pickThree 55 = .ok (.ireturn, 1) := by decide +kernel
theorem dX3_pickLastTwo_0 : decode cX3_pickLastTwo 0 = .ok (.iload_n 2, 1) := by decide +kernel
theorem dX3_pickLastTwo_1 : decode cX3_pickLastTwo 1 = .ok (.istore 5, 2) := by decide +kernel
theorem dX3_pickLastTwo_3 : decode cX3_pickLastTwo 3 = .ok (.iload 5, 2) := by decide +kernel
theorem dX3_pickLastTwo_5 : decode cX3_pickLastTwo 5 = .ok (.aload_n 0, 1) := by decide +kernel
theorem dX3_pickLastTwo_6 : decode cX3_pickLastTwo 6 = .ok (.getfield 83, 3) := by decide +kernel
theorem dX3_pickLastTwo_9 : decode cX3_pickLastTwo 9 = .ok (.if_icmp .ge 52, 3) := by decide +kernel
theorem dX3_pickLastTwo_12 : decode cX3_pickLastTwo 12 = .ok (.aload_n 0, 1) := by decide +kernel
theorem dX3_pickLastTwo_13 : decode cX3_pickLastTwo 13 = .ok (.getfield 19, 3) := by decide +kernel
theorem dX3_pickLastTwo_16 : decode cX3_pickLastTwo 16 = .ok (.iload_n 1, 1) := by decide +kernel
theorem dX3_pickLastTwo_17 : decode cX3_pickLastTwo 17 = .ok (.aload_n 0, 1) := by decide +kernel
theorem dX3_pickLastTwo_18 : decode cX3_pickLastTwo 18 = .ok (.getfield 15, 3) := by decide +kernel
theorem dX3_pickLastTwo_21 : decode cX3_pickLastTwo 21 = .ok (.iload 5, 2) := by decide +kernel
theorem dX3_pickLastTwo_23 : decode cX3_pickLastTwo 23 = .ok (.iaload, 1) := by decide +kernel
theorem dX3_pickLastTwo_24 : decode cX3_pickLastTwo 24 = .ok (.iastore, 1) := by decide +kernel
theorem dX3_pickLastTwo_25 : decode cX3_pickLastTwo 25 = .ok (.aload_n 0, 1) := by decide +kernel
theorem dX3_pickLastTwo_26 : decode cX3_pickLastTwo 26 = .ok (.iload_n 1, 1) := by decide +kernel
theorem dX3_pickLastTwo_27 : decode cX3_pickLastTwo 27 = .ok (.iconst 1, 1) := by decide +kernel
theorem dX3_pickLastTwo_28 : decode cX3_pickLastTwo 28 = .ok (.iadd, 1) := by decide +kernel
theorem dX3_pickLastTwo_29 : decode cX3_pickLastTwo 29 = .ok (.iload 5, 2) := by decide +kernel
theorem dX3_pickLastTwo_31 : decode cX3_pickLastTwo 31 = .ok (.iconst 1, 1) := by decide +kernel
theorem dX3_pickLastTwo_32 : decode cX3_pickLastTwo 32 = .ok (.iadd, 1) := by decide +kernel
theorem dX3_pickLastTwo_33 : decode cX3_pickLastTwo 33 = .ok (.lload_n 3, 1) := by decide +kernel
theorem dX3_pickLastTwo_34 : decode cX3_pickLastTwo 34 = .ok (.aload_n 0, 1) := by decide +kernel
theorem dX3_pickLastTwo_35 : decode cX3_pickLastTwo 35 = .ok (.getfield 9, 3) := by decide +kernel
theorem dX3_pickLastTwo_38 : decode cX3_pickLastTwo 38 = .ok (.aload_n 0, 1) := by decide +kernel
theorem dX3_pickLastTwo_39 : decode cX3_pickLastTwo 39 = .ok (.getfield 15, 3) := by decide +kernel
theorem dX3_pickLastTwo_42 : decode cX3_pickLastTwo 42 = .ok (.iload 5, 2) := by decide +kernel
theorem dX3_pickLastTwo_44 : decode cX3_pickLastTwo 44 = .ok (.iaload, 1) := by decide +kernel
theorem dX3_pickLastTwo_45 : decode cX3_pickLastTwo 45 = .ok (.laload, 1) := by decide +kernel
theorem dX3_pickLastTwo_46 : decode cX3_pickLastTwo 46 = .ok (.lxor, 1) := by decide +kernel
theorem dX3_pickLastTwo_47 : decode cX3_pickLastTwo 47 = .ok (.invokevirtual 43, 3) := by decide +kernel
theorem dX3_pickLastTwo_50 : decode cX3_pickLastTwo 50 = .ok (.ifCond .eq 5, 3) := by decide +kernel
theorem dX3_pickLastTwo_53 : decode cX3_pickLastTwo 53 = .ok (.iconst 1, 1) := by decide +kernel
theorem dX3_pickLastTwo_54 : decode cX3_pickLastTwo 54 = .ok (.ireturn, 1) := by decide +kernel
theorem dX3_pickLastTwo_55 : decode cX3_pickLastTwo 55 = .ok (.iinc 5 1, 3) := by decide +kernel
theorem dX3_pickLastTwo_58 : decode cX3_pickLastTwo 58 = .ok (.goto (-55), 3) := by decide +kernel
theorem dX3_pickLastTwo_61 : decode cX3_pickLastTwo 61 = .ok (.iconst 0, 1) := by decide +kernel
theorem dX3_pickLastTwo_62 : decode cX3_pickLastTwo 62 = .ok (.ireturn, 1) := by decide +kernel
theorem dX3_pickLast_0 : decode cX3_pickLast 0 = .ok (.iload_n 2, 1) := by decide +kernel
theorem dX3_pickLast_1 : decode cX3_pickLast 1 = .ok (.istore 5, 2) := by decide +kernel
theorem dX3_pickLast_3 : decode cX3_pickLast 3 = .ok (.iload 5, 2) := by decide +kernel
theorem dX3_pickLast_5 : decode cX3_pickLast 5 = .ok (.aload_n 0, 1) := by decide +kernel
theorem dX3_pickLast_6 : decode cX3_pickLast 6 = .ok (.getfield 83, 3) := by decide +kernel
theorem dX3_pickLast_9 : decode cX3_pickLast 9 = .ok (.if_icmp .ge 44, 3) := by decide +kernel
theorem dX3_pickLast_12 : decode cX3_pickLast 12 = .ok (.lload_n 3, 1) := by decide +kernel
theorem dX3_pickLast_13 : decode cX3_pickLast 13 = .ok (.aload_n 0, 1) := by decide +kernel
theorem dX3_pickLast_14 : decode cX3_pickLast 14 = .ok (.getfield 9, 3) := by decide +kernel
theorem dX3_pickLast_17 : decode cX3_pickLast 17 = .ok (.aload_n 0, 1) := by decide +kernel
theorem dX3_pickLast_18 : decode cX3_pickLast 18 = .ok (.getfield 15, 3) := by decide +kernel
theorem dX3_pickLast_21 : decode cX3_pickLast 21 = .ok (.iload 5, 2) := by decide +kernel
theorem dX3_pickLast_23 : decode cX3_pickLast 23 = .ok (.iaload, 1) := by decide +kernel
theorem dX3_pickLast_24 : decode cX3_pickLast 24 = .ok (.laload, 1) := by decide +kernel
theorem dX3_pickLast_25 : decode cX3_pickLast 25 = .ok (.lxor, 1) := by decide +kernel
theorem dX3_pickLast_26 : decode cX3_pickLast 26 = .ok (.invokestatic 39, 3) := by decide +kernel
theorem dX3_pickLast_29 : decode cX3_pickLast 29 = .ok (.ifCond .eq 18, 3) := by decide +kernel
theorem dX3_pickLast_32 : decode cX3_pickLast 32 = .ok (.aload_n 0, 1) := by decide +kernel
theorem dX3_pickLast_33 : decode cX3_pickLast 33 = .ok (.getfield 19, 3) := by decide +kernel
theorem dX3_pickLast_36 : decode cX3_pickLast 36 = .ok (.iload_n 1, 1) := by decide +kernel
theorem dX3_pickLast_37 : decode cX3_pickLast 37 = .ok (.aload_n 0, 1) := by decide +kernel
theorem dX3_pickLast_38 : decode cX3_pickLast 38 = .ok (.getfield 15, 3) := by decide +kernel
theorem dX3_pickLast_41 : decode cX3_pickLast 41 = .ok (.iload 5, 2) := by decide +kernel
theorem dX3_pickLast_43 : decode cX3_pickLast 43 = .ok (.iaload, 1) := by decide +kernel
theorem dX3_pickLast_44 : decode cX3_pickLast 44 = .ok (.iastore, 1) := by decide +kernel
theorem dX3_pickLast_45 : decode cX3_pickLast 45 = .ok (.iconst 1, 1) := by decide +kernel
theorem dX3_pickLast_46 : decode cX3_pickLast 46 = .ok (.ireturn, 1) := by decide +kernel
theorem dX3_pickLast_47 : decode cX3_pickLast 47 = .ok (.iinc 5 1, 3) := by decide +kernel
theorem dX3_pickLast_50 : decode cX3_pickLast 50 = .ok (.goto (-47), 3) := by decide +kernel
theorem dX3_pickLast_53 : decode cX3_pickLast 53 = .ok (.iconst 0, 1) := by decide +kernel
theorem dX3_pickLast_54 : decode cX3_pickLast 54 = .ok (.ireturn, 1) := by decide +kernel
theorem dX3_holds_0 : decode cX3_holds 0 = .ok (.lload_n 0, 1) := by decide +kernel
theorem dX3_holds_1 : decode cX3_holds 1 = .ok (.ldc2_w 86, 3) := by decide +kernel
theorem dX3_holds_4 : decode cX3_holds 4 = .ok (.land, 1) := by decide +kernel
theorem dX3_holds_5 : decode cX3_holds 5 = .ok (.lconst 0, 1) := by decide +kernel
theorem dX3_holds_6 : decode cX3_holds 6 = .ok (.lcmp, 1) := by decide +kernel
theorem dX3_holds_7 : decode cX3_holds 7 = .ok (.ifCond .eq 27, 3) := by decide +kernel
theorem dX3_holds_10 : decode cX3_holds 10 = .ok (.lload_n 0, 1) := by decide +kernel
theorem dX3_holds_11 : decode cX3_holds 11 = .ok (.ldc2_w 88, 3) := by decide +kernel
theorem dX3_holds_14 : decode cX3_holds 14 = .ok (.land, 1) := by decide +kernel
theorem dX3_holds_15 : decode cX3_holds 15 = .ok (.lconst 0, 1) := by decide +kernel
theorem dX3_holds_16 : decode cX3_holds 16 = .ok (.lcmp, 1) := by decide +kernel
theorem dX3_holds_17 : decode cX3_holds 17 = .ok (.ifCond .eq 17, 3) := by decide +kernel
theorem dX3_holds_20 : decode cX3_holds 20 = .ok (.lload_n 0, 1) := by decide +kernel
theorem dX3_holds_21 : decode cX3_holds 21 = .ok (.ldc2_w 90, 3) := by decide +kernel
theorem dX3_holds_24 : decode cX3_holds 24 = .ok (.land, 1) := by decide +kernel
theorem dX3_holds_25 : decode cX3_holds 25 = .ok (.lconst 0, 1) := by decide +kernel
theorem dX3_holds_26 : decode cX3_holds 26 = .ok (.lcmp, 1) := by decide +kernel
theorem dX3_holds_27 : decode cX3_holds 27 = .ok (.ifCond .eq 7, 3) := by decide +kernel
theorem dX3_holds_30 : decode cX3_holds 30 = .ok (.iconst 1, 1) := by decide +kernel
theorem dX3_holds_31 : decode cX3_holds 31 = .ok (.goto 4, 3) := by decide +kernel
theorem dX3_holds_34 : decode cX3_holds 34 = .ok (.iconst 0, 1) := by decide +kernel
theorem dX3_holds_35 : decode cX3_holds 35 = .ok (.ireturn, 1) := by decide +kernel
theorem dX4_init_0 : decode cX4_init 0 = .ok (.aload_n 0, 1) := by decide +kernel
theorem dX4_init_1 : decode cX4_init 1 = .ok (.invokespecial 3, 3) := by decide +kernel
theorem dX4_init_4 : decode cX4_init 4 = .ok (.aload_n 0, 1) := by decide +kernel
theorem dX4_init_5 : decode cX4_init 5 = .ok (.bipush 8, 2) := by decide +kernel
theorem dX4_init_7 : decode cX4_init 7 = .ok (.newarray .int, 2) := by decide +kernel
theorem dX4_init_9 : decode cX4_init 9 = .ok (.putfield 9, 3) := by decide +kernel
theorem dX4_init_12 : decode cX4_init 12 = .ok (.aload_n 0, 1) := by decide +kernel
theorem dX4_init_13 : decode cX4_init 13 = .ok (.new 15, 3) := by decide +kernel
theorem dX4_init_16 : decode cX4_init 16 = .ok (.dup, 1) := by decide +kernel
theorem dX4_init_17 : decode cX4_init 17 = .ok (.bipush 10, 2) := by decide +kernel
theorem dX4_init_19 : decode cX4_init 19 = .ok (.invokespecial 17, 3) := by decide +kernel
theorem dX4_init_22 : decode cX4_init 22 = .ok (.putfield 20, 3) := by decide +kernel
theorem dX4_init_25 : decode cX4_init 25 = .ok (.aload_n 0, 1) := by decide +kernel
theorem dX4_init_26 : decode cX4_init 26 = .ok (.new 15, 3) := by decide +kernel
theorem dX4_init_29 : decode cX4_init 29 = .ok (.dup, 1) := by decide +kernel
theorem dX4_init_30 : decode cX4_init 30 = .ok (.iconst 3, 1) := by decide +kernel
theorem dX4_init_31 : decode cX4_init 31 = .ok (.invokespecial 17, 3) := by decide +kernel
theorem dX4_init_34 : decode cX4_init 34 = .ok (.putfield 24, 3) := by decide +kernel
theorem dX4_init_37 : decode cX4_init 37 = .ok (.return_, 1) := by decide +kernel
theorem dX4_widthOf_0 : decode cX4_widthOf 0 = .ok (.iload_n 1, 1) := by decide +kernel
theorem dX4_widthOf_1 : decode cX4_widthOf 1 = .ok (.invokestatic 27, 3) := by decide +kernel
theorem dX4_widthOf_4 : decode cX4_widthOf 4 = .ok (.ifCond .eq 12, 3) := by decide +kernel
theorem dX4_widthOf_7 : decode cX4_widthOf 7 = .ok (.aload_n 0, 1) := by decide +kernel
theorem dX4_widthOf_8 : decode cX4_widthOf 8 = .ok (.getfield 9, 3) := by decide +kernel
theorem dX4_widthOf_11 : decode cX4_widthOf 11 = .ok (.iload_n 1, 1) := by decide +kernel
theorem dX4_widthOf_12 : decode cX4_widthOf 12 = .ok (.iaload, 1) := by decide +kernel
theorem dX4_widthOf_13 : decode cX4_widthOf 13 = .ok (.goto 4, 3) := by decide +kernel
theorem dX4_widthOf_16 : decode cX4_widthOf 16 = .ok (.iconst 0, 1) := by decide +kernel
theorem dX4_widthOf_17 : decode cX4_widthOf 17 = .ok (.ireturn, 1) := by decide +kernel
theorem dX4_statementCount_0 : decode cX4_statementCount 0 = .ok (.aload_n 0, 1) := by decide +kernel
theorem dX4_statementCount_1 : decode cX4_statementCount 1 = .ok (.getfield 20, 3) := by decide +kernel
theorem dX4_statementCount_4 : decode cX4_statementCount 4 = .ok (.invokevirtual 31, 3) := by decide +kernel
theorem dX4_statementCount_7 : decode cX4_statementCount 7 = .ok (.aload_n 0, 1) := by decide +kernel
theorem dX4_statementCount_8 : decode cX4_statementCount 8 = .ok (.getfield 24, 3) := by decide +kernel
theorem dX4_statementCount_11 : decode cX4_statementCount 11 = .ok (.invokevirtual 31, 3) := by decide +kernel
theorem dX4_statementCount_14 : decode cX4_statementCount 14 = .ok (.iadd, 1) := by decide +kernel
theorem dX4_statementCount_15 : decode cX4_statementCount 15 = .ok (.ireturn, 1) := by decide +kernel
theorem dX4_declare_0 : decode cX4_declare 0 = .ok (.iload_n 1, 1) := by decide +kernel
theorem dX4_declare_1 : decode cX4_declare 1 = .ok (.invokestatic 27, 3) := by decide +kernel
theorem dX4_declare_4 : decode cX4_declare 4 = .ok (.ifCond .eq 10, 3) := by decide +kernel
theorem dX4_declare_7 : decode cX4_declare 7 = .ok (.aload_n 0, 1) := by decide +kernel
theorem dX4_declare_8 : decode cX4_declare 8 = .ok (.getfield 9, 3) := by decide +kernel
theorem dX4_declare_11 : decode cX4_declare 11 = .ok (.iload_n 1, 1) := by decide +kernel
theorem dX4_declare_12 : decode cX4_declare 12 = .ok (.iload_n 2, 1) := by decide +kernel
theorem dX4_declare_13 : decode cX4_declare 13 = .ok (.iastore, 1) := by decide +kernel
theorem dX4_declare_14 : decode cX4_declare 14 = .ok (.return_, 1) := by decide +kernel
theorem dX4_clear_0 : decode cX4_clear 0 = .ok (.aload_n 0, 1) := by decide +kernel
theorem dX4_clear_1 : decode cX4_clear 1 = .ok (.getfield 9, 3) := by decide +kernel
theorem dX4_clear_4 : decode cX4_clear 4 = .ok (.iconst 0, 1) := by decide +kernel
theorem dX4_clear_5 : decode cX4_clear 5 = .ok (.invokestatic 35, 3) := by decide +kernel
theorem dX4_clear_8 : decode cX4_clear 8 = .ok (.aload_n 0, 1) := by decide +kernel
theorem dX4_clear_9 : decode cX4_clear 9 = .ok (.getfield 20, 3) := by decide +kernel
theorem dX4_clear_12 : decode cX4_clear 12 = .ok (.invokevirtual 41, 3) := by decide +kernel
theorem dX4_clear_15 : decode cX4_clear 15 = .ok (.aload_n 0, 1) := by decide +kernel
theorem dX4_clear_16 : decode cX4_clear 16 = .ok (.getfield 24, 3) := by decide +kernel
theorem dX4_clear_19 : decode cX4_clear 19 = .ok (.invokevirtual 41, 3) := by decide +kernel
theorem dX4_clear_22 : decode cX4_clear 22 = .ok (.return_, 1) := by decide +kernel
theorem dX4_copyFrom_0 : decode cX4_copyFrom 0 = .ok (.aload_n 1, 1) := by decide +kernel
theorem dX4_copyFrom_1 : decode cX4_copyFrom 1 = .ok (.getfield 9, 3) := by decide +kernel
theorem dX4_copyFrom_4 : decode cX4_copyFrom 4 = .ok (.iconst 0, 1) := by decide +kernel
theorem dX4_copyFrom_5 : decode cX4_copyFrom 5 = .ok (.aload_n 0, 1) := by decide +kernel
theorem dX4_copyFrom_6 : decode cX4_copyFrom 6 = .ok (.getfield 9, 3) := by decide +kernel
theorem dX4_copyFrom_9 : decode cX4_copyFrom 9 = .ok (.iconst 0, 1) := by decide +kernel
theorem dX4_copyFrom_10 : decode cX4_copyFrom 10 = .ok (.bipush 8, 2) := by decide +kernel
theorem dX4_copyFrom_12 : decode cX4_copyFrom 12 = .ok (.invokestatic 44, 3) := by decide +kernel
theorem dX4_copyFrom_15 : decode cX4_copyFrom 15 = .ok (.aload_n 0, 1) := by decide +kernel
theorem dX4_copyFrom_16 : decode cX4_copyFrom 16 = .ok (.getfield 20, 3) := by decide +kernel
theorem dX4_copyFrom_19 : decode cX4_copyFrom 19 = .ok (.aload_n 1, 1) := by decide +kernel
theorem dX4_copyFrom_20 : decode cX4_copyFrom 20 = .ok (.getfield 20, 3) := by decide +kernel
theorem dX4_copyFrom_23 : decode cX4_copyFrom 23 = .ok (.invokevirtual 50, 3) := by decide +kernel
theorem dX4_copyFrom_26 : decode cX4_copyFrom 26 = .ok (.aload_n 0, 1) := by decide +kernel
theorem dX4_copyFrom_27 : decode cX4_copyFrom 27 = .ok (.getfield 24, 3) := by decide +kernel
theorem dX4_copyFrom_30 : decode cX4_copyFrom 30 = .ok (.aload_n 1, 1) := by decide +kernel
theorem dX4_copyFrom_31 : decode cX4_copyFrom 31 = .ok (.getfield 24, 3) := by decide +kernel
theorem dX4_copyFrom_34 : decode cX4_copyFrom 34 = .ok (.invokevirtual 50, 3) := by decide +kernel
theorem dX4_copyFrom_37 : decode cX4_copyFrom 37 = .ok (.return_, 1) := by decide +kernel
theorem dX5_init_0 : decode cX5_init 0 = .ok (.aload_n 0, 1) := by decide +kernel
theorem dX5_init_1 : decode cX5_init 1 = .ok (.invokespecial 3, 3) := by decide +kernel
theorem dX5_init_4 : decode cX5_init 4 = .ok (.aload_n 0, 1) := by decide +kernel
theorem dX5_init_5 : decode cX5_init 5 = .ok (.new 9, 3) := by decide +kernel
theorem dX5_init_8 : decode cX5_init 8 = .ok (.dup, 1) := by decide +kernel
theorem dX5_init_9 : decode cX5_init 9 = .ok (.invokespecial 11, 3) := by decide +kernel
theorem dX5_init_12 : decode cX5_init 12 = .ok (.putfield 12, 3) := by decide +kernel
theorem dX5_init_15 : decode cX5_init 15 = .ok (.aload_n 0, 1) := by decide +kernel
theorem dX5_init_16 : decode cX5_init 16 = .ok (.aload_n 1, 1) := by decide +kernel
theorem dX5_init_17 : decode cX5_init 17 = .ok (.putfield 18, 3) := by decide +kernel
theorem dX5_init_20 : decode cX5_init 20 = .ok (.return_, 1) := by decide +kernel
theorem dX5_read_0 : decode cX5_read 0 = .ok (.aload_n 1, 1) := by decide +kernel
theorem dX5_read_1 : decode cX5_read 1 = .ok (.invokevirtual 22, 3) := by decide +kernel
theorem dX5_read_4 : decode cX5_read 4 = .ok (.aload_n 0, 1) := by decide +kernel
theorem dX5_read_5 : decode cX5_read 5 = .ok (.getfield 18, 3) := by decide +kernel
theorem dX5_read_8 : decode cX5_read 8 = .ok (.invokevirtual 27, 3) := by decide +kernel
theorem dX5_read_11 : decode cX5_read 11 = .ok (.iconst 1, 1) := by decide +kernel
theorem dX5_read_12 : decode cX5_read 12 = .ok (.istore_n 2, 1) := by decide +kernel
theorem dX5_read_13 : decode cX5_read 13 = .ok (.iconst 0, 1) := by decide +kernel
theorem dX5_read_14 : decode cX5_read 14 = .ok (.istore_n 3, 1) := by decide +kernel
theorem dX5_read_15 : decode cX5_read 15 = .ok (.iload_n 3, 1) := by decide +kernel
theorem dX5_read_16 : decode cX5_read 16 = .ok (.sipush 200, 3) := by decide +kernel
theorem dX5_read_19 : decode cX5_read 19 = .ok (.if_icmp .ge 53, 3) := by decide +kernel
theorem dX5_read_22 : decode cX5_read 22 = .ok (.iload_n 2, 1) := by decide +kernel
theorem dX5_read_23 : decode cX5_read 23 = .ok (.ifCond .eq 49, 3) := by decide +kernel
theorem dX5_read_26 : decode cX5_read 26 = .ok (.aload_n 0, 1) := by decide +kernel
theorem dX5_read_27 : decode cX5_read 27 = .ok (.getfield 18, 3) := by decide +kernel
theorem dX5_read_30 : decode cX5_read 30 = .ok (.invokevirtual 32, 3) := by decide +kernel
theorem dX5_read_33 : decode cX5_read 33 = .ok (.sipush 261, 3) := by decide +kernel
theorem dX5_read_36 : decode cX5_read 36 = .ok (.if_icmp .eq 36, 3) := by decide +kernel
theorem dX5_read_39 : decode cX5_read 39 = .ok (.aload_n 0, 1) := by decide +kernel
theorem dX5_read_40 : decode cX5_read 40 = .ok (.getfield 18, 3) := by decide +kernel
theorem dX5_read_43 : decode cX5_read 43 = .ok (.sipush 259, 3) := by decide +kernel
theorem dX5_read_46 : decode cX5_read 46 = .ok (.invokevirtual 36, 3) := by decide +kernel
theorem dX5_read_49 : decode cX5_read 49 = .ok (.ifCond .eq 11, 3) := by decide +kernel
theorem dX5_read_52 : decode cX5_read 52 = .ok (.aload_n 0, 1) := by decide +kernel
theorem dX5_read_53 : decode cX5_read 53 = .ok (.aload_n 1, 1) := by decide +kernel
theorem dX5_read_54 : decode cX5_read 54 = .ok (.invokevirtual 40, 3) := by decide +kernel
theorem dX5_read_57 : decode cX5_read 57 = .ok (.goto 8, 3) := by decide +kernel
theorem dX5_read_60 : decode cX5_read 60 = .ok (.aload_n 0, 1) := by decide +kernel
theorem dX5_read_61 : decode cX5_read 61 = .ok (.aload_n 1, 1) := by decide +kernel
theorem dX5_read_62 : decode cX5_read 62 = .ok (.invokevirtual 44, 3) := by decide +kernel
theorem dX5_read_65 : decode cX5_read 65 = .ok (.istore_n 2, 1) := by decide +kernel
theorem dX5_read_66 : decode cX5_read 66 = .ok (.iinc 3 1, 3) := by decide +kernel
theorem dX5_read_69 : decode cX5_read 69 = .ok (.goto (-54), 3) := by decide +kernel
theorem dX5_read_72 : decode cX5_read 72 = .ok (.iload_n 2, 1) := by decide +kernel
theorem dX5_read_73 : decode cX5_read 73 = .ok (.ifCond .eq 8, 3) := by decide +kernel
theorem dX5_read_76 : decode cX5_read 76 = .ok (.bipush (-9), 2) := by decide +kernel
theorem dX5_read_78 : decode cX5_read 78 = .ok (.goto 10, 3) := by decide +kernel
theorem dX5_read_81 : decode cX5_read 81 = .ok (.aload_n 0, 1) := by decide +kernel
theorem dX5_read_82 : decode cX5_read 82 = .ok (.getfield 18, 3) := by decide +kernel
theorem dX5_read_85 : decode cX5_read 85 = .ok (.invokevirtual 47, 3) := by decide +kernel
theorem dX5_read_88 : decode cX5_read 88 = .ok (.ireturn, 1) := by decide +kernel
theorem dX5_readDeclaration_0 : decode cX5_readDeclaration 0 = .ok (.aload_n 0, 1) := by decide +kernel
theorem dX5_readDeclaration_1 : decode cX5_readDeclaration 1 = .ok (.getfield 18, 3) := by decide +kernel
theorem dX5_readDeclaration_4 : decode cX5_readDeclaration 4 = .ok (.invokevirtual 50, 3) := by decide +kernel
theorem dX5_readDeclaration_7 : decode cX5_readDeclaration 7 = .ok (.istore_n 2, 1) := by decide +kernel
theorem dX5_readDeclaration_8 : decode cX5_readDeclaration 8 = .ok (.iload_n 2, 1) := by decide +kernel
theorem dX5_readDeclaration_9 : decode cX5_readDeclaration 9 = .ok (.bipush (-9), 2) := by decide +kernel
theorem dX5_readDeclaration_11 : decode cX5_readDeclaration 11 = .ok (.if_icmp .eq 11, 3) := by decide +kernel
theorem dX5_readDeclaration_14 : decode cX5_readDeclaration 14 = .ok (.aload_n 1, 1) := by decide +kernel
theorem dX5_readDeclaration_15 : decode cX5_readDeclaration 15 = .ok (.iload_n 2, 1) := by decide +kernel
theorem dX5_readDeclaration_16 : decode cX5_readDeclaration 16 = .ok (.invokevirtual 53, 3) := by decide +kernel
theorem dX5_readDeclaration_19 : decode cX5_readDeclaration 19 = .ok (.ifCond .eq 5, 3) := by decide +kernel
theorem dX5_readDeclaration_22 : decode cX5_readDeclaration 22 = .ok (.iconst 0, 1) := by decide +kernel
theorem dX5_readDeclaration_23 : decode cX5_readDeclaration 23 = .ok (.ireturn, 1) := by decide +kernel
theorem dX5_readDeclaration_24 : decode cX5_readDeclaration 24 = .ok (.aload_n 0, 1) := by decide +kernel
theorem dX5_readDeclaration_25 : decode cX5_readDeclaration 25 = .ok (.getfield 18, 3) := by decide +kernel
theorem dX5_readDeclaration_28 : decode cX5_readDeclaration 28 = .ok (.invokevirtual 57, 3) := by decide +kernel
theorem dX5_readDeclaration_31 : decode cX5_readDeclaration 31 = .ok (.aload_n 0, 1) := by decide +kernel
theorem dX5_readDeclaration_32 : decode cX5_readDeclaration 32 = .ok (.getfield 18, 3) := by decide +kernel
theorem dX5_readDeclaration_35 : decode cX5_readDeclaration 35 = .ok (.invokevirtual 60, 3) := by decide +kernel
theorem dX5_readDeclaration_38 : decode cX5_readDeclaration 38 = .ok (.istore_n 3, 1) := by decide +kernel
theorem dX5_readDeclaration_39 : decode cX5_readDeclaration 39 = .ok (.iload_n 3, 1) := by decide +kernel
theorem dX5_readDeclaration_40 : decode cX5_readDeclaration 40 = .ok (.iconst 1, 1) := by decide +kernel
theorem dX5_readDeclaration_41 : decode cX5_readDeclaration 41 = .ok (.if_icmp .lt 9, 3) := by decide +kernel
theorem dX5_readDeclaration_44 : decode cX5_readDeclaration 44 = .ok (.iload_n 3, 1) := by decide +kernel
theorem dX5_readDeclaration_45 : decode cX5_readDeclaration 45 = .ok (.bipush 16, 2) := by decide +kernel
theorem dX5_readDeclaration_47 : decode cX5_readDeclaration 47 = .ok (.if_icmp .le 5, 3) := by decide +kernel
theorem dX5_readDeclaration_50 : decode cX5_readDeclaration 50 = .ok (.iconst 0, 1) := by decide +kernel
theorem dX5_readDeclaration_51 : decode cX5_readDeclaration 51 = .ok (.ireturn, 1) := by decide +kernel
theorem dX5_readDeclaration_52 : decode cX5_readDeclaration 52 = .ok (.aload_n 0, 1) := by decide +kernel
theorem dX5_readDeclaration_53 : decode cX5_readDeclaration 53 = .ok (.getfield 18, 3) := by decide +kernel
theorem dX5_readDeclaration_56 : decode cX5_readDeclaration 56 = .ok (.invokevirtual 57, 3) := by decide +kernel
theorem dX5_readDeclaration_59 : decode cX5_readDeclaration 59 = .ok (.aload_n 1, 1) := by decide +kernel
theorem dX5_readDeclaration_60 : decode cX5_readDeclaration 60 = .ok (.iload_n 2, 1) := by decide +kernel
theorem dX5_readDeclaration_61 : decode cX5_readDeclaration 61 = .ok (.iload_n 3, 1) := by decide +kernel
theorem dX5_readDeclaration_62 : decode cX5_readDeclaration 62 = .ok (.invokevirtual 63, 3) := by decide +kernel
theorem dX5_readDeclaration_65 : decode cX5_readDeclaration 65 = .ok (.aload_n 0, 1) := by decide +kernel
theorem dX5_readDeclaration_66 : decode cX5_readDeclaration 66 = .ok (.getfield 18, 3) := by decide +kernel
theorem dX5_readDeclaration_69 : decode cX5_readDeclaration 69 = .ok (.bipush 59, 2) := by decide +kernel
theorem dX5_readDeclaration_71 : decode cX5_readDeclaration 71 = .ok (.invokevirtual 36, 3) := by decide +kernel
theorem dX5_readDeclaration_74 : decode cX5_readDeclaration 74 = .ok (.ireturn, 1) := by decide +kernel
theorem dX5_readStatement_0 : decode cX5_readStatement 0 = .ok (.aload_n 0, 1) := by decide +kernel
theorem dX5_readStatement_1 : decode cX5_readStatement 1 = .ok (.getfield 18, 3) := by decide +kernel
theorem dX5_readStatement_4 : decode cX5_readStatement 4 = .ok (.invokevirtual 32, 3) := by decide +kernel
theorem dX5_readStatement_7 : decode cX5_readStatement 7 = .ok (.sipush 260, 3) := by decide +kernel
theorem dX5_readStatement_10 : decode cX5_readStatement 10 = .ok (.if_icmp .ne 7, 3) := by decide +kernel
theorem dX5_readStatement_13 : decode cX5_readStatement 13 = .ok (.iconst 1, 1) := by decide +kernel
theorem dX5_readStatement_14 : decode cX5_readStatement 14 = .ok (.goto 4, 3) := by decide +kernel
theorem dX5_readStatement_17 : decode cX5_readStatement 17 = .ok (.iconst 0, 1) := by decide +kernel
theorem dX5_readStatement_18 : decode cX5_readStatement 18 = .ok (.istore_n 2, 1) := by decide +kernel
theorem dX5_readStatement_19 : decode cX5_readStatement 19 = .ok (.iload_n 2, 1) := by decide +kernel
theorem dX5_readStatement_20 : decode cX5_readStatement 20 = .ok (.ifCond .eq 10, 3) := by decide +kernel
theorem dX5_readStatement_23 : decode cX5_readStatement 23 = .ok (.aload_n 1, 1) := by decide +kernel
theorem dX5_readStatement_24 : decode cX5_readStatement 24 = .ok (.getfield 67, 3) := by decide +kernel
theorem dX5_readStatement_27 : decode cX5_readStatement 27 = .ok (.goto 7, 3) := by decide +kernel
theorem dX5_readStatement_30 : decode cX5_readStatement 30 = .ok (.aload_n 1, 1) := by decide +kernel
theorem dX5_readStatement_31 : decode cX5_readStatement 31 = .ok (.getfield 71, 3) := by decide +kernel
theorem dX5_readStatement_34 : decode cX5_readStatement 34 = .ok (.astore_n 3, 1) := by decide +kernel
theorem dX5_readStatement_35 : decode cX5_readStatement 35 = .ok (.aload_n 3, 1) := by decide +kernel
theorem dX5_readStatement_36 : decode cX5_readStatement 36 = .ok (.invokevirtual 74, 3) := by decide +kernel
theorem dX5_readStatement_39 : decode cX5_readStatement 39 = .ok (.ifCond .eq 5, 3) := by decide +kernel
theorem dX5_readStatement_42 : decode cX5_readStatement 42 = .ok (.iconst 0, 1) := by decide +kernel
theorem dX5_readStatement_43 : decode cX5_readStatement 43 = .ok (.ireturn, 1) := by decide +kernel
theorem dX5_readStatement_44 : decode cX5_readStatement 44 = .ok (.iload_n 2, 1) := by decide +kernel
theorem dX5_readStatement_45 : decode cX5_readStatement 45 = .ok (.ifCond .eq 10, 3) := by decide +kernel
theorem dX5_readStatement_48 : decode cX5_readStatement 48 = .ok (.aload_n 0, 1) := by decide +kernel
theorem dX5_readStatement_49 : decode cX5_readStatement 49 = .ok (.getfield 18, 3) := by decide +kernel
theorem dX5_readStatement_52 : decode cX5_readStatement 52 = .ok (.invokevirtual 57, 3) := by decide +kernel
theorem dX5_readStatement_55 : decode cX5_readStatement 55 = .ok (.aload_n 0, 1) := by decide +kernel
theorem dX5_readStatement_56 : decode cX5_readStatement 56 = .ok (.aload_n 1, 1) := by decide +kernel
theorem dX5_readStatement_57 : decode cX5_readStatement 57 = .ok (.invokevirtual 80, 3) := by decide +kernel
theorem dX5_readStatement_60 : decode cX5_readStatement 60 = .ok (.ifCond .eq 27, 3) := by decide +kernel
theorem dX5_readStatement_63 : decode cX5_readStatement 63 = .ok (.aload_n 0, 1) := by decide +kernel
theorem dX5_readStatement_64 : decode cX5_readStatement 64 = .ok (.getfield 12, 3) := by decide +kernel
theorem dX5_readStatement_67 : decode cX5_readStatement 67 = .ok (.invokevirtual 83, 3) := by decide +kernel
theorem dX5_readStatement_70 : decode cX5_readStatement 70 = .ok (.bipush 16, 2) := by decide +kernel
theorem dX5_readStatement_72 : decode cX5_readStatement 72 = .ok (.if_icmp .gt 15, 3) := by decide +kernel
theorem dX5_readStatement_75 : decode cX5_readStatement 75 = .ok (.aload_n 0, 1) := by decide +kernel
theorem dX5_readStatement_76 : decode cX5_readStatement 76 = .ok (.getfield 18, 3) := by decide +kernel
theorem dX5_readStatement_79 : decode cX5_readStatement 79 = .ok (.bipush 61, 2) := by decide +kernel
theorem dX5_readStatement_81 : decode cX5_readStatement 81 = .ok (.invokevirtual 36, 3) := by decide +kernel
theorem dX5_readStatement_84 : decode cX5_readStatement 84 = .ok (.ifCond .ne 5, 3) := by decide +kernel
theorem dX5_readStatement_87 : decode cX5_readStatement 87 = .ok (.iconst 0, 1) := by decide +kernel
theorem dX5_readStatement_88 : decode cX5_readStatement 88 = .ok (.ireturn, 1) := by decide +kernel
theorem dX5_readStatement_89 : decode cX5_readStatement 89 = .ok (.aload_n 0, 1) := by decide +kernel
theorem dX5_readStatement_90 : decode cX5_readStatement 90 = .ok (.getfield 12, 3) := by decide +kernel
theorem dX5_readStatement_93 : decode cX5_readStatement 93 = .ok (.invokevirtual 83, 3) := by decide +kernel
theorem dX5_readStatement_96 : decode cX5_readStatement 96 = .ok (.istore 4, 2) := by decide +kernel
theorem dX5_readStatement_98 : decode cX5_readStatement 98 = .ok (.aload_n 3, 1) := by decide +kernel
theorem dX5_readStatement_99 : decode cX5_readStatement 99 = .ok (.iconst 0, 1) := by decide +kernel
theorem dX5_readStatement_100 : decode cX5_readStatement 100 = .ok (.aload_n 0, 1) := by decide +kernel
theorem dX5_readStatement_101 : decode cX5_readStatement 101 = .ok (.getfield 12, 3) := by decide +kernel
theorem dX5_readStatement_104 : decode cX5_readStatement 104 = .ok (.invokevirtual 86, 3) := by decide +kernel
theorem dX5_readStatement_107 : decode cX5_readStatement 107 = .ok (.aload_n 0, 1) := by decide +kernel
theorem dX5_readStatement_108 : decode cX5_readStatement 108 = .ok (.aload_n 1, 1) := by decide +kernel
theorem dX5_readStatement_109 : decode cX5_readStatement 109 = .ok (.invokevirtual 80, 3) := by decide +kernel
theorem dX5_readStatement_112 : decode cX5_readStatement 112 = .ok (.ifCond .eq 27, 3) := by decide +kernel
theorem dX5_readStatement_115 : decode cX5_readStatement 115 = .ok (.aload_n 0, 1) := by decide +kernel
theorem dX5_readStatement_116 : decode cX5_readStatement 116 = .ok (.getfield 12, 3) := by decide +kernel
theorem dX5_readStatement_119 : decode cX5_readStatement 119 = .ok (.invokevirtual 83, 3) := by decide +kernel
theorem dX5_readStatement_122 : decode cX5_readStatement 122 = .ok (.iload 4, 2) := by decide +kernel
theorem dX5_readStatement_124 : decode cX5_readStatement 124 = .ok (.if_icmp .ne 15, 3) := by decide +kernel
theorem dX5_readStatement_127 : decode cX5_readStatement 127 = .ok (.aload_n 0, 1) := by decide +kernel
theorem dX5_readStatement_128 : decode cX5_readStatement 128 = .ok (.getfield 18, 3) := by decide +kernel
theorem dX5_readStatement_131 : decode cX5_readStatement 131 = .ok (.bipush 59, 2) := by decide +kernel
theorem dX5_readStatement_133 : decode cX5_readStatement 133 = .ok (.invokevirtual 36, 3) := by decide +kernel
theorem dX5_readStatement_136 : decode cX5_readStatement 136 = .ok (.ifCond .ne 5, 3) := by decide +kernel
theorem dX5_readStatement_139 : decode cX5_readStatement 139 = .ok (.iconst 0, 1) := by decide +kernel
theorem dX5_readStatement_140 : decode cX5_readStatement 140 = .ok (.ireturn, 1) := by decide +kernel
theorem dX5_readStatement_141 : decode cX5_readStatement 141 = .ok (.aload_n 3, 1) := by decide +kernel
theorem dX5_readStatement_142 : decode cX5_readStatement 142 = .ok (.iconst 1, 1) := by decide +kernel
theorem dX5_readStatement_143 : decode cX5_readStatement 143 = .ok (.aload_n 0, 1) := by decide +kernel
theorem dX5_readStatement_144 : decode cX5_readStatement 144 = .ok (.getfield 12, 3) := by decide +kernel
theorem dX5_readStatement_147 : decode cX5_readStatement 147 = .ok (.invokevirtual 86, 3) := by decide +kernel
theorem dX5_readStatement_150 : decode cX5_readStatement 150 = .ok (.aload_n 3, 1) := by decide +kernel
theorem dX5_readStatement_151 : decode cX5_readStatement 151 = .ok (.iload 4, 2) := by decide +kernel
theorem dX5_readStatement_153 : decode cX5_readStatement 153 = .ok (.invokevirtual 90, 3) := by decide +kernel
theorem dX5_readStatement_156 : decode cX5_readStatement 156 = .ok (.iconst 1, 1) := by decide +kernel
theorem dX5_readStatement_157 : decode cX5_readStatement 157 = .ok (.ireturn, 1) := by decide +kernel
theorem dX5_readTerm_0 : decode cX5_readTerm 0 = .ok (.aload_n 0, 1) := by decide +kernel
theorem dX5_readTerm_1 : decode cX5_readTerm 1 = .ok (.getfield 12, 3) := by decide +kernel
theorem dX5_readTerm_4 : decode cX5_readTerm 4 = .ok (.invokevirtual 94, 3) := by decide +kernel
theorem dX5_readTerm_7 : decode cX5_readTerm 7 = .ok (.aload_n 0, 1) := by decide +kernel
theorem dX5_readTerm_8 : decode cX5_readTerm 8 = .ok (.aload_n 1, 1) := by decide +kernel
theorem dX5_readTerm_9 : decode cX5_readTerm 9 = .ok (.invokevirtual 95, 3) := by decide +kernel
theorem dX5_readTerm_12 : decode cX5_readTerm 12 = .ok (.istore_n 2, 1) := by decide +kernel
theorem dX5_readTerm_13 : decode cX5_readTerm 13 = .ok (.iconst 0, 1) := by decide +kernel
theorem dX5_readTerm_14 : decode cX5_readTerm 14 = .ok (.istore_n 3, 1) := by decide +kernel
theorem dX5_readTerm_15 : decode cX5_readTerm 15 = .ok (.iload_n 3, 1) := by decide +kernel
theorem dX5_readTerm_16 : decode cX5_readTerm 16 = .ok (.sipush 200, 3) := by decide +kernel
theorem dX5_readTerm_19 : decode cX5_readTerm 19 = .ok (.if_icmp .ge 31, 3) := by decide +kernel
theorem dX5_readTerm_22 : decode cX5_readTerm 22 = .ok (.iload_n 2, 1) := by decide +kernel
theorem dX5_readTerm_23 : decode cX5_readTerm 23 = .ok (.ifCond .eq 27, 3) := by decide +kernel
theorem dX5_readTerm_26 : decode cX5_readTerm 26 = .ok (.aload_n 0, 1) := by decide +kernel
theorem dX5_readTerm_27 : decode cX5_readTerm 27 = .ok (.getfield 18, 3) := by decide +kernel
theorem dX5_readTerm_30 : decode cX5_readTerm 30 = .ok (.bipush 46, 2) := by decide +kernel
theorem dX5_readTerm_32 : decode cX5_readTerm 32 = .ok (.invokevirtual 36, 3) := by decide +kernel
theorem dX5_readTerm_35 : decode cX5_readTerm 35 = .ok (.ifCond .eq 15, 3) := by decide +kernel
theorem dX5_readTerm_38 : decode cX5_readTerm 38 = .ok (.aload_n 0, 1) := by decide +kernel
theorem dX5_readTerm_39 : decode cX5_readTerm 39 = .ok (.aload_n 1, 1) := by decide +kernel
theorem dX5_readTerm_40 : decode cX5_readTerm 40 = .ok (.invokevirtual 95, 3) := by decide +kernel
theorem dX5_readTerm_43 : decode cX5_readTerm 43 = .ok (.istore_n 2, 1) := by decide +kernel
theorem dX5_readTerm_44 : decode cX5_readTerm 44 = .ok (.iinc 3 1, 3) := by decide +kernel
theorem dX5_readTerm_47 : decode cX5_readTerm 47 = .ok (.goto (-32), 3) := by decide +kernel
theorem dX5_readTerm_50 : decode cX5_readTerm 50 = .ok (.iload_n 2, 1) := by decide +kernel
theorem dX5_readTerm_51 : decode cX5_readTerm 51 = .ok (.ireturn, 1) := by decide +kernel
theorem dX5_readPart_0 : decode cX5_readPart 0 = .ok (.aload_n 0, 1) := by decide +kernel
theorem dX5_readPart_1 : decode cX5_readPart 1 = .ok (.getfield 18, 3) := by decide +kernel
theorem dX5_readPart_4 : decode cX5_readPart 4 = .ok (.bipush 37, 2) := by decide +kernel
theorem dX5_readPart_6 : decode cX5_readPart 6 = .ok (.invokevirtual 36, 3) := by decide +kernel
theorem dX5_readPart_9 : decode cX5_readPart 9 = .ok (.ifCond .eq 8, 3) := by decide +kernel
theorem dX5_readPart_12 : decode cX5_readPart 12 = .ok (.aload_n 0, 1) := by decide +kernel
theorem dX5_readPart_13 : decode cX5_readPart 13 = .ok (.invokevirtual 98, 3) := by decide +kernel
theorem dX5_readPart_16 : decode cX5_readPart 16 = .ok (.ireturn, 1) := by decide +kernel
theorem dX5_readPart_17 : decode cX5_readPart 17 = .ok (.aload_n 0, 1) := by decide +kernel
theorem dX5_readPart_18 : decode cX5_readPart 18 = .ok (.getfield 18, 3) := by decide +kernel
theorem dX5_readPart_21 : decode cX5_readPart 21 = .ok (.invokevirtual 50, 3) := by decide +kernel
theorem dX5_readPart_24 : decode cX5_readPart 24 = .ok (.istore_n 2, 1) := by decide +kernel
theorem dX5_readPart_25 : decode cX5_readPart 25 = .ok (.iload_n 2, 1) := by decide +kernel
theorem dX5_readPart_26 : decode cX5_readPart 26 = .ok (.bipush (-9), 2) := by decide +kernel
theorem dX5_readPart_28 : decode cX5_readPart 28 = .ok (.if_icmp .eq 11, 3) := by decide +kernel
theorem dX5_readPart_31 : decode cX5_readPart 31 = .ok (.aload_n 1, 1) := by decide +kernel
theorem dX5_readPart_32 : decode cX5_readPart 32 = .ok (.iload_n 2, 1) := by decide +kernel
theorem dX5_readPart_33 : decode cX5_readPart 33 = .ok (.invokevirtual 53, 3) := by decide +kernel
theorem dX5_readPart_36 : decode cX5_readPart 36 = .ok (.ifCond .ne 5, 3) := by decide +kernel
theorem dX5_readPart_39 : decode cX5_readPart 39 = .ok (.iconst 0, 1) := by decide +kernel
theorem dX5_readPart_40 : decode cX5_readPart 40 = .ok (.ireturn, 1) := by decide +kernel
theorem dX5_readPart_41 : decode cX5_readPart 41 = .ok (.aload_n 0, 1) := by decide +kernel
theorem dX5_readPart_42 : decode cX5_readPart 42 = .ok (.getfield 18, 3) := by decide +kernel
theorem dX5_readPart_45 : decode cX5_readPart 45 = .ok (.invokevirtual 57, 3) := by decide +kernel
theorem dX5_readPart_48 : decode cX5_readPart 48 = .ok (.aload_n 0, 1) := by decide +kernel
theorem dX5_readPart_49 : decode cX5_readPart 49 = .ok (.aload_n 1, 1) := by decide +kernel
theorem dX5_readPart_50 : decode cX5_readPart 50 = .ok (.iload_n 2, 1) := by decide +kernel
theorem dX5_readPart_51 : decode cX5_readPart 51 = .ok (.invokevirtual 53, 3) := by decide +kernel
theorem dX5_readPart_54 : decode cX5_readPart 54 = .ok (.iconst 1, 1) := by decide +kernel
theorem dX5_readPart_55 : decode cX5_readPart 55 = .ok (.isub, 1) := by decide +kernel
theorem dX5_readPart_56 : decode cX5_readPart 56 = .ok (.putfield 101, 3) := by decide +kernel
theorem dX5_readPart_59 : decode cX5_readPart 59 = .ok (.aload_n 0, 1) := by decide +kernel
theorem dX5_readPart_60 : decode cX5_readPart 60 = .ok (.iconst 0, 1) := by decide +kernel
theorem dX5_readPart_61 : decode cX5_readPart 61 = .ok (.putfield 105, 3) := by decide +kernel
theorem dX5_readPart_64 : decode cX5_readPart 64 = .ok (.aload_n 0, 1) := by decide +kernel
theorem dX5_readPart_65 : decode cX5_readPart 65 = .ok (.getfield 18, 3) := by decide +kernel
theorem dX5_readPart_68 : decode cX5_readPart 68 = .ok (.bipush 91, 2) := by decide +kernel
theorem dX5_readPart_70 : decode cX5_readPart 70 = .ok (.invokevirtual 36, 3) := by decide +kernel
theorem dX5_readPart_73 : decode cX5_readPart 73 = .ok (.ifCond .eq 12, 3) := by decide +kernel
theorem dX5_readPart_76 : decode cX5_readPart 76 = .ok (.aload_n 0, 1) := by decide +kernel
theorem dX5_readPart_77 : decode cX5_readPart 77 = .ok (.invokevirtual 108, 3) := by decide +kernel
theorem dX5_readPart_80 : decode cX5_readPart 80 = .ok (.ifCond .ne 5, 3) := by decide +kernel
theorem dX5_readPart_83 : decode cX5_readPart 83 = .ok (.iconst 0, 1) := by decide +kernel
theorem dX5_readPart_84 : decode cX5_readPart 84 = .ok (.ireturn, 1) := by decide +kernel
theorem dX5_readPart_85 : decode cX5_readPart 85 = .ok (.aload_n 0, 1) := by decide +kernel
theorem dX5_readPart_86 : decode cX5_readPart 86 = .ok (.getfield 12, 3) := by decide +kernel
theorem dX5_readPart_89 : decode cX5_readPart 89 = .ok (.iload_n 2, 1) := by decide +kernel
theorem dX5_readPart_90 : decode cX5_readPart 90 = .ok (.aload_n 0, 1) := by decide +kernel
theorem dX5_readPart_91 : decode cX5_readPart 91 = .ok (.getfield 101, 3) := by decide +kernel
theorem dX5_readPart_94 : decode cX5_readPart 94 = .ok (.invokestatic 111, 3) := by decide +kernel
theorem dX5_readPart_97 : decode cX5_readPart 97 = .ok (.iload_n 2, 1) := by decide +kernel
theorem dX5_readPart_98 : decode cX5_readPart 98 = .ok (.aload_n 0, 1) := by decide +kernel
theorem dX5_readPart_99 : decode cX5_readPart 99 = .ok (.getfield 105, 3) := by decide +kernel
theorem dX5_readPart_102 : decode cX5_readPart 102 = .ok (.invokestatic 111, 3) := by decide +kernel
theorem dX5_readPart_105 : decode cX5_readPart 105 = .ok (.invokevirtual 115, 3) := by decide +kernel
theorem dX5_readPart_108 : decode cX5_readPart 108 = .ok (.iconst 1, 1) := by decide +kernel
theorem dX5_readPart_109 : decode cX5_readPart 109 = .ok (.ireturn, 1) := by decide +kernel
theorem dX5_readRange_0 : decode cX5_readRange 0 = .ok (.aload_n 0, 1) := by decide +kernel
theorem dX5_readRange_1 : decode cX5_readRange 1 = .ok (.getfield 18, 3) := by decide +kernel
theorem dX5_readRange_4 : decode cX5_readRange 4 = .ok (.invokevirtual 60, 3) := by decide +kernel
theorem dX5_readRange_7 : decode cX5_readRange 7 = .ok (.istore_n 1, 1) := by decide +kernel
theorem dX5_readRange_8 : decode cX5_readRange 8 = .ok (.iload_n 1, 1) := by decide +kernel
theorem dX5_readRange_9 : decode cX5_readRange 9 = .ok (.ifCond .lt 11, 3) := by decide +kernel
theorem dX5_readRange_12 : decode cX5_readRange 12 = .ok (.iload_n 1, 1) := by decide +kernel
theorem dX5_readRange_13 : decode cX5_readRange 13 = .ok (.aload_n 0, 1) := by decide +kernel
theorem dX5_readRange_14 : decode cX5_readRange 14 = .ok (.getfield 101, 3) := by decide +kernel
theorem dX5_readRange_17 : decode cX5_readRange 17 = .ok (.if_icmp .le 5, 3) := by decide +kernel
theorem dX5_readRange_20 : decode cX5_readRange 20 = .ok (.iconst 0, 1) := by decide +kernel
theorem dX5_readRange_21 : decode cX5_readRange 21 = .ok (.ireturn, 1) := by decide +kernel
theorem dX5_readRange_22 : decode cX5_readRange 22 = .ok (.aload_n 0, 1) := by decide +kernel
theorem dX5_readRange_23 : decode cX5_readRange 23 = .ok (.iload_n 1, 1) := by decide +kernel
theorem dX5_readRange_24 : decode cX5_readRange 24 = .ok (.putfield 101, 3) := by decide +kernel
theorem dX5_readRange_27 : decode cX5_readRange 27 = .ok (.aload_n 0, 1) := by decide +kernel
theorem dX5_readRange_28 : decode cX5_readRange 28 = .ok (.getfield 18, 3) := by decide +kernel
theorem dX5_readRange_31 : decode cX5_readRange 31 = .ok (.invokevirtual 57, 3) := by decide +kernel
theorem dX5_readRange_34 : decode cX5_readRange 34 = .ok (.aload_n 0, 1) := by decide +kernel
theorem dX5_readRange_35 : decode cX5_readRange 35 = .ok (.getfield 18, 3) := by decide +kernel
theorem dX5_readRange_38 : decode cX5_readRange 38 = .ok (.bipush 58, 2) := by decide +kernel
theorem dX5_readRange_40 : decode cX5_readRange 40 = .ok (.invokevirtual 36, 3) := by decide +kernel
theorem dX5_readRange_43 : decode cX5_readRange 43 = .ok (.ifCond .ne 5, 3) := by decide +kernel
theorem dX5_readRange_46 : decode cX5_readRange 46 = .ok (.iconst 0, 1) := by decide +kernel
theorem dX5_readRange_47 : decode cX5_readRange 47 = .ok (.ireturn, 1) := by decide +kernel
theorem dX5_readRange_48 : decode cX5_readRange 48 = .ok (.aload_n 0, 1) := by decide +kernel
theorem dX5_readRange_49 : decode cX5_readRange 49 = .ok (.getfield 18, 3) := by decide +kernel
theorem dX5_readRange_52 : decode cX5_readRange 52 = .ok (.invokevirtual 60, 3) := by decide +kernel
theorem dX5_readRange_55 : decode cX5_readRange 55 = .ok (.istore_n 2, 1) := by decide +kernel
theorem dX5_readRange_56 : decode cX5_readRange 56 = .ok (.iload_n 2, 1) := by decide +kernel
theorem dX5_readRange_57 : decode cX5_readRange 57 = .ok (.ifCond .lt 11, 3) := by decide +kernel
theorem dX5_readRange_60 : decode cX5_readRange 60 = .ok (.iload_n 2, 1) := by decide +kernel
theorem dX5_readRange_61 : decode cX5_readRange 61 = .ok (.aload_n 0, 1) := by decide +kernel
theorem dX5_readRange_62 : decode cX5_readRange 62 = .ok (.getfield 101, 3) := by decide +kernel
theorem dX5_readRange_65 : decode cX5_readRange 65 = .ok (.if_icmp .le 5, 3) := by decide +kernel
theorem dX5_readRange_68 : decode cX5_readRange 68 = .ok (.iconst 0, 1) := by decide +kernel
theorem dX5_readRange_69 : decode cX5_readRange 69 = .ok (.ireturn, 1) := by decide +kernel
theorem dX5_readRange_70 : decode cX5_readRange 70 = .ok (.aload_n 0, 1) := by decide +kernel
theorem dX5_readRange_71 : decode cX5_readRange 71 = .ok (.iload_n 2, 1) := by decide +kernel
theorem dX5_readRange_72 : decode cX5_readRange 72 = .ok (.putfield 105, 3) := by decide +kernel
theorem dX5_readRange_75 : decode cX5_readRange 75 = .ok (.aload_n 0, 1) := by decide +kernel
theorem dX5_readRange_76 : decode cX5_readRange 76 = .ok (.getfield 18, 3) := by decide +kernel
theorem dX5_readRange_79 : decode cX5_readRange 79 = .ok (.invokevirtual 57, 3) := by decide +kernel
theorem dX5_readRange_82 : decode cX5_readRange 82 = .ok (.aload_n 0, 1) := by decide +kernel
theorem dX5_readRange_83 : decode cX5_readRange 83 = .ok (.getfield 18, 3) := by decide +kernel
theorem dX5_readRange_86 : decode cX5_readRange 86 = .ok (.bipush 93, 2) := by decide +kernel
theorem dX5_readRange_88 : decode cX5_readRange 88 = .ok (.invokevirtual 36, 3) := by decide +kernel
theorem dX5_readRange_91 : decode cX5_readRange 91 = .ok (.ireturn, 1) := by decide +kernel
theorem dX5_readConstant_0 : decode cX5_readConstant 0 = .ok (.aload_n 0, 1) := by decide +kernel
theorem dX5_readConstant_1 : decode cX5_readConstant 1 = .ok (.getfield 18, 3) := by decide +kernel
theorem dX5_readConstant_4 : decode cX5_readConstant 4 = .ok (.invokevirtual 118, 3) := by decide +kernel
theorem dX5_readConstant_7 : decode cX5_readConstant 7 = .ok (.istore_n 1, 1) := by decide +kernel
theorem dX5_readConstant_8 : decode cX5_readConstant 8 = .ok (.iload_n 1, 1) := by decide +kernel
theorem dX5_readConstant_9 : decode cX5_readConstant 9 = .ok (.ifCond .ne 5, 3) := by decide +kernel
theorem dX5_readConstant_12 : decode cX5_readConstant 12 = .ok (.iconst 0, 1) := by decide +kernel
theorem dX5_readConstant_13 : decode cX5_readConstant 13 = .ok (.ireturn, 1) := by decide +kernel
theorem dX5_readConstant_14 : decode cX5_readConstant 14 = .ok (.aload_n 0, 1) := by decide +kernel
theorem dX5_readConstant_15 : decode cX5_readConstant 15 = .ok (.getfield 12, 3) := by decide +kernel
theorem dX5_readConstant_18 : decode cX5_readConstant 18 = .ok (.invokevirtual 121, 3) := by decide +kernel
theorem dX5_readConstant_21 : decode cX5_readConstant 21 = .ok (.iconst 0, 1) := by decide +kernel
theorem dX5_readConstant_22 : decode cX5_readConstant 22 = .ok (.istore_n 2, 1) := by decide +kernel
theorem dX5_readConstant_23 : decode cX5_readConstant 23 = .ok (.iload_n 2, 1) := by decide +kernel
theorem dX5_readConstant_24 : decode cX5_readConstant 24 = .ok (.iload_n 1, 1) := by decide +kernel
theorem dX5_readConstant_25 : decode cX5_readConstant 25 = .ok (.if_icmp .ge 28, 3) := by decide +kernel
theorem dX5_readConstant_28 : decode cX5_readConstant 28 = .ok (.aload_n 0, 1) := by decide +kernel
theorem dX5_readConstant_29 : decode cX5_readConstant 29 = .ok (.getfield 12, 3) := by decide +kernel
theorem dX5_readConstant_32 : decode cX5_readConstant 32 = .ok (.sipush 128, 3) := by decide +kernel
theorem dX5_readConstant_35 : decode cX5_readConstant 35 = .ok (.aload_n 0, 1) := by decide +kernel
theorem dX5_readConstant_36 : decode cX5_readConstant 36 = .ok (.getfield 18, 3) := by decide +kernel
theorem dX5_readConstant_39 : decode cX5_readConstant 39 = .ok (.iload_n 2, 1) := by decide +kernel
theorem dX5_readConstant_40 : decode cX5_readConstant 40 = .ok (.invokevirtual 124, 3) := by decide +kernel
theorem dX5_readConstant_43 : decode cX5_readConstant 43 = .ok (.iadd, 1) := by decide +kernel
theorem dX5_readConstant_44 : decode cX5_readConstant 44 = .ok (.invokevirtual 127, 3) := by decide +kernel
theorem dX5_readConstant_47 : decode cX5_readConstant 47 = .ok (.iinc 2 1, 3) := by decide +kernel
theorem dX5_readConstant_50 : decode cX5_readConstant 50 = .ok (.goto (-27), 3) := by decide +kernel
theorem dX5_readConstant_53 : decode cX5_readConstant 53 = .ok (.aload_n 0, 1) := by decide +kernel
theorem dX5_readConstant_54 : decode cX5_readConstant 54 = .ok (.getfield 18, 3) := by decide +kernel
theorem dX5_readConstant_57 : decode cX5_readConstant 57 = .ok (.invokevirtual 57, 3) := by decide +kernel
theorem dX5_readConstant_60 : decode cX5_readConstant 60 = .ok (.iconst 1, 1) := by decide +kernel
theorem dX5_readConstant_61 : decode cX5_readConstant 61 = .ok (.ireturn, 1) := by decide +kernel
theorem dX6_init_0 : decode cX6_init 0 = .ok (.aload_n 0, 1) := by decide +kernel
theorem dX6_init_1 : decode cX6_init 1 = .ok (.invokespecial 3, 3) := by decide +kernel
theorem dX6_init_4 : decode cX6_init 4 = .ok (.aload_n 0, 1) := by decide +kernel
theorem dX6_init_5 : decode cX6_init 5 = .ok (.iload_n 1, 1) := by decide +kernel
theorem dX6_init_6 : decode cX6_init 6 = .ok (.iconst 0, 1) := by decide +kernel
theorem dX6_init_7 : decode cX6_init 7 = .ok (.invokestatic 9, 3) := by decide +kernel
theorem dX6_init_10 : decode cX6_init 10 = .ok (.putfield 15, 3) := by decide +kernel
theorem dX6_init_13 : decode cX6_init 13 = .ok (.aload_n 0, 1) := by decide +kernel
theorem dX6_init_14 : decode cX6_init 14 = .ok (.aload_n 0, 1) := by decide +kernel
theorem dX6_init_15 : decode cX6_init 15 = .ok (.getfield 15, 3) := by decide +kernel
theorem dX6_init_18 : decode cX6_init 18 = .ok (.newarray .int, 2) := by decide +kernel
theorem dX6_init_20 : decode cX6_init 20 = .ok (.putfield 21, 3) := by decide +kernel
theorem dX6_init_23 : decode cX6_init 23 = .ok (.aload_n 0, 1) := by decide +kernel
theorem dX6_init_24 : decode cX6_init 24 = .ok (.aload_n 0, 1) := by decide +kernel
theorem dX6_init_25 : decode cX6_init 25 = .ok (.getfield 15, 3) := by decide +kernel
theorem dX6_init_28 : decode cX6_init 28 = .ok (.iconst 2, 1) := by decide +kernel
theorem dX6_init_29 : decode cX6_init 29 = .ok (.imul, 1) := by decide +kernel
theorem dX6_init_30 : decode cX6_init 30 = .ok (.bipush 16, 2) := by decide +kernel
theorem dX6_init_32 : decode cX6_init 32 = .ok (.imul, 1) := by decide +kernel
theorem dX6_init_33 : decode cX6_init 33 = .ok (.newarray .int, 2) := by decide +kernel
theorem dX6_init_35 : decode cX6_init 35 = .ok (.putfield 25, 3) := by decide +kernel
theorem dX6_init_38 : decode cX6_init 38 = .ok (.aload_n 0, 1) := by decide +kernel
theorem dX6_init_39 : decode cX6_init 39 = .ok (.aload_n 0, 1) := by decide +kernel
theorem dX6_init_40 : decode cX6_init 40 = .ok (.getfield 15, 3) := by decide +kernel
theorem dX6_init_43 : decode cX6_init 43 = .ok (.iconst 2, 1) := by decide +kernel
theorem dX6_init_44 : decode cX6_init 44 = .ok (.imul, 1) := by decide +kernel
theorem dX6_init_45 : decode cX6_init 45 = .ok (.newarray .int, 2) := by decide +kernel
theorem dX6_init_47 : decode cX6_init 47 = .ok (.putfield 28, 3) := by decide +kernel
theorem dX6_init_50 : decode cX6_init 50 = .ok (.return_, 1) := by decide +kernel
theorem dX6_count_0 : decode cX6_count 0 = .ok (.aload_n 0, 1) := by decide +kernel
theorem dX6_count_1 : decode cX6_count 1 = .ok (.getfield 31, 3) := by decide +kernel
theorem dX6_count_4 : decode cX6_count 4 = .ok (.ireturn, 1) := by decide +kernel
theorem dX6_isFull_0 : decode cX6_isFull 0 = .ok (.aload_n 0, 1) := by decide +kernel
theorem dX6_isFull_1 : decode cX6_isFull 1 = .ok (.getfield 31, 3) := by decide +kernel
theorem dX6_isFull_4 : decode cX6_isFull 4 = .ok (.aload_n 0, 1) := by decide +kernel
theorem dX6_isFull_5 : decode cX6_isFull 5 = .ok (.getfield 15, 3) := by decide +kernel
theorem dX6_isFull_8 : decode cX6_isFull 8 = .ok (.if_icmp .lt 7, 3) := by decide +kernel
theorem dX6_isFull_11 : decode cX6_isFull 11 = .ok (.iconst 1, 1) := by decide +kernel
theorem dX6_isFull_12 : decode cX6_isFull 12 = .ok (.goto 4, 3) := by decide +kernel
theorem dX6_isFull_15 : decode cX6_isFull 15 = .ok (.iconst 0, 1) := by decide +kernel
theorem dX6_isFull_16 : decode cX6_isFull 16 = .ok (.ireturn, 1) := by decide +kernel
theorem dX6_has_0 : decode cX6_has 0 = .ok (.iload_n 1, 1) := by decide +kernel
theorem dX6_has_1 : decode cX6_has 1 = .ok (.ifCond .lt 15, 3) := by decide +kernel
theorem dX6_has_4 : decode cX6_has 4 = .ok (.iload_n 1, 1) := by decide +kernel
theorem dX6_has_5 : decode cX6_has 5 = .ok (.aload_n 0, 1) := by decide +kernel
theorem dX6_has_6 : decode cX6_has 6 = .ok (.getfield 31, 3) := by decide +kernel
theorem dX6_has_9 : decode cX6_has 9 = .ok (.if_icmp .ge 7, 3) := by decide +kernel
theorem dX6_has_12 : decode cX6_has 12 = .ok (.iconst 1, 1) := by decide +kernel
theorem dX6_has_13 : decode cX6_has 13 = .ok (.goto 4, 3) := by decide +kernel
theorem dX6_has_16 : decode cX6_has 16 = .ok (.iconst 0, 1) := by decide +kernel
theorem dX6_has_17 : decode cX6_has 17 = .ok (.ireturn, 1) := by decide +kernel
theorem dX6_widthOf_0 : decode cX6_widthOf 0 = .ok (.aload_n 0, 1) := by decide +kernel
theorem dX6_widthOf_1 : decode cX6_widthOf 1 = .ok (.iload_n 1, 1) := by decide +kernel
theorem dX6_widthOf_2 : decode cX6_widthOf 2 = .ok (.invokevirtual 34, 3) := by decide +kernel
theorem dX6_widthOf_5 : decode cX6_widthOf 5 = .ok (.ifCond .eq 12, 3) := by decide +kernel
theorem dX6_widthOf_8 : decode cX6_widthOf 8 = .ok (.aload_n 0, 1) := by decide +kernel
theorem dX6_widthOf_9 : decode cX6_widthOf 9 = .ok (.getfield 21, 3) := by decide +kernel
theorem dX6_widthOf_12 : decode cX6_widthOf 12 = .ok (.iload_n 1, 1) := by decide +kernel
theorem dX6_widthOf_13 : decode cX6_widthOf 13 = .ok (.iaload, 1) := by decide +kernel
theorem dX6_widthOf_14 : decode cX6_widthOf 14 = .ok (.goto 4, 3) := by decide +kernel
theorem dX6_widthOf_17 : decode cX6_widthOf 17 = .ok (.iconst 0, 1) := by decide +kernel
theorem dX6_widthOf_18 : decode cX6_widthOf 18 = .ok (.ireturn, 1) := by decide +kernel
theorem dX6_node_0 : decode cX6_node 0 = .ok (.aload_n 0, 1) := by decide +kernel
theorem dX6_node_1 : decode cX6_node 1 = .ok (.getfield 25, 3) := by decide +kernel
theorem dX6_node_4 : decode cX6_node 4 = .ok (.iload_n 1, 1) := by decide +kernel
theorem dX6_node_5 : decode cX6_node 5 = .ok (.iconst 2, 1) := by decide +kernel
theorem dX6_node_6 : decode cX6_node 6 = .ok (.imul, 1) := by decide +kernel
theorem dX6_node_7 : decode cX6_node 7 = .ok (.iload_n 2, 1) := by decide +kernel
theorem dX6_node_8 : decode cX6_node 8 = .ok (.iadd, 1) := by decide +kernel
theorem dX6_node_9 : decode cX6_node 9 = .ok (.bipush 16, 2) := by decide +kernel
theorem dX6_node_11 : decode cX6_node 11 = .ok (.imul, 1) := by decide +kernel
theorem dX6_node_12 : decode cX6_node 12 = .ok (.iload_n 3, 1) := by decide +kernel
theorem dX6_node_13 : decode cX6_node 13 = .ok (.iadd, 1) := by decide +kernel
theorem dX6_node_14 : decode cX6_node 14 = .ok (.iaload, 1) := by decide +kernel
theorem dX6_node_15 : decode cX6_node 15 = .ok (.ireturn, 1) := by decide +kernel
theorem dX6_partEndsAt_0 : decode cX6_partEndsAt 0 = .ok (.aload_n 0, 1) := by decide +kernel
theorem dX6_partEndsAt_1 : decode cX6_partEndsAt 1 = .ok (.getfield 28, 3) := by decide +kernel
theorem dX6_partEndsAt_4 : decode cX6_partEndsAt 4 = .ok (.iload_n 1, 1) := by decide +kernel
theorem dX6_partEndsAt_5 : decode cX6_partEndsAt 5 = .ok (.iconst 2, 1) := by decide +kernel
theorem dX6_partEndsAt_6 : decode cX6_partEndsAt 6 = .ok (.imul, 1) := by decide +kernel
theorem dX6_partEndsAt_7 : decode cX6_partEndsAt 7 = .ok (.iload_n 2, 1) := by decide +kernel
theorem dX6_partEndsAt_8 : decode cX6_partEndsAt 8 = .ok (.iadd, 1) := by decide +kernel
theorem dX6_partEndsAt_9 : decode cX6_partEndsAt 9 = .ok (.iaload, 1) := by decide +kernel
theorem dX6_partEndsAt_10 : decode cX6_partEndsAt 10 = .ok (.iconst 1, 1) := by decide +kernel
theorem dX6_partEndsAt_11 : decode cX6_partEndsAt 11 = .ok (.iload_n 3, 1) := by decide +kernel
theorem dX6_partEndsAt_12 : decode cX6_partEndsAt 12 = .ok (.ishl, 1) := by decide +kernel
theorem dX6_partEndsAt_13 : decode cX6_partEndsAt 13 = .ok (.iand, 1) := by decide +kernel
theorem dX6_partEndsAt_14 : decode cX6_partEndsAt 14 = .ok (.ifCond .eq 7, 3) := by decide +kernel
theorem dX6_partEndsAt_17 : decode cX6_partEndsAt 17 = .ok (.iconst 1, 1) := by decide +kernel
theorem dX6_partEndsAt_18 : decode cX6_partEndsAt 18 = .ok (.goto 4, 3) := by decide +kernel
theorem dX6_partEndsAt_21 : decode cX6_partEndsAt 21 = .ok (.iconst 0, 1) := by decide +kernel
theorem dX6_partEndsAt_22 : decode cX6_partEndsAt 22 = .ok (.ireturn, 1) := by decide +kernel
theorem dX6_clear_0 : decode cX6_clear 0 = .ok (.aload_n 0, 1) := by decide +kernel
theorem dX6_clear_1 : decode cX6_clear 1 = .ok (.iconst 0, 1) := by decide +kernel
theorem dX6_clear_2 : decode cX6_clear 2 = .ok (.putfield 31, 3) := by decide +kernel
theorem dX6_clear_5 : decode cX6_clear 5 = .ok (.return_, 1) := by decide +kernel
theorem dX6_putTerm_0 : decode cX6_putTerm 0 = .ok (.aload_n 0, 1) := by decide +kernel
theorem dX6_putTerm_1 : decode cX6_putTerm 1 = .ok (.invokevirtual 38, 3) := by decide +kernel
theorem dX6_putTerm_4 : decode cX6_putTerm 4 = .ok (.ifCond .ne 12, 3) := by decide +kernel
theorem dX6_putTerm_7 : decode cX6_putTerm 7 = .ok (.aload_n 2, 1) := by decide +kernel
theorem dX6_putTerm_8 : decode cX6_putTerm 8 = .ok (.invokevirtual 42, 3) := by decide +kernel
theorem dX6_putTerm_11 : decode cX6_putTerm 11 = .ok (.bipush 16, 2) := by decide +kernel
theorem dX6_putTerm_13 : decode cX6_putTerm 13 = .ok (.if_icmp .le 4, 3) := by decide +kernel
theorem dX6_putTerm_16 : decode cX6_putTerm 16 = .ok (.return_, 1) := by decide +kernel
theorem dX6_putTerm_17 : decode cX6_putTerm 17 = .ok (.aload_n 0, 1) := by decide +kernel
theorem dX6_putTerm_18 : decode cX6_putTerm 18 = .ok (.getfield 31, 3) := by decide +kernel
theorem dX6_putTerm_21 : decode cX6_putTerm 21 = .ok (.iconst 2, 1) := by decide +kernel
theorem dX6_putTerm_22 : decode cX6_putTerm 22 = .ok (.imul, 1) := by decide +kernel
theorem dX6_putTerm_23 : decode cX6_putTerm 23 = .ok (.iload_n 1, 1) := by decide +kernel
theorem dX6_putTerm_24 : decode cX6_putTerm 24 = .ok (.iadd, 1) := by decide +kernel
theorem dX6_putTerm_25 : decode cX6_putTerm 25 = .ok (.istore_n 3, 1) := by decide +kernel
theorem dX6_putTerm_26 : decode cX6_putTerm 26 = .ok (.aload_n 0, 1) := by decide +kernel
theorem dX6_putTerm_27 : decode cX6_putTerm 27 = .ok (.getfield 28, 3) := by decide +kernel
theorem dX6_putTerm_30 : decode cX6_putTerm 30 = .ok (.iload_n 3, 1) := by decide +kernel
theorem dX6_putTerm_31 : decode cX6_putTerm 31 = .ok (.iconst 0, 1) := by decide +kernel
theorem dX6_putTerm_32 : decode cX6_putTerm 32 = .ok (.iastore, 1) := by decide +kernel
theorem dX6_putTerm_33 : decode cX6_putTerm 33 = .ok (.iconst 0, 1) := by decide +kernel
theorem dX6_putTerm_34 : decode cX6_putTerm 34 = .ok (.istore 4, 2) := by decide +kernel
theorem dX6_putTerm_36 : decode cX6_putTerm 36 = .ok (.iload 4, 2) := by decide +kernel
theorem dX6_putTerm_38 : decode cX6_putTerm 38 = .ok (.aload_n 2, 1) := by decide +kernel
theorem dX6_putTerm_39 : decode cX6_putTerm 39 = .ok (.invokevirtual 42, 3) := by decide +kernel
theorem dX6_putTerm_42 : decode cX6_putTerm 42 = .ok (.if_icmp .ge 56, 3) := by decide +kernel
theorem dX6_putTerm_45 : decode cX6_putTerm 45 = .ok (.aload_n 0, 1) := by decide +kernel
theorem dX6_putTerm_46 : decode cX6_putTerm 46 = .ok (.getfield 25, 3) := by decide +kernel
theorem dX6_putTerm_49 : decode cX6_putTerm 49 = .ok (.iload_n 3, 1) := by decide +kernel
theorem dX6_putTerm_50 : decode cX6_putTerm 50 = .ok (.bipush 16, 2) := by decide +kernel
theorem dX6_putTerm_52 : decode cX6_putTerm 52 = .ok (.imul, 1) := by decide +kernel
theorem dX6_putTerm_53 : decode cX6_putTerm 53 = .ok (.iload 4, 2) := by decide +kernel
theorem dX6_putTerm_55 : decode cX6_putTerm 55 = .ok (.iadd, 1) := by decide +kernel
theorem dX6_putTerm_56 : decode cX6_putTerm 56 = .ok (.aload_n 2, 1) := by decide +kernel
theorem dX6_putTerm_57 : decode cX6_putTerm 57 = .ok (.iload 4, 2) := by decide +kernel
theorem dX6_putTerm_59 : decode cX6_putTerm 59 = .ok (.invokevirtual 48, 3) := by decide +kernel
theorem dX6_putTerm_62 : decode cX6_putTerm 62 = .ok (.iastore, 1) := by decide +kernel
theorem dX6_putTerm_63 : decode cX6_putTerm 63 = .ok (.iload 4, 2) := by decide +kernel
theorem dX6_putTerm_65 : decode cX6_putTerm 65 = .ok (.ifCond .le 27, 3) := by decide +kernel
theorem dX6_putTerm_68 : decode cX6_putTerm 68 = .ok (.aload_n 2, 1) := by decide +kernel
theorem dX6_putTerm_69 : decode cX6_putTerm 69 = .ok (.iload 4, 2) := by decide +kernel
theorem dX6_putTerm_71 : decode cX6_putTerm 71 = .ok (.iconst 1, 1) := by decide +kernel
theorem dX6_putTerm_72 : decode cX6_putTerm 72 = .ok (.isub, 1) := by decide +kernel
theorem dX6_putTerm_73 : decode cX6_putTerm 73 = .ok (.invokevirtual 52, 3) := by decide +kernel
theorem dX6_putTerm_76 : decode cX6_putTerm 76 = .ok (.ifCond .eq 16, 3) := by decide +kernel
theorem dX6_putTerm_79 : decode cX6_putTerm 79 = .ok (.aload_n 0, 1) := by decide +kernel
theorem dX6_putTerm_80 : decode cX6_putTerm 80 = .ok (.getfield 28, 3) := by decide +kernel
theorem dX6_putTerm_83 : decode cX6_putTerm 83 = .ok (.iload_n 3, 1) := by decide +kernel
theorem dX6_putTerm_84 : decode cX6_putTerm 84 = .ok (.dup2, 1) := by decide +kernel
theorem dX6_putTerm_85 : decode cX6_putTerm 85 = .ok (.iaload, 1) := by decide +kernel
theorem dX6_putTerm_86 : decode cX6_putTerm 86 = .ok (.iconst 1, 1) := by decide +kernel
theorem dX6_putTerm_87 : decode cX6_putTerm 87 = .ok (.iload 4, 2) := by decide +kernel
theorem dX6_putTerm_89 : decode cX6_putTerm 89 = .ok (.ishl, 1) := by decide +kernel
theorem dX6_putTerm_90 : decode cX6_putTerm 90 = .ok (.ior, 1) := by decide +kernel
theorem dX6_putTerm_91 : decode cX6_putTerm 91 = .ok (.iastore, 1) := by decide +kernel
theorem dX6_putTerm_92 : decode cX6_putTerm 92 = .ok (.iinc 4 1, 3) := by decide +kernel
theorem dX6_putTerm_95 : decode cX6_putTerm 95 = .ok (.goto (-59), 3) := by decide +kernel
theorem dX6_putTerm_98 : decode cX6_putTerm 98 = .ok (.return_, 1) := by decide +kernel
theorem dX6_finish_0 : decode cX6_finish 0 = .ok (.aload_n 0, 1) := by decide +kernel
theorem dX6_finish_1 : decode cX6_finish 1 = .ok (.invokevirtual 38, 3) := by decide +kernel
theorem dX6_finish_4 : decode cX6_finish 4 = .ok (.ifCond .ne 23, 3) := by decide +kernel
theorem dX6_finish_7 : decode cX6_finish 7 = .ok (.aload_n 0, 1) := by decide +kernel
theorem dX6_finish_8 : decode cX6_finish 8 = .ok (.getfield 21, 3) := by decide +kernel
theorem dX6_finish_11 : decode cX6_finish 11 = .ok (.aload_n 0, 1) := by decide +kernel
theorem dX6_finish_12 : decode cX6_finish 12 = .ok (.getfield 31, 3) := by decide +kernel
theorem dX6_finish_15 : decode cX6_finish 15 = .ok (.iload_n 1, 1) := by decide +kernel
theorem dX6_finish_16 : decode cX6_finish 16 = .ok (.iastore, 1) := by decide +kernel
theorem dX6_finish_17 : decode cX6_finish 17 = .ok (.aload_n 0, 1) := by decide +kernel
theorem dX6_finish_18 : decode cX6_finish 18 = .ok (.dup, 1) := by decide +kernel
theorem dX6_finish_19 : decode cX6_finish 19 = .ok (.getfield 31, 3) := by decide +kernel
theorem dX6_finish_22 : decode cX6_finish 22 = .ok (.iconst 1, 1) := by decide +kernel
theorem dX6_finish_23 : decode cX6_finish 23 = .ok (.iadd, 1) := by decide +kernel
theorem dX6_finish_24 : decode cX6_finish 24 = .ok (.putfield 31, 3) := by decide +kernel
theorem dX6_finish_27 : decode cX6_finish 27 = .ok (.return_, 1) := by decide +kernel
theorem dX6_copyFrom_0 : decode cX6_copyFrom 0 = .ok (.aload_n 0, 1) := by decide +kernel
theorem dX6_copyFrom_1 : decode cX6_copyFrom 1 = .ok (.aload_n 1, 1) := by decide +kernel
theorem dX6_copyFrom_2 : decode cX6_copyFrom 2 = .ok (.getfield 31, 3) := by decide +kernel
theorem dX6_copyFrom_5 : decode cX6_copyFrom 5 = .ok (.aload_n 0, 1) := by decide +kernel
theorem dX6_copyFrom_6 : decode cX6_copyFrom 6 = .ok (.getfield 15, 3) := by decide +kernel
theorem dX6_copyFrom_9 : decode cX6_copyFrom 9 = .ok (.invokestatic 55, 3) := by decide +kernel
theorem dX6_copyFrom_12 : decode cX6_copyFrom 12 = .ok (.putfield 31, 3) := by decide +kernel
theorem dX6_copyFrom_15 : decode cX6_copyFrom 15 = .ok (.aload_n 0, 1) := by decide +kernel
theorem dX6_copyFrom_16 : decode cX6_copyFrom 16 = .ok (.aload_n 1, 1) := by decide +kernel
theorem dX6_copyFrom_17 : decode cX6_copyFrom 17 = .ok (.iconst 0, 1) := by decide +kernel
theorem dX6_copyFrom_18 : decode cX6_copyFrom 18 = .ok (.iconst 0, 1) := by decide +kernel
theorem dX6_copyFrom_19 : decode cX6_copyFrom 19 = .ok (.aload_n 0, 1) := by decide +kernel
theorem dX6_copyFrom_20 : decode cX6_copyFrom 20 = .ok (.getfield 31, 3) := by decide +kernel
theorem dX6_copyFrom_23 : decode cX6_copyFrom 23 = .ok (.invokevirtual 58, 3) := by decide +kernel
theorem dX6_copyFrom_26 : decode cX6_copyFrom 26 = .ok (.return_, 1) := by decide +kernel
theorem dX6_drop_0 : decode cX6_drop 0 = .ok (.aload_n 0, 1) := by decide +kernel
theorem dX6_drop_1 : decode cX6_drop 1 = .ok (.iload_n 1, 1) := by decide +kernel
theorem dX6_drop_2 : decode cX6_drop 2 = .ok (.invokevirtual 34, 3) := by decide +kernel
theorem dX6_drop_5 : decode cX6_drop 5 = .ok (.ifCond .eq 28, 3) := by decide +kernel
theorem dX6_drop_8 : decode cX6_drop 8 = .ok (.aload_n 0, 1) := by decide +kernel
theorem dX6_drop_9 : decode cX6_drop 9 = .ok (.dup, 1) := by decide +kernel
theorem dX6_drop_10 : decode cX6_drop 10 = .ok (.getfield 31, 3) := by decide +kernel
theorem dX6_drop_13 : decode cX6_drop 13 = .ok (.iconst 1, 1) := by decide +kernel
theorem dX6_drop_14 : decode cX6_drop 14 = .ok (.isub, 1) := by decide +kernel
theorem dX6_drop_15 : decode cX6_drop 15 = .ok (.putfield 31, 3) := by decide +kernel
theorem dX6_drop_18 : decode cX6_drop 18 = .ok (.aload_n 0, 1) := by decide +kernel
theorem dX6_drop_19 : decode cX6_drop 19 = .ok (.aload_n 0, 1) := by decide +kernel
theorem dX6_drop_20 : decode cX6_drop 20 = .ok (.iload_n 1, 1) := by decide +kernel
theorem dX6_drop_21 : decode cX6_drop 21 = .ok (.iconst 1, 1) := by decide +kernel
theorem dX6_drop_22 : decode cX6_drop 22 = .ok (.iadd, 1) := by decide +kernel
theorem dX6_drop_23 : decode cX6_drop 23 = .ok (.iload_n 1, 1) := by decide +kernel
theorem dX6_drop_24 : decode cX6_drop 24 = .ok (.aload_n 0, 1) := by decide +kernel
theorem dX6_drop_25 : decode cX6_drop 25 = .ok (.getfield 31, 3) := by decide +kernel
theorem dX6_drop_28 : decode cX6_drop 28 = .ok (.iload_n 1, 1) := by decide +kernel
theorem dX6_drop_29 : decode cX6_drop 29 = .ok (.isub, 1) := by decide +kernel
theorem dX6_drop_30 : decode cX6_drop 30 = .ok (.invokevirtual 58, 3) := by decide +kernel
theorem dX6_drop_33 : decode cX6_drop 33 = .ok (.return_, 1) := by decide +kernel
theorem dX6_move_0 : decode cX6_move 0 = .ok (.bipush 32, 2) := by decide +kernel
theorem dX6_move_2 : decode cX6_move 2 = .ok (.istore 5, 2) := by decide +kernel
theorem dX6_move_4 : decode cX6_move 4 = .ok (.aload_n 1, 1) := by decide +kernel
theorem dX6_move_5 : decode cX6_move 5 = .ok (.getfield 21, 3) := by decide +kernel
theorem dX6_move_8 : decode cX6_move 8 = .ok (.iload_n 2, 1) := by decide +kernel
theorem dX6_move_9 : decode cX6_move 9 = .ok (.aload_n 0, 1) := by decide +kernel
theorem dX6_move_10 : decode cX6_move 10 = .ok (.getfield 21, 3) := by decide +kernel
theorem dX6_move_13 : decode cX6_move 13 = .ok (.iload_n 3, 1) := by decide +kernel
theorem dX6_move_14 : decode cX6_move 14 = .ok (.iload 4, 2) := by decide +kernel
theorem dX6_move_16 : decode cX6_move 16 = .ok (.invokestatic 62, 3) := by decide +kernel
theorem dX6_move_19 : decode cX6_move 19 = .ok (.aload_n 1, 1) := by decide +kernel
theorem dX6_move_20 : decode cX6_move 20 = .ok (.getfield 25, 3) := by decide +kernel
theorem dX6_move_23 : decode cX6_move 23 = .ok (.iload_n 2, 1) := by decide +kernel
theorem dX6_move_24 : decode cX6_move 24 = .ok (.iload 5, 2) := by decide +kernel
theorem dX6_move_26 : decode cX6_move 26 = .ok (.imul, 1) := by decide +kernel
theorem dX6_move_27 : decode cX6_move 27 = .ok (.aload_n 0, 1) := by decide +kernel
theorem dX6_move_28 : decode cX6_move 28 = .ok (.getfield 25, 3) := by decide +kernel
theorem dX6_move_31 : decode cX6_move 31 = .ok (.iload_n 3, 1) := by decide +kernel
theorem dX6_move_32 : decode cX6_move 32 = .ok (.iload 5, 2) := by decide +kernel
theorem dX6_move_34 : decode cX6_move 34 = .ok (.imul, 1) := by decide +kernel
theorem dX6_move_35 : decode cX6_move 35 = .ok (.iload 4, 2) := by decide +kernel
theorem dX6_move_37 : decode cX6_move 37 = .ok (.iload 5, 2) := by decide +kernel
theorem dX6_move_39 : decode cX6_move 39 = .ok (.imul, 1) := by decide +kernel
theorem dX6_move_40 : decode cX6_move 40 = .ok (.invokestatic 62, 3) := by decide +kernel
theorem dX6_move_43 : decode cX6_move 43 = .ok (.aload_n 1, 1) := by decide +kernel
theorem dX6_move_44 : decode cX6_move 44 = .ok (.getfield 28, 3) := by decide +kernel
theorem dX6_move_47 : decode cX6_move 47 = .ok (.iload_n 2, 1) := by decide +kernel
theorem dX6_move_48 : decode cX6_move 48 = .ok (.iconst 2, 1) := by decide +kernel
theorem dX6_move_49 : decode cX6_move 49 = .ok (.imul, 1) := by decide +kernel
theorem dX6_move_50 : decode cX6_move 50 = .ok (.aload_n 0, 1) := by decide +kernel
theorem dX6_move_51 : decode cX6_move 51 = .ok (.getfield 28, 3) := by decide +kernel
theorem dX6_move_54 : decode cX6_move 54 = .ok (.iload_n 3, 1) := by decide +kernel
theorem dX6_move_55 : decode cX6_move 55 = .ok (.iconst 2, 1) := by decide +kernel
theorem dX6_move_56 : decode cX6_move 56 = .ok (.imul, 1) := by decide +kernel
theorem dX6_move_57 : decode cX6_move 57 = .ok (.iload 4, 2) := by decide +kernel
theorem dX6_move_59 : decode cX6_move 59 = .ok (.iconst 2, 1) := by decide +kernel
theorem dX6_move_60 : decode cX6_move 60 = .ok (.imul, 1) := by decide +kernel
theorem dX6_move_61 : decode cX6_move 61 = .ok (.invokestatic 62, 3) := by decide +kernel
theorem dX6_move_64 : decode cX6_move 64 = .ok (.return_, 1) := by decide +kernel
theorem dX7_init_0 : decode cX7_init 0 = .ok (.aload_n 0, 1) := by decide +kernel
theorem dX7_init_1 : decode cX7_init 1 = .ok (.invokespecial 3, 3) := by decide +kernel
theorem dX7_init_4 : decode cX7_init 4 = .ok (.aload_n 0, 1) := by decide +kernel
theorem dX7_init_5 : decode cX7_init 5 = .ok (.bipush 16, 2) := by decide +kernel
theorem dX7_init_7 : decode cX7_init 7 = .ok (.newarray .int, 2) := by decide +kernel
theorem dX7_init_9 : decode cX7_init 9 = .ok (.putfield 9, 3) := by decide +kernel
theorem dX7_init_12 : decode cX7_init 12 = .ok (.return_, 1) := by decide +kernel
theorem dX7_clear_0 : decode cX7_clear 0 = .ok (.aload_n 0, 1) := by decide +kernel
theorem dX7_clear_1 : decode cX7_clear 1 = .ok (.iconst 0, 1) := by decide +kernel
theorem dX7_clear_2 : decode cX7_clear 2 = .ok (.putfield 15, 3) := by decide +kernel
theorem dX7_clear_5 : decode cX7_clear 5 = .ok (.aload_n 0, 1) := by decide +kernel
theorem dX7_clear_6 : decode cX7_clear 6 = .ok (.iconst 0, 1) := by decide +kernel
theorem dX7_clear_7 : decode cX7_clear 7 = .ok (.putfield 19, 3) := by decide +kernel
theorem dX7_clear_10 : decode cX7_clear 10 = .ok (.return_, 1) := by decide +kernel
theorem dX7_bitCount_0 : decode cX7_bitCount 0 = .ok (.aload_n 0, 1) := by decide +kernel
theorem dX7_bitCount_1 : decode cX7_bitCount 1 = .ok (.getfield 19, 3) := by decide +kernel
theorem dX7_bitCount_4 : decode cX7_bitCount 4 = .ok (.ireturn, 1) := by decide +kernel
theorem dX7_beginPart_0 : decode cX7_beginPart 0 = .ok (.aload_n 0, 1) := by decide +kernel
theorem dX7_beginPart_1 : decode cX7_beginPart 1 = .ok (.getfield 19, 3) := by decide +kernel
theorem dX7_beginPart_4 : decode cX7_beginPart 4 = .ok (.bipush 16, 2) := by decide +kernel
theorem dX7_beginPart_6 : decode cX7_beginPart 6 = .ok (.if_icmp .ge 18, 3) := by decide +kernel
theorem dX7_beginPart_9 : decode cX7_beginPart 9 = .ok (.aload_n 0, 1) := by decide +kernel
theorem dX7_beginPart_10 : decode cX7_beginPart 10 = .ok (.dup, 1) := by decide +kernel
theorem dX7_beginPart_11 : decode cX7_beginPart 11 = .ok (.getfield 15, 3) := by decide +kernel
theorem dX7_beginPart_14 : decode cX7_beginPart 14 = .ok (.iconst 1, 1) := by decide +kernel
theorem dX7_beginPart_15 : decode cX7_beginPart 15 = .ok (.aload_n 0, 1) := by decide +kernel
theorem dX7_beginPart_16 : decode cX7_beginPart 16 = .ok (.getfield 19, 3) := by decide +kernel
theorem dX7_beginPart_19 : decode cX7_beginPart 19 = .ok (.ishl, 1) := by decide +kernel
theorem dX7_beginPart_20 : decode cX7_beginPart 20 = .ok (.ior, 1) := by decide +kernel
theorem dX7_beginPart_21 : decode cX7_beginPart 21 = .ok (.putfield 15, 3) := by decide +kernel
theorem dX7_beginPart_24 : decode cX7_beginPart 24 = .ok (.return_, 1) := by decide +kernel
theorem dX7_add_0 : decode cX7_add 0 = .ok (.aload_n 0, 1) := by decide +kernel
theorem dX7_add_1 : decode cX7_add 1 = .ok (.getfield 19, 3) := by decide +kernel
theorem dX7_add_4 : decode cX7_add 4 = .ok (.bipush 16, 2) := by decide +kernel
theorem dX7_add_6 : decode cX7_add 6 = .ok (.if_icmp .ge 13, 3) := by decide +kernel
theorem dX7_add_9 : decode cX7_add 9 = .ok (.aload_n 0, 1) := by decide +kernel
theorem dX7_add_10 : decode cX7_add 10 = .ok (.getfield 9, 3) := by decide +kernel
theorem dX7_add_13 : decode cX7_add 13 = .ok (.aload_n 0, 1) := by decide +kernel
theorem dX7_add_14 : decode cX7_add 14 = .ok (.getfield 19, 3) := by decide +kernel
theorem dX7_add_17 : decode cX7_add 17 = .ok (.iload_n 1, 1) := by decide +kernel
theorem dX7_add_18 : decode cX7_add 18 = .ok (.iastore, 1) := by decide +kernel
theorem dX7_add_19 : decode cX7_add 19 = .ok (.aload_n 0, 1) := by decide +kernel
theorem dX7_add_20 : decode cX7_add 20 = .ok (.dup, 1) := by decide +kernel
theorem dX7_add_21 : decode cX7_add 21 = .ok (.getfield 19, 3) := by decide +kernel
theorem dX7_add_24 : decode cX7_add 24 = .ok (.iconst 1, 1) := by decide +kernel
theorem dX7_add_25 : decode cX7_add 25 = .ok (.iadd, 1) := by decide +kernel
theorem dX7_add_26 : decode cX7_add 26 = .ok (.putfield 19, 3) := by decide +kernel
theorem dX7_add_29 : decode cX7_add 29 = .ok (.return_, 1) := by decide +kernel
theorem dX7_addRange_0 : decode cX7_addRange 0 = .ok (.aload_n 0, 1) := by decide +kernel
theorem dX7_addRange_1 : decode cX7_addRange 1 = .ok (.invokevirtual 22, 3) := by decide +kernel
