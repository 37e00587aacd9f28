theorem dX7_addRange_4 : decode cX7_addRange 4 = .ok (.iload_n 1, 1) := by decide +kernel
theorem dX7_addRange_5 : decode cX7_addRange 5 = .ok (.istore_n 3, 1) := by decide +kernel
theorem dX7_addRange_6 : decode cX7_addRange 6 = .ok (.iload_n 3, 1) := by decide +kernel
theorem dX7_addRange_7 : decode cX7_addRange 7 = .ok (.iload_n 2, 1) := by decide +kernel
theorem dX7_addRange_8 : decode cX7_addRange 8 = .ok (.if_icmp .lt 14, 3) := by decide +kernel
theorem dX7_addRange_11 : decode cX7_addRange 11 = .ok (.aload_n 0, 1) := by decide +kernel
theorem dX7_addRange_12 : decode cX7_addRange 12 = .ok (.iload_n 3, 1) := by decide +kernel
theorem dX7_addRange_13 : decode cX7_addRange 13 = .ok (.invokevirtual 25, 3) := by decide +kernel
theorem dX7_addRange_16 : decode cX7_addRange 16 = .ok (.iinc 3 (-1), 3) := by decide +kernel
theorem dX7_addRange_19 : decode cX7_addRange 19 = .ok (.goto (-13), 3) := by decide +kernel
theorem dX7_addRange_22 : decode cX7_addRange 22 = .ok (.return_, 1) := by decide +kernel
theorem dX7_node_0 : decode cX7_node 0 = .ok (.aload_n 0, 1) := by decide +kernel
theorem dX7_node_1 : decode cX7_node 1 = .ok (.getfield 19, 3) := by decide +kernel
theorem dX7_node_4 : decode cX7_node 4 = .ok (.iconst 1, 1) := by decide +kernel
theorem dX7_node_5 : decode cX7_node 5 = .ok (.isub, 1) := by decide +kernel
theorem dX7_node_6 : decode cX7_node 6 = .ok (.iload_n 1, 1) := by decide +kernel
theorem dX7_node_7 : decode cX7_node 7 = .ok (.isub, 1) := by decide +kernel
theorem dX7_node_8 : decode cX7_node 8 = .ok (.istore_n 2, 1) := by decide +kernel
theorem dX7_node_9 : decode cX7_node 9 = .ok (.iload_n 2, 1) := by decide +kernel
theorem dX7_node_10 : decode cX7_node 10 = .ok (.ifCond .lt 18, 3) := by decide +kernel
theorem dX7_node_13 : decode cX7_node 13 = .ok (.iload_n 2, 1) := by decide +kernel
theorem dX7_node_14 : decode cX7_node 14 = .ok (.bipush 16, 2) := by decide +kernel
theorem dX7_node_16 : decode cX7_node 16 = .ok (.if_icmp .ge 12, 3) := by decide +kernel
theorem dX7_node_19 : decode cX7_node 19 = .ok (.aload_n 0, 1) := by decide +kernel
theorem dX7_node_20 : decode cX7_node 20 = .ok (.getfield 9, 3) := by decide +kernel
theorem dX7_node_23 : decode cX7_node 23 = .ok (.iload_n 2, 1) := by decide +kernel
theorem dX7_node_24 : decode cX7_node 24 = .ok (.iaload, 1) := by decide +kernel
theorem dX7_node_25 : decode cX7_node 25 = .ok (.goto 6, 3) := by decide +kernel
theorem dX7_node_28 : decode cX7_node 28 = .ok (.sipush 128, 3) := by decide +kernel
theorem dX7_node_31 : decode cX7_node 31 = .ok (.ireturn, 1) := by decide +kernel
theorem dX7_partBeginsAt_0 : decode cX7_partBeginsAt 0 = .ok (.aload_n 0, 1) := by decide +kernel
theorem dX7_partBeginsAt_1 : decode cX7_partBeginsAt 1 = .ok (.getfield 19, 3) := by decide +kernel
theorem dX7_partBeginsAt_4 : decode cX7_partBeginsAt 4 = .ok (.iconst 1, 1) := by decide +kernel
theorem dX7_partBeginsAt_5 : decode cX7_partBeginsAt 5 = .ok (.isub, 1) := by decide +kernel
theorem dX7_partBeginsAt_6 : decode cX7_partBeginsAt 6 = .ok (.iload_n 1, 1) := by decide +kernel
theorem dX7_partBeginsAt_7 : decode cX7_partBeginsAt 7 = .ok (.isub, 1) := by decide +kernel
theorem dX7_partBeginsAt_8 : decode cX7_partBeginsAt 8 = .ok (.istore_n 2, 1) := by decide +kernel
theorem dX7_partBeginsAt_9 : decode cX7_partBeginsAt 9 = .ok (.iload_n 2, 1) := by decide +kernel
theorem dX7_partBeginsAt_10 : decode cX7_partBeginsAt 10 = .ok (.ifCond .lt 24, 3) := by decide +kernel
theorem dX7_partBeginsAt_13 : decode cX7_partBeginsAt 13 = .ok (.iload_n 2, 1) := by decide +kernel
theorem dX7_partBeginsAt_14 : decode cX7_partBeginsAt 14 = .ok (.bipush 16, 2) := by decide +kernel
theorem dX7_partBeginsAt_16 : decode cX7_partBeginsAt 16 = .ok (.if_icmp .ge 18, 3) := by decide +kernel
theorem dX7_partBeginsAt_19 : decode cX7_partBeginsAt 19 = .ok (.aload_n 0, 1) := by decide +kernel
theorem dX7_partBeginsAt_20 : decode cX7_partBeginsAt 20 = .ok (.getfield 15, 3) := by decide +kernel
theorem dX7_partBeginsAt_23 : decode cX7_partBeginsAt 23 = .ok (.iconst 1, 1) := by decide +kernel
theorem dX7_partBeginsAt_24 : decode cX7_partBeginsAt 24 = .ok (.iload_n 2, 1) := by decide +kernel
theorem dX7_partBeginsAt_25 : decode cX7_partBeginsAt 25 = .ok (.ishl, 1) := by decide +kernel
theorem dX7_partBeginsAt_26 : decode cX7_partBeginsAt 26 = .ok (.iand, 1) := by decide +kernel
theorem dX7_partBeginsAt_27 : decode cX7_partBeginsAt 27 = .ok (.ifCond .eq 7, 3) := by decide +kernel
theorem dX7_partBeginsAt_30 : decode cX7_partBeginsAt 30 = .ok (.iconst 1, 1) := by decide +kernel
theorem dX7_partBeginsAt_31 : decode cX7_partBeginsAt 31 = .ok (.goto 4, 3) := by decide +kernel
theorem dX7_partBeginsAt_34 : decode cX7_partBeginsAt 34 = .ok (.iconst 0, 1) := by decide +kernel
theorem dX7_partBeginsAt_35 : decode cX7_partBeginsAt 35 = .ok (.ireturn, 1) := by decide +kernel
theorem dX8_init_0 : decode cX8_init 0 = .ok (.aload_n 0, 1) := by decide +kernel
theorem dX8_init_1 : decode cX8_init 1 = .ok (.invokespecial 3, 3) := by decide +kernel
theorem dX8_init_4 : decode cX8_init 4 = .ok (.aload_n 0, 1) := by decide +kernel
theorem dX8_init_5 : decode cX8_init 5 = .ok (.sipush 200, 3) := by decide +kernel
theorem dX8_init_8 : decode cX8_init 8 = .ok (.newarray .char, 2) := by decide +kernel
theorem dX8_init_10 : decode cX8_init 10 = .ok (.putfield 9, 3) := by decide +kernel
theorem dX8_init_13 : decode cX8_init 13 = .ok (.aload_n 0, 1) := by decide +kernel
theorem dX8_init_14 : decode cX8_init 14 = .ok (.sipush 200, 3) := by decide +kernel
theorem dX8_init_17 : decode cX8_init 17 = .ok (.newarray .int, 2) := by decide +kernel
theorem dX8_init_19 : decode cX8_init 19 = .ok (.putfield 15, 3) := by decide +kernel
theorem dX8_init_22 : decode cX8_init 22 = .ok (.aload_n 0, 1) := by decide +kernel
theorem dX8_init_23 : decode cX8_init 23 = .ok (.sipush 200, 3) := by decide +kernel
theorem dX8_init_26 : decode cX8_init 26 = .ok (.newarray .int, 2) := by decide +kernel
theorem dX8_init_28 : decode cX8_init 28 = .ok (.putfield 19, 3) := by decide +kernel
theorem dX8_init_31 : decode cX8_init 31 = .ok (.aload_n 0, 1) := by decide +kernel
theorem dX8_init_32 : decode cX8_init 32 = .ok (.sipush 200, 3) := by decide +kernel
theorem dX8_init_35 : decode cX8_init 35 = .ok (.newarray .int, 2) := by decide +kernel
theorem dX8_init_37 : decode cX8_init 37 = .ok (.putfield 22, 3) := by decide +kernel
theorem dX8_init_40 : decode cX8_init 40 = .ok (.return_, 1) := by decide +kernel
theorem dX8_length_0 : decode cX8_length 0 = .ok (.aload_n 0, 1) := by decide +kernel
theorem dX8_length_1 : decode cX8_length 1 = .ok (.getfield 25, 3) := by decide +kernel
theorem dX8_length_4 : decode cX8_length 4 = .ok (.ireturn, 1) := by decide +kernel
theorem dX8_isFull_0 : decode cX8_isFull 0 = .ok (.aload_n 0, 1) := by decide +kernel
theorem dX8_isFull_1 : decode cX8_isFull 1 = .ok (.getfield 25, 3) := by decide +kernel
theorem dX8_isFull_4 : decode cX8_isFull 4 = .ok (.sipush 200, 3) := by decide +kernel
theorem dX8_isFull_7 : decode cX8_isFull 7 = .ok (.if_icmp .lt 7, 3) := by decide +kernel
theorem dX8_isFull_10 : decode cX8_isFull 10 = .ok (.iconst 1, 1) := by decide +kernel
theorem dX8_isFull_11 : decode cX8_isFull 11 = .ok (.goto 4, 3) := by decide +kernel
theorem dX8_isFull_14 : decode cX8_isFull 14 = .ok (.iconst 0, 1) := by decide +kernel
theorem dX8_isFull_15 : decode cX8_isFull 15 = .ok (.ireturn, 1) := by decide +kernel
theorem dX8_add_0 : decode cX8_add 0 = .ok (.aload_n 0, 1) := by decide +kernel
theorem dX8_add_1 : decode cX8_add 1 = .ok (.invokevirtual 29, 3) := by decide +kernel
theorem dX8_add_4 : decode cX8_add 4 = .ok (.ifCond .ne 23, 3) := by decide +kernel
theorem dX8_add_7 : decode cX8_add 7 = .ok (.aload_n 0, 1) := by decide +kernel
theorem dX8_add_8 : decode cX8_add 8 = .ok (.getfield 9, 3) := by decide +kernel
theorem dX8_add_11 : decode cX8_add 11 = .ok (.aload_n 0, 1) := by decide +kernel
theorem dX8_add_12 : decode cX8_add 12 = .ok (.getfield 25, 3) := by decide +kernel
theorem dX8_add_15 : decode cX8_add 15 = .ok (.iload_n 1, 1) := by decide +kernel
theorem dX8_add_16 : decode cX8_add 16 = .ok (.castore, 1) := by decide +kernel
theorem dX8_add_17 : decode cX8_add 17 = .ok (.aload_n 0, 1) := by decide +kernel
theorem dX8_add_18 : decode cX8_add 18 = .ok (.dup, 1) := by decide +kernel
theorem dX8_add_19 : decode cX8_add 19 = .ok (.getfield 25, 3) := by decide +kernel
theorem dX8_add_22 : decode cX8_add 22 = .ok (.iconst 1, 1) := by decide +kernel
theorem dX8_add_23 : decode cX8_add 23 = .ok (.iadd, 1) := by decide +kernel
theorem dX8_add_24 : decode cX8_add 24 = .ok (.putfield 25, 3) := by decide +kernel
theorem dX8_add_27 : decode cX8_add 27 = .ok (.return_, 1) := by decide +kernel
theorem dX8_clear_0 : decode cX8_clear 0 = .ok (.aload_n 0, 1) := by decide +kernel
theorem dX8_clear_1 : decode cX8_clear 1 = .ok (.iconst 0, 1) := by decide +kernel
theorem dX8_clear_2 : decode cX8_clear 2 = .ok (.putfield 25, 3) := by decide +kernel
theorem dX8_clear_5 : decode cX8_clear 5 = .ok (.return_, 1) := by decide +kernel
theorem dX8_split_0 : decode cX8_split 0 = .ok (.aload_n 0, 1) := by decide +kernel
theorem dX8_split_1 : decode cX8_split 1 = .ok (.iconst 0, 1) := by decide +kernel
theorem dX8_split_2 : decode cX8_split 2 = .ok (.putfield 33, 3) := by decide +kernel
theorem dX8_split_5 : decode cX8_split 5 = .ok (.aload_n 0, 1) := by decide +kernel
theorem dX8_split_6 : decode cX8_split 6 = .ok (.iconst 0, 1) := by decide +kernel
theorem dX8_split_7 : decode cX8_split 7 = .ok (.putfield 36, 3) := by decide +kernel
theorem dX8_split_10 : decode cX8_split 10 = .ok (.bipush 32, 2) := by decide +kernel
theorem dX8_split_12 : decode cX8_split 12 = .ok (.istore_n 1, 1) := by decide +kernel
theorem dX8_split_13 : decode cX8_split 13 = .ok (.iconst 0, 1) := by decide +kernel
theorem dX8_split_14 : decode cX8_split 14 = .ok (.istore_n 2, 1) := by decide +kernel
theorem dX8_split_15 : decode cX8_split 15 = .ok (.iload_n 2, 1) := by decide +kernel
theorem dX8_split_16 : decode cX8_split 16 = .ok (.aload_n 0, 1) := by decide +kernel
theorem dX8_split_17 : decode cX8_split 17 = .ok (.getfield 25, 3) := by decide +kernel
theorem dX8_split_20 : decode cX8_split 20 = .ok (.if_icmp .ge 123, 3) := by decide +kernel
theorem dX8_split_23 : decode cX8_split 23 = .ok (.aload_n 0, 1) := by decide +kernel
theorem dX8_split_24 : decode cX8_split 24 = .ok (.getfield 9, 3) := by decide +kernel
theorem dX8_split_27 : decode cX8_split 27 = .ok (.iload_n 2, 1) := by decide +kernel
theorem dX8_split_28 : decode cX8_split 28 = .ok (.caload, 1) := by decide +kernel
theorem dX8_split_29 : decode cX8_split 29 = .ok (.invokestatic 39, 3) := by decide +kernel
theorem dX8_split_32 : decode cX8_split 32 = .ok (.istore_n 3, 1) := by decide +kernel
theorem dX8_split_33 : decode cX8_split 33 = .ok (.iload_n 3, 1) := by decide +kernel
theorem dX8_split_34 : decode cX8_split 34 = .ok (.sipush 256, 3) := by decide +kernel
theorem dX8_split_37 : decode cX8_split 37 = .ok (.if_icmp .eq 10, 3) := by decide +kernel
theorem dX8_split_40 : decode cX8_split 40 = .ok (.iload_n 3, 1) := by decide +kernel
theorem dX8_split_41 : decode cX8_split 41 = .ok (.sipush 257, 3) := by decide +kernel
theorem dX8_split_44 : decode cX8_split 44 = .ok (.if_icmp .ne 7, 3) := by decide +kernel
theorem dX8_split_47 : decode cX8_split 47 = .ok (.iconst 1, 1) := by decide +kernel
theorem dX8_split_48 : decode cX8_split 48 = .ok (.goto 4, 3) := by decide +kernel
theorem dX8_split_51 : decode cX8_split 51 = .ok (.iconst 0, 1) := by decide +kernel
theorem dX8_split_52 : decode cX8_split 52 = .ok (.istore 4, 2) := by decide +kernel
theorem dX8_split_54 : decode cX8_split 54 = .ok (.iload 4, 2) := by decide +kernel
theorem dX8_split_56 : decode cX8_split 56 = .ok (.ifCond .eq 33, 3) := by decide +kernel
theorem dX8_split_59 : decode cX8_split 59 = .ok (.iload_n 3, 1) := by decide +kernel
theorem dX8_split_60 : decode cX8_split 60 = .ok (.iload_n 1, 1) := by decide +kernel
theorem dX8_split_61 : decode cX8_split 61 = .ok (.if_icmp .ne 28, 3) := by decide +kernel
theorem dX8_split_64 : decode cX8_split 64 = .ok (.aload_n 0, 1) := by decide +kernel
theorem dX8_split_65 : decode cX8_split 65 = .ok (.getfield 33, 3) := by decide +kernel
theorem dX8_split_68 : decode cX8_split 68 = .ok (.ifCond .le 21, 3) := by decide +kernel
theorem dX8_split_71 : decode cX8_split 71 = .ok (.aload_n 0, 1) := by decide +kernel
theorem dX8_split_72 : decode cX8_split 72 = .ok (.getfield 22, 3) := by decide +kernel
theorem dX8_split_75 : decode cX8_split 75 = .ok (.aload_n 0, 1) := by decide +kernel
theorem dX8_split_76 : decode cX8_split 76 = .ok (.getfield 33, 3) := by decide +kernel
theorem dX8_split_79 : decode cX8_split 79 = .ok (.iconst 1, 1) := by decide +kernel
theorem dX8_split_80 : decode cX8_split 80 = .ok (.isub, 1) := by decide +kernel
theorem dX8_split_81 : decode cX8_split 81 = .ok (.dup2, 1) := by decide +kernel
theorem dX8_split_82 : decode cX8_split 82 = .ok (.iaload, 1) := by decide +kernel
theorem dX8_split_83 : decode cX8_split 83 = .ok (.iconst 1, 1) := by decide +kernel
theorem dX8_split_84 : decode cX8_split 84 = .ok (.iadd, 1) := by decide +kernel
theorem dX8_split_85 : decode cX8_split 85 = .ok (.iastore, 1) := by decide +kernel
theorem dX8_split_86 : decode cX8_split 86 = .ok (.goto 49, 3) := by decide +kernel
theorem dX8_split_89 : decode cX8_split 89 = .ok (.iload_n 3, 1) := by decide +kernel
theorem dX8_split_90 : decode cX8_split 90 = .ok (.bipush 32, 2) := by decide +kernel
theorem dX8_split_92 : decode cX8_split 92 = .ok (.if_icmp .eq 43, 3) := by decide +kernel
theorem dX8_split_95 : decode cX8_split 95 = .ok (.aload_n 0, 1) := by decide +kernel
theorem dX8_split_96 : decode cX8_split 96 = .ok (.getfield 15, 3) := by decide +kernel
theorem dX8_split_99 : decode cX8_split 99 = .ok (.aload_n 0, 1) := by decide +kernel
theorem dX8_split_100 : decode cX8_split 100 = .ok (.getfield 33, 3) := by decide +kernel
theorem dX8_split_103 : decode cX8_split 103 = .ok (.iload_n 3, 1) := by decide +kernel
theorem dX8_split_104 : decode cX8_split 104 = .ok (.iastore, 1) := by decide +kernel
theorem dX8_split_105 : decode cX8_split 105 = .ok (.aload_n 0, 1) := by decide +kernel
theorem dX8_split_106 : decode cX8_split 106 = .ok (.getfield 19, 3) := by decide +kernel
theorem dX8_split_109 : decode cX8_split 109 = .ok (.aload_n 0, 1) := by decide +kernel
theorem dX8_split_110 : decode cX8_split 110 = .ok (.getfield 33, 3) := by decide +kernel
theorem dX8_split_113 : decode cX8_split 113 = .ok (.iload_n 2, 1) := by decide +kernel
theorem dX8_split_114 : decode cX8_split 114 = .ok (.iastore, 1) := by decide +kernel
theorem dX8_split_115 : decode cX8_split 115 = .ok (.aload_n 0, 1) := by decide +kernel
theorem dX8_split_116 : decode cX8_split 116 = .ok (.getfield 22, 3) := by decide +kernel
theorem dX8_split_119 : decode cX8_split 119 = .ok (.aload_n 0, 1) := by decide +kernel
theorem dX8_split_120 : decode cX8_split 120 = .ok (.getfield 33, 3) := by decide +kernel
theorem dX8_split_123 : decode cX8_split 123 = .ok (.iconst 1, 1) := by decide +kernel
theorem dX8_split_124 : decode cX8_split 124 = .ok (.iastore, 1) := by decide +kernel
theorem dX8_split_125 : decode cX8_split 125 = .ok (.aload_n 0, 1) := by decide +kernel
theorem dX8_split_126 : decode cX8_split 126 = .ok (.dup, 1) := by decide +kernel
theorem dX8_split_127 : decode cX8_split 127 = .ok (.getfield 33, 3) := by decide +kernel
theorem dX8_split_130 : decode cX8_split 130 = .ok (.iconst 1, 1) := by decide +kernel
theorem dX8_split_131 : decode cX8_split 131 = .ok (.iadd, 1) := by decide +kernel
theorem dX8_split_132 : decode cX8_split 132 = .ok (.putfield 33, 3) := by decide +kernel
theorem dX8_split_135 : decode cX8_split 135 = .ok (.iload_n 3, 1) := by decide +kernel
theorem dX8_split_136 : decode cX8_split 136 = .ok (.istore_n 1, 1) := by decide +kernel
theorem dX8_split_137 : decode cX8_split 137 = .ok (.iinc 2 1, 3) := by decide +kernel
theorem dX8_split_140 : decode cX8_split 140 = .ok (.goto (-125), 3) := by decide +kernel
theorem dX8_split_143 : decode cX8_split 143 = .ok (.iconst 0, 1) := by decide +kernel
theorem dX8_split_144 : decode cX8_split 144 = .ok (.istore_n 2, 1) := by decide +kernel
theorem dX8_split_145 : decode cX8_split 145 = .ok (.iload_n 2, 1) := by decide +kernel
theorem dX8_split_146 : decode cX8_split 146 = .ok (.aload_n 0, 1) := by decide +kernel
theorem dX8_split_147 : decode cX8_split 147 = .ok (.getfield 33, 3) := by decide +kernel
theorem dX8_split_150 : decode cX8_split 150 = .ok (.if_icmp .ge 43, 3) := by decide +kernel
theorem dX8_split_153 : decode cX8_split 153 = .ok (.aload_n 0, 1) := by decide +kernel
theorem dX8_split_154 : decode cX8_split 154 = .ok (.getfield 15, 3) := by decide +kernel
theorem dX8_split_157 : decode cX8_split 157 = .ok (.iload_n 2, 1) := by decide +kernel
theorem dX8_split_158 : decode cX8_split 158 = .ok (.iaload, 1) := by decide +kernel
theorem dX8_split_159 : decode cX8_split 159 = .ok (.sipush 256, 3) := by decide +kernel
theorem dX8_split_162 : decode cX8_split 162 = .ok (.if_icmp .ne 25, 3) := by decide +kernel
theorem dX8_split_165 : decode cX8_split 165 = .ok (.aload_n 0, 1) := by decide +kernel
theorem dX8_split_166 : decode cX8_split 166 = .ok (.getfield 15, 3) := by decide +kernel
theorem dX8_split_169 : decode cX8_split 169 = .ok (.iload_n 2, 1) := by decide +kernel
theorem dX8_split_170 : decode cX8_split 170 = .ok (.aload_n 0, 1) := by decide +kernel
theorem dX8_split_171 : decode cX8_split 171 = .ok (.aload_n 0, 1) := by decide +kernel
theorem dX8_split_172 : decode cX8_split 172 = .ok (.getfield 19, 3) := by decide +kernel
theorem dX8_split_175 : decode cX8_split 175 = .ok (.iload_n 2, 1) := by decide +kernel
theorem dX8_split_176 : decode cX8_split 176 = .ok (.iaload, 1) := by decide +kernel
theorem dX8_split_177 : decode cX8_split 177 = .ok (.aload_n 0, 1) := by decide +kernel
theorem dX8_split_178 : decode cX8_split 178 = .ok (.getfield 22, 3) := by decide +kernel
theorem dX8_split_181 : decode cX8_split 181 = .ok (.iload_n 2, 1) := by decide +kernel
theorem dX8_split_182 : decode cX8_split 182 = .ok (.iaload, 1) := by decide +kernel
theorem dX8_split_183 : decode cX8_split 183 = .ok (.invokevirtual 43, 3) := by decide +kernel
theorem dX8_split_186 : decode cX8_split 186 = .ok (.iastore, 1) := by decide +kernel
theorem dX8_split_187 : decode cX8_split 187 = .ok (.iinc 2 1, 3) := by decide +kernel
theorem dX8_split_190 : decode cX8_split 190 = .ok (.goto (-45), 3) := by decide +kernel
theorem dX8_split_193 : decode cX8_split 193 = .ok (.return_, 1) := by decide +kernel
theorem dX8_kind_0 : decode cX8_kind 0 = .ok (.aload_n 0, 1) := by decide +kernel
theorem dX8_kind_1 : decode cX8_kind 1 = .ok (.getfield 36, 3) := by decide +kernel
theorem dX8_kind_4 : decode cX8_kind 4 = .ok (.aload_n 0, 1) := by decide +kernel
theorem dX8_kind_5 : decode cX8_kind 5 = .ok (.getfield 33, 3) := by decide +kernel
theorem dX8_kind_8 : decode cX8_kind 8 = .ok (.if_icmp .ge 15, 3) := by decide +kernel
theorem dX8_kind_11 : decode cX8_kind 11 = .ok (.aload_n 0, 1) := by decide +kernel
theorem dX8_kind_12 : decode cX8_kind 12 = .ok (.getfield 15, 3) := by decide +kernel
theorem dX8_kind_15 : decode cX8_kind 15 = .ok (.aload_n 0, 1) := by decide +kernel
theorem dX8_kind_16 : decode cX8_kind 16 = .ok (.getfield 36, 3) := by decide +kernel
theorem dX8_kind_19 : decode cX8_kind 19 = .ok (.iaload, 1) := by decide +kernel
theorem dX8_kind_20 : decode cX8_kind 20 = .ok (.goto 6, 3) := by decide +kernel
theorem dX8_kind_23 : decode cX8_kind 23 = .ok (.sipush 261, 3) := by decide +kernel
theorem dX8_kind_26 : decode cX8_kind 26 = .ok (.ireturn, 1) := by decide +kernel
theorem dX8_start_0 : decode cX8_start 0 = .ok (.aload_n 0, 1) := by decide +kernel
theorem dX8_start_1 : decode cX8_start 1 = .ok (.getfield 36, 3) := by decide +kernel
theorem dX8_start_4 : decode cX8_start 4 = .ok (.aload_n 0, 1) := by decide +kernel
theorem dX8_start_5 : decode cX8_start 5 = .ok (.getfield 33, 3) := by decide +kernel
theorem dX8_start_8 : decode cX8_start 8 = .ok (.if_icmp .ge 15, 3) := by decide +kernel
theorem dX8_start_11 : decode cX8_start 11 = .ok (.aload_n 0, 1) := by decide +kernel
theorem dX8_start_12 : decode cX8_start 12 = .ok (.getfield 19, 3) := by decide +kernel
theorem dX8_start_15 : decode cX8_start 15 = .ok (.aload_n 0, 1) := by decide +kernel
theorem dX8_start_16 : decode cX8_start 16 = .ok (.getfield 36, 3) := by decide +kernel
theorem dX8_start_19 : decode cX8_start 19 = .ok (.iaload, 1) := by decide +kernel
theorem dX8_start_20 : decode cX8_start 20 = .ok (.goto 7, 3) := by decide +kernel
theorem dX8_start_23 : decode cX8_start 23 = .ok (.aload_n 0, 1) := by decide +kernel
theorem dX8_start_24 : decode cX8_start 24 = .ok (.getfield 25, 3) := by decide +kernel
theorem dX8_start_27 : decode cX8_start 27 = .ok (.ireturn, 1) := by decide +kernel
theorem dX8_advance_0 : decode cX8_advance 0 = .ok (.aload_n 0, 1) := by decide +kernel
theorem dX8_advance_1 : decode cX8_advance 1 = .ok (.getfield 36, 3) := by decide +kernel
theorem dX8_advance_4 : decode cX8_advance 4 = .ok (.aload_n 0, 1) := by decide +kernel
theorem dX8_advance_5 : decode cX8_advance 5 = .ok (.getfield 33, 3) := by decide +kernel
theorem dX8_advance_8 : decode cX8_advance 8 = .ok (.if_icmp .ge 13, 3) := by decide +kernel
theorem dX8_advance_11 : decode cX8_advance 11 = .ok (.aload_n 0, 1) := by decide +kernel
theorem dX8_advance_12 : decode cX8_advance 12 = .ok (.dup, 1) := by decide +kernel
theorem dX8_advance_13 : decode cX8_advance 13 = .ok (.getfield 36, 3) := by decide +kernel
theorem dX8_advance_16 : decode cX8_advance 16 = .ok (.iconst 1, 1) := by decide +kernel
theorem dX8_advance_17 : decode cX8_advance 17 = .ok (.iadd, 1) := by decide +kernel
theorem dX8_advance_18 : decode cX8_advance 18 = .ok (.putfield 36, 3) := by decide +kernel
theorem dX8_advance_21 : decode cX8_advance 21 = .ok (.return_, 1) := by decide +kernel
theorem dX8_pass_0 : decode cX8_pass 0 = .ok (.aload_n 0, 1) := by decide +kernel
theorem dX8_pass_1 : decode cX8_pass 1 = .ok (.getfield 36, 3) := by decide +kernel
theorem dX8_pass_4 : decode cX8_pass 4 = .ok (.aload_n 0, 1) := by decide +kernel
theorem dX8_pass_5 : decode cX8_pass 5 = .ok (.getfield 33, 3) := by decide +kernel
theorem dX8_pass_8 : decode cX8_pass 8 = .ok (.if_icmp .ge 16, 3) := by decide +kernel
theorem dX8_pass_11 : decode cX8_pass 11 = .ok (.aload_n 0, 1) := by decide +kernel
theorem dX8_pass_12 : decode cX8_pass 12 = .ok (.getfield 15, 3) := by decide +kernel
theorem dX8_pass_15 : decode cX8_pass 15 = .ok (.aload_n 0, 1) := by decide +kernel
theorem dX8_pass_16 : decode cX8_pass 16 = .ok (.getfield 36, 3) := by decide +kernel
theorem dX8_pass_19 : decode cX8_pass 19 = .ok (.iaload, 1) := by decide +kernel
theorem dX8_pass_20 : decode cX8_pass 20 = .ok (.iload_n 1, 1) := by decide +kernel
theorem dX8_pass_21 : decode cX8_pass 21 = .ok (.if_icmp .eq 5, 3) := by decide +kernel
theorem dX8_pass_24 : decode cX8_pass 24 = .ok (.iconst 0, 1) := by decide +kernel
theorem dX8_pass_25 : decode cX8_pass 25 = .ok (.ireturn, 1) := by decide +kernel
theorem dX8_pass_26 : decode cX8_pass 26 = .ok (.aload_n 0, 1) := by decide +kernel
theorem dX8_pass_27 : decode cX8_pass 27 = .ok (.dup, 1) := by decide +kernel
theorem dX8_pass_28 : decode cX8_pass 28 = .ok (.getfield 36, 3) := by decide +kernel
theorem dX8_pass_31 : decode cX8_pass 31 = .ok (.iconst 1, 1) := by decide +kernel
theorem dX8_pass_32 : decode cX8_pass 32 = .ok (.iadd, 1) := by decide +kernel
theorem dX8_pass_33 : decode cX8_pass 33 = .ok (.putfield 36, 3) := by decide +kernel
theorem dX8_pass_36 : decode cX8_pass 36 = .ok (.iconst 1, 1) := by decide +kernel
theorem dX8_pass_37 : decode cX8_pass 37 = .ok (.ireturn, 1) := by decide +kernel
theorem dX8_name_0 : decode cX8_name 0 = .ok (.aload_n 0, 1) := by decide +kernel
theorem dX8_name_1 : decode cX8_name 1 = .ok (.getfield 36, 3) := by decide +kernel
theorem dX8_name_4 : decode cX8_name 4 = .ok (.aload_n 0, 1) := by decide +kernel
theorem dX8_name_5 : decode cX8_name 5 = .ok (.getfield 33, 3) := by decide +kernel
theorem dX8_name_8 : decode cX8_name 8 = .ok (.if_icmp .ge 38, 3) := by decide +kernel
theorem dX8_name_11 : decode cX8_name 11 = .ok (.aload_n 0, 1) := by decide +kernel
theorem dX8_name_12 : decode cX8_name 12 = .ok (.getfield 15, 3) := by decide +kernel
theorem dX8_name_15 : decode cX8_name 15 = .ok (.aload_n 0, 1) := by decide +kernel
theorem dX8_name_16 : decode cX8_name 16 = .ok (.getfield 36, 3) := by decide +kernel
theorem dX8_name_19 : decode cX8_name 19 = .ok (.iaload, 1) := by decide +kernel
theorem dX8_name_20 : decode cX8_name 20 = .ok (.sipush 258, 3) := by decide +kernel
theorem dX8_name_23 : decode cX8_name 23 = .ok (.if_icmp .ne 23, 3) := by decide +kernel
theorem dX8_name_26 : decode cX8_name 26 = .ok (.aload_n 0, 1) := by decide +kernel
theorem dX8_name_27 : decode cX8_name 27 = .ok (.getfield 9, 3) := by decide +kernel
theorem dX8_name_30 : decode cX8_name 30 = .ok (.aload_n 0, 1) := by decide +kernel
theorem dX8_name_31 : decode cX8_name 31 = .ok (.getfield 19, 3) := by decide +kernel
theorem dX8_name_34 : decode cX8_name 34 = .ok (.aload_n 0, 1) := by decide +kernel
theorem dX8_name_35 : decode cX8_name 35 = .ok (.getfield 36, 3) := by decide +kernel
theorem dX8_name_38 : decode cX8_name 38 = .ok (.iaload, 1) := by decide +kernel
theorem dX8_name_39 : decode cX8_name 39 = .ok (.caload, 1) := by decide +kernel
theorem dX8_name_40 : decode cX8_name 40 = .ok (.bipush 97, 2) := by decide +kernel
theorem dX8_name_42 : decode cX8_name 42 = .ok (.isub, 1) := by decide +kernel
theorem dX8_name_43 : decode cX8_name 43 = .ok (.goto 5, 3) := by decide +kernel
theorem dX8_name_46 : decode cX8_name 46 = .ok (.bipush (-9), 2) := by decide +kernel
theorem dX8_name_48 : decode cX8_name 48 = .ok (.ireturn, 1) := by decide +kernel
theorem dX8_number_0 : decode cX8_number 0 = .ok (.aload_n 0, 1) := by decide +kernel
theorem dX8_number_1 : decode cX8_number 1 = .ok (.getfield 36, 3) := by decide +kernel
theorem dX8_number_4 : decode cX8_number 4 = .ok (.aload_n 0, 1) := by decide +kernel
theorem dX8_number_5 : decode cX8_number 5 = .ok (.getfield 33, 3) := by decide +kernel
theorem dX8_number_8 : decode cX8_number 8 = .ok (.if_icmp .ge 18, 3) := by decide +kernel
theorem dX8_number_11 : decode cX8_number 11 = .ok (.aload_n 0, 1) := by decide +kernel
theorem dX8_number_12 : decode cX8_number 12 = .ok (.getfield 15, 3) := by decide +kernel
theorem dX8_number_15 : decode cX8_number 15 = .ok (.aload_n 0, 1) := by decide +kernel
theorem dX8_number_16 : decode cX8_number 16 = .ok (.getfield 36, 3) := by decide +kernel
theorem dX8_number_19 : decode cX8_number 19 = .ok (.iaload, 1) := by decide +kernel
theorem dX8_number_20 : decode cX8_number 20 = .ok (.sipush 257, 3) := by decide +kernel
theorem dX8_number_23 : decode cX8_number 23 = .ok (.if_icmp .eq 6, 3) := by decide +kernel
theorem dX8_number_26 : decode cX8_number 26 = .ok (.bipush (-9), 2) := by decide +kernel
theorem dX8_number_28 : decode cX8_number 28 = .ok (.ireturn, 1) := by decide +kernel
theorem dX8_number_29 : decode cX8_number 29 = .ok (.aload_n 0, 1) := by decide +kernel
theorem dX8_number_30 : decode cX8_number 30 = .ok (.getfield 9, 3) := by decide +kernel
theorem dX8_number_33 : decode cX8_number 33 = .ok (.aload_n 0, 1) := by decide +kernel
theorem dX8_number_34 : decode cX8_number 34 = .ok (.getfield 19, 3) := by decide +kernel
theorem dX8_number_37 : decode cX8_number 37 = .ok (.aload_n 0, 1) := by decide +kernel
theorem dX8_number_38 : decode cX8_number 38 = .ok (.getfield 36, 3) := by decide +kernel
theorem dX8_number_41 : decode cX8_number 41 = .ok (.iaload, 1) := by decide +kernel
theorem dX8_number_42 : decode cX8_number 42 = .ok (.caload, 1) := by decide +kernel
theorem dX8_number_43 : decode cX8_number 43 = .ok (.bipush 48, 2) := by decide +kernel
theorem dX8_number_45 : decode cX8_number 45 = .ok (.isub, 1) := by decide +kernel
theorem dX8_number_46 : decode cX8_number 46 = .ok (.istore_n 1, 1) := by decide +kernel
theorem dX8_number_47 : decode cX8_number 47 = .ok (.aload_n 0, 1) := by decide +kernel
theorem dX8_number_48 : decode cX8_number 48 = .ok (.getfield 22, 3) := by decide +kernel
theorem dX8_number_51 : decode cX8_number 51 = .ok (.aload_n 0, 1) := by decide +kernel
theorem dX8_number_52 : decode cX8_number 52 = .ok (.getfield 36, 3) := by decide +kernel
theorem dX8_number_55 : decode cX8_number 55 = .ok (.iaload, 1) := by decide +kernel
theorem dX8_number_56 : decode cX8_number 56 = .ok (.iconst 1, 1) := by decide +kernel
theorem dX8_number_57 : decode cX8_number 57 = .ok (.if_icmp .ne 5, 3) := by decide +kernel
theorem dX8_number_60 : decode cX8_number 60 = .ok (.iload_n 1, 1) := by decide +kernel
theorem dX8_number_61 : decode cX8_number 61 = .ok (.ireturn, 1) := by decide +kernel
theorem dX8_number_62 : decode cX8_number 62 = .ok (.aload_n 0, 1) := by decide +kernel
theorem dX8_number_63 : decode cX8_number 63 = .ok (.getfield 22, 3) := by decide +kernel
theorem dX8_number_66 : decode cX8_number 66 = .ok (.aload_n 0, 1) := by decide +kernel
theorem dX8_number_67 : decode cX8_number 67 = .ok (.getfield 36, 3) := by decide +kernel
theorem dX8_number_70 : decode cX8_number 70 = .ok (.iaload, 1) := by decide +kernel
theorem dX8_number_71 : decode cX8_number 71 = .ok (.iconst 2, 1) := by decide +kernel
theorem dX8_number_72 : decode cX8_number 72 = .ok (.if_icmp .ne 11, 3) := by decide +kernel
theorem dX8_number_75 : decode cX8_number 75 = .ok (.iload_n 1, 1) := by decide +kernel
theorem dX8_number_76 : decode cX8_number 76 = .ok (.ifCond .eq 7, 3) := by decide +kernel
theorem dX8_number_79 : decode cX8_number 79 = .ok (.iconst 1, 1) := by decide +kernel
theorem dX8_number_80 : decode cX8_number 80 = .ok (.goto 4, 3) := by decide +kernel
theorem dX8_number_83 : decode cX8_number 83 = .ok (.iconst 0, 1) := by decide +kernel
theorem dX8_number_84 : decode cX8_number 84 = .ok (.istore_n 2, 1) := by decide +kernel
theorem dX8_number_85 : decode cX8_number 85 = .ok (.iload_n 2, 1) := by decide +kernel
theorem dX8_number_86 : decode cX8_number 86 = .ok (.ifCond .eq 30, 3) := by decide +kernel
theorem dX8_number_89 : decode cX8_number 89 = .ok (.bipush 10, 2) := by decide +kernel
theorem dX8_number_91 : decode cX8_number 91 = .ok (.iload_n 1, 1) := by decide +kernel
theorem dX8_number_92 : decode cX8_number 92 = .ok (.imul, 1) := by decide +kernel
theorem dX8_number_93 : decode cX8_number 93 = .ok (.aload_n 0, 1) := by decide +kernel
theorem dX8_number_94 : decode cX8_number 94 = .ok (.getfield 9, 3) := by decide +kernel
theorem dX8_number_97 : decode cX8_number 97 = .ok (.aload_n 0, 1) := by decide +kernel
theorem dX8_number_98 : decode cX8_number 98 = .ok (.getfield 19, 3) := by decide +kernel
theorem dX8_number_101 : decode cX8_number 101 = .ok (.aload_n 0, 1) := by decide +kernel
theorem dX8_number_102 : decode cX8_number 102 = .ok (.getfield 36, 3) := by decide +kernel
theorem dX8_number_105 : decode cX8_number 105 = .ok (.iaload, 1) := by decide +kernel
theorem dX8_number_106 : decode cX8_number 106 = .ok (.iconst 1, 1) := by decide +kernel
theorem dX8_number_107 : decode cX8_number 107 = .ok (.iadd, 1) := by decide +kernel
theorem dX8_number_108 : decode cX8_number 108 = .ok (.caload, 1) := by decide +kernel
theorem dX8_number_109 : decode cX8_number 109 = .ok (.iadd, 1) := by decide +kernel
theorem dX8_number_110 : decode cX8_number 110 = .ok (.bipush 48, 2) := by decide +kernel
theorem dX8_number_112 : decode cX8_number 112 = .ok (.isub, 1) := by decide +kernel
theorem dX8_number_113 : decode cX8_number 113 = .ok (.goto 5, 3) := by decide +kernel
theorem dX8_number_116 : decode cX8_number 116 = .ok (.bipush (-9), 2) := by decide +kernel
theorem dX8_number_118 : decode cX8_number 118 = .ok (.ireturn, 1) := by decide +kernel
theorem dX8_constantBits_0 : decode cX8_constantBits 0 = .ok (.aload_n 0, 1) := by decide +kernel
theorem dX8_constantBits_1 : decode cX8_constantBits 1 = .ok (.getfield 36, 3) := by decide +kernel
theorem dX8_constantBits_4 : decode cX8_constantBits 4 = .ok (.aload_n 0, 1) := by decide +kernel
theorem dX8_constantBits_5 : decode cX8_constantBits 5 = .ok (.getfield 33, 3) := by decide +kernel
theorem dX8_constantBits_8 : decode cX8_constantBits 8 = .ok (.if_icmp .ge 32, 3) := by decide +kernel
theorem dX8_constantBits_11 : decode cX8_constantBits 11 = .ok (.aload_n 0, 1) := by decide +kernel
theorem dX8_constantBits_12 : decode cX8_constantBits 12 = .ok (.getfield 15, 3) := by decide +kernel
theorem dX8_constantBits_15 : decode cX8_constantBits 15 = .ok (.aload_n 0, 1) := by decide +kernel
theorem dX8_constantBits_16 : decode cX8_constantBits 16 = .ok (.getfield 36, 3) := by decide +kernel
theorem dX8_constantBits_19 : decode cX8_constantBits 19 = .ok (.iaload, 1) := by decide +kernel
theorem dX8_constantBits_20 : decode cX8_constantBits 20 = .ok (.sipush 257, 3) := by decide +kernel
theorem dX8_constantBits_23 : decode cX8_constantBits 23 = .ok (.if_icmp .ne 17, 3) := by decide +kernel
theorem dX8_constantBits_26 : decode cX8_constantBits 26 = .ok (.aload_n 0, 1) := by decide +kernel
theorem dX8_constantBits_27 : decode cX8_constantBits 27 = .ok (.getfield 22, 3) := by decide +kernel
theorem dX8_constantBits_30 : decode cX8_constantBits 30 = .ok (.aload_n 0, 1) := by decide +kernel
theorem dX8_constantBits_31 : decode cX8_constantBits 31 = .ok (.getfield 36, 3) := by decide +kernel
theorem dX8_constantBits_34 : decode cX8_constantBits 34 = .ok (.iaload, 1) := by decide +kernel
theorem dX8_constantBits_35 : decode cX8_constantBits 35 = .ok (.bipush 16, 2) := by decide +kernel
theorem dX8_constantBits_37 : decode cX8_constantBits 37 = .ok (.if_icmp .le 5, 3) := by decide +kernel
theorem dX8_constantBits_40 : decode cX8_constantBits 40 = .ok (.iconst 0, 1) := by decide +kernel
theorem dX8_constantBits_41 : decode cX8_constantBits 41 = .ok (.ireturn, 1) := by decide +kernel
theorem dX8_constantBits_42 : decode cX8_constantBits 42 = .ok (.iconst 0, 1) := by decide +kernel
theorem dX8_constantBits_43 : decode cX8_constantBits 43 = .ok (.istore_n 1, 1) := by decide +kernel
theorem dX8_constantBits_44 : decode cX8_constantBits 44 = .ok (.iload_n 1, 1) := by decide +kernel
theorem dX8_constantBits_45 : decode cX8_constantBits 45 = .ok (.aload_n 0, 1) := by decide +kernel
theorem dX8_constantBits_46 : decode cX8_constantBits 46 = .ok (.getfield 22, 3) := by decide +kernel
theorem dX8_constantBits_49 : decode cX8_constantBits 49 = .ok (.aload_n 0, 1) := by decide +kernel
theorem dX8_constantBits_50 : decode cX8_constantBits 50 = .ok (.getfield 36, 3) := by decide +kernel
theorem dX8_constantBits_53 : decode cX8_constantBits 53 = .ok (.iaload, 1) := by decide +kernel
theorem dX8_constantBits_54 : decode cX8_constantBits 54 = .ok (.if_icmp .ge 32, 3) := by decide +kernel
theorem dX8_constantBits_57 : decode cX8_constantBits 57 = .ok (.aload_n 0, 1) := by decide +kernel
theorem dX8_constantBits_58 : decode cX8_constantBits 58 = .ok (.getfield 9, 3) := by decide +kernel
theorem dX8_constantBits_61 : decode cX8_constantBits 61 = .ok (.aload_n 0, 1) := by decide +kernel
theorem dX8_constantBits_62 : decode cX8_constantBits 62 = .ok (.getfield 19, 3) := by decide +kernel
theorem dX8_constantBits_65 : decode cX8_constantBits 65 = .ok (.aload_n 0, 1) := by decide +kernel
theorem dX8_constantBits_66 : decode cX8_constantBits 66 = .ok (.getfield 36, 3) := by decide +kernel
theorem dX8_constantBits_69 : decode cX8_constantBits 69 = .ok (.iaload, 1) := by decide +kernel
theorem dX8_constantBits_70 : decode cX8_constantBits 70 = .ok (.iload_n 1, 1) := by decide +kernel
theorem dX8_constantBits_71 : decode cX8_constantBits 71 = .ok (.iadd, 1) := by decide +kernel
theorem dX8_constantBits_72 : decode cX8_constantBits 72 = .ok (.caload, 1) := by decide +kernel
theorem dX8_constantBits_73 : decode cX8_constantBits 73 = .ok (.bipush 49, 2) := by decide +kernel
theorem dX8_constantBits_75 : decode cX8_constantBits 75 = .ok (.if_icmp .le 5, 3) := by decide +kernel
theorem dX8_constantBits_78 : decode cX8_constantBits 78 = .ok (.iconst 0, 1) := by decide +kernel
theorem dX8_constantBits_79 : decode cX8_constantBits 79 = .ok (.ireturn, 1) := by decide +kernel
theorem dX8_constantBits_80 : decode cX8_constantBits 80 = .ok (.iinc 1 1, 3) := by decide +kernel
theorem dX8_constantBits_83 : decode cX8_constantBits 83 = .ok (.goto (-39), 3) := by decide +kernel
theorem dX8_constantBits_86 : decode cX8_constantBits 86 = .ok (.aload_n 0, 1) := by decide +kernel
theorem dX8_constantBits_87 : decode cX8_constantBits 87 = .ok (.getfield 22, 3) := by decide +kernel
theorem dX8_constantBits_90 : decode cX8_constantBits 90 = .ok (.aload_n 0, 1) := by decide +kernel
theorem dX8_constantBits_91 : decode cX8_constantBits 91 = .ok (.getfield 36, 3) := by decide +kernel
theorem dX8_constantBits_94 : decode cX8_constantBits 94 = .ok (.iaload, 1) := by decide +kernel
theorem dX8_constantBits_95 : decode cX8_constantBits 95 = .ok (.ireturn, 1) := by decide +kernel
theorem dX8_constantBit_0 : decode cX8_constantBit 0 = .ok (.aload_n 0, 1) := by decide +kernel
theorem dX8_constantBit_1 : decode cX8_constantBit 1 = .ok (.getfield 36, 3) := by decide +kernel
theorem dX8_constantBit_4 : decode cX8_constantBit 4 = .ok (.aload_n 0, 1) := by decide +kernel
theorem dX8_constantBit_5 : decode cX8_constantBit 5 = .ok (.getfield 33, 3) := by decide +kernel
theorem dX8_constantBit_8 : decode cX8_constantBit 8 = .ok (.if_icmp .ge 24, 3) := by decide +kernel
theorem dX8_constantBit_11 : decode cX8_constantBit 11 = .ok (.iload_n 1, 1) := by decide +kernel
theorem dX8_constantBit_12 : decode cX8_constantBit 12 = .ok (.ifCond .lt 20, 3) := by decide +kernel
theorem dX8_constantBit_15 : decode cX8_constantBit 15 = .ok (.iload_n 1, 1) := by decide +kernel
theorem dX8_constantBit_16 : decode cX8_constantBit 16 = .ok (.aload_n 0, 1) := by decide +kernel
theorem dX8_constantBit_17 : decode cX8_constantBit 17 = .ok (.getfield 22, 3) := by decide +kernel
theorem dX8_constantBit_20 : decode cX8_constantBit 20 = .ok (.aload_n 0, 1) := by decide +kernel
theorem dX8_constantBit_21 : decode cX8_constantBit 21 = .ok (.getfield 36, 3) := by decide +kernel
theorem dX8_constantBit_24 : decode cX8_constantBit 24 = .ok (.iaload, 1) := by decide +kernel
theorem dX8_constantBit_25 : decode cX8_constantBit 25 = .ok (.if_icmp .ge 7, 3) := by decide +kernel
theorem dX8_constantBit_28 : decode cX8_constantBit 28 = .ok (.iconst 1, 1) := by decide +kernel
theorem dX8_constantBit_29 : decode cX8_constantBit 29 = .ok (.goto 4, 3) := by decide +kernel
theorem dX8_constantBit_32 : decode cX8_constantBit 32 = .ok (.iconst 0, 1) := by decide +kernel
theorem dX8_constantBit_33 : decode cX8_constantBit 33 = .ok (.istore_n 2, 1) := by decide +kernel
theorem dX8_constantBit_34 : decode cX8_constantBit 34 = .ok (.iload_n 2, 1) := by decide +kernel
theorem dX8_constantBit_35 : decode cX8_constantBit 35 = .ok (.ifCond .eq 28, 3) := by decide +kernel
theorem dX8_constantBit_38 : decode cX8_constantBit 38 = .ok (.aload_n 0, 1) := by decide +kernel
theorem dX8_constantBit_39 : decode cX8_constantBit 39 = .ok (.getfield 9, 3) := by decide +kernel
theorem dX8_constantBit_42 : decode cX8_constantBit 42 = .ok (.aload_n 0, 1) := by decide +kernel
theorem dX8_constantBit_43 : decode cX8_constantBit 43 = .ok (.getfield 19, 3) := by decide +kernel
theorem dX8_constantBit_46 : decode cX8_constantBit 46 = .ok (.aload_n 0, 1) := by decide +kernel
theorem dX8_constantBit_47 : decode cX8_constantBit 47 = .ok (.getfield 36, 3) := by decide +kernel
theorem dX8_constantBit_50 : decode cX8_constantBit 50 = .ok (.iaload, 1) := by decide +kernel
theorem dX8_constantBit_51 : decode cX8_constantBit 51 = .ok (.iload_n 1, 1) := by decide +kernel
theorem dX8_constantBit_52 : decode cX8_constantBit 52 = .ok (.iadd, 1) := by decide +kernel
theorem dX8_constantBit_53 : decode cX8_constantBit 53 = .ok (.caload, 1) := by decide +kernel
theorem dX8_constantBit_54 : decode cX8_constantBit 54 = .ok (.bipush 49, 2) := by decide +kernel
theorem dX8_constantBit_56 : decode cX8_constantBit 56 = .ok (.if_icmp .ne 7, 3) := by decide +kernel
theorem dX8_constantBit_59 : decode cX8_constantBit 59 = .ok (.iconst 1, 1) := by decide +kernel
theorem dX8_constantBit_60 : decode cX8_constantBit 60 = .ok (.goto 4, 3) := by decide +kernel
theorem dX8_constantBit_63 : decode cX8_constantBit 63 = .ok (.iconst 0, 1) := by decide +kernel
theorem dX8_constantBit_64 : decode cX8_constantBit 64 = .ok (.ireturn, 1) := by decide +kernel
theorem dX8_kindOfWord_0 : decode cX8_kindOfWord 0 = .ok (.iload_n 2, 1) := by decide +kernel
theorem dX8_kindOfWord_1 : decode cX8_kindOfWord 1 = .ok (.iconst 1, 1) := by decide +kernel
theorem dX8_kindOfWord_2 : decode cX8_kindOfWord 2 = .ok (.if_icmp .ne 18, 3) := by decide +kernel
theorem dX8_kindOfWord_5 : decode cX8_kindOfWord 5 = .ok (.aload_n 0, 1) := by decide +kernel
theorem dX8_kindOfWord_6 : decode cX8_kindOfWord 6 = .ok (.getfield 9, 3) := by decide +kernel
theorem dX8_kindOfWord_9 : decode cX8_kindOfWord 9 = .ok (.iload_n 1, 1) := by decide +kernel
theorem dX8_kindOfWord_10 : decode cX8_kindOfWord 10 = .ok (.caload, 1) := by decide +kernel
theorem dX8_kindOfWord_11 : decode cX8_kindOfWord 11 = .ok (.bipush 105, 2) := by decide +kernel
theorem dX8_kindOfWord_13 : decode cX8_kindOfWord 13 = .ok (.if_icmp .ge 7, 3) := by decide +kernel
theorem dX8_kindOfWord_16 : decode cX8_kindOfWord 16 = .ok (.sipush 258, 3) := by decide +kernel
theorem dX8_kindOfWord_19 : decode cX8_kindOfWord 19 = .ok (.ireturn, 1) := by decide +kernel
theorem dX8_kindOfWord_20 : decode cX8_kindOfWord 20 = .ok (.aload_n 0, 1) := by decide +kernel
theorem dX8_kindOfWord_21 : decode cX8_kindOfWord 21 = .ok (.iload_n 1, 1) := by decide +kernel
theorem dX8_kindOfWord_22 : decode cX8_kindOfWord 22 = .ok (.iload_n 2, 1) := by decide +kernel
theorem dX8_kindOfWord_23 : decode cX8_kindOfWord 23 = .ok (.ldc 47, 2) := by decide +kernel
theorem dX8_kindOfWord_25 : decode cX8_kindOfWord 25 = .ok (.invokevirtual 49, 3) := by decide +kernel
theorem dX8_kindOfWord_28 : decode cX8_kindOfWord 28 = .ok (.ifCond .eq 7, 3) := by decide +kernel
theorem dX8_kindOfWord_31 : decode cX8_kindOfWord 31 = .ok (.sipush 259, 3) := by decide +kernel
theorem dX8_kindOfWord_34 : decode cX8_kindOfWord 34 = .ok (.ireturn, 1) := by decide +kernel
theorem dX8_kindOfWord_35 : decode cX8_kindOfWord 35 = .ok (.aload_n 0, 1) := by decide +kernel
theorem dX8_kindOfWord_36 : decode cX8_kindOfWord 36 = .ok (.iload_n 1, 1) := by decide +kernel
theorem dX8_kindOfWord_37 : decode cX8_kindOfWord 37 = .ok (.iload_n 2, 1) := by decide +kernel
theorem dX8_kindOfWord_38 : decode cX8_kindOfWord 38 = .ok (.ldc 53, 2) := by decide +kernel
theorem dX8_kindOfWord_40 : decode cX8_kindOfWord 40 = .ok (.invokevirtual 49, 3) := by decide +kernel
theorem dX8_kindOfWord_43 : decode cX8_kindOfWord 43 = .ok (.ifCond .eq 9, 3) := by decide +kernel
theorem dX8_kindOfWord_46 : decode cX8_kindOfWord 46 = .ok (.sipush 260, 3) := by decide +kernel
theorem dX8_kindOfWord_49 : decode cX8_kindOfWord 49 = .ok (.goto 6, 3) := by decide +kernel
theorem dX8_kindOfWord_52 : decode cX8_kindOfWord 52 = .ok (.sipush 256, 3) := by decide +kernel
theorem dX8_kindOfWord_55 : decode cX8_kindOfWord 55 = .ok (.ireturn, 1) := by decide +kernel
theorem dX8_isWord_0 : decode cX8_isWord 0 = .ok (.iload_n 2, 1) := by decide +kernel
theorem dX8_isWord_1 : decode cX8_isWord 1 = .ok (.aload_n 3, 1) := by decide +kernel
theorem dX8_isWord_2 : decode cX8_isWord 2 = .ok (.invokevirtual 55, 3) := by decide +kernel
theorem dX8_isWord_5 : decode cX8_isWord 5 = .ok (.if_icmp .eq 5, 3) := by decide +kernel
theorem dX8_isWord_8 : decode cX8_isWord 8 = .ok (.iconst 0, 1) := by decide +kernel
theorem dX8_isWord_9 : decode cX8_isWord 9 = .ok (.ireturn, 1) := by decide +kernel
theorem dX8_isWord_10 : decode cX8_isWord 10 = .ok (.iconst 0, 1) := by decide +kernel
theorem dX8_isWord_11 : decode cX8_isWord 11 = .ok (.istore 4, 2) := by decide +kernel
theorem dX8_isWord_13 : decode cX8_isWord 13 = .ok (.iload 4, 2) := by decide +kernel
theorem dX8_isWord_15 : decode cX8_isWord 15 = .ok (.iload_n 2, 1) := by decide +kernel
theorem dX8_isWord_16 : decode cX8_isWord 16 = .ok (.if_icmp .ge 29, 3) := by decide +kernel
theorem dX8_isWord_19 : decode cX8_isWord 19 = .ok (.aload_n 0, 1) := by decide +kernel
theorem dX8_isWord_20 : decode cX8_isWord 20 = .ok (.getfield 9, 3) := by decide +kernel
theorem dX8_isWord_23 : decode cX8_isWord 23 = .ok (.iload_n 1, 1) := by decide +kernel
theorem dX8_isWord_24 : decode cX8_isWord 24 = .ok (.iload 4, 2) := by decide +kernel
theorem dX8_isWord_26 : decode cX8_isWord 26 = .ok (.iadd, 1) := by decide +kernel
theorem dX8_isWord_27 : decode cX8_isWord 27 = .ok (.caload, 1) := by decide +kernel
theorem dX8_isWord_28 : decode cX8_isWord 28 = .ok (.aload_n 3, 1) := by decide +kernel
theorem dX8_isWord_29 : decode cX8_isWord 29 = .ok (.iload 4, 2) := by decide +kernel
theorem dX8_isWord_31 : decode cX8_isWord 31 = .ok (.invokevirtual 60, 3) := by decide +kernel
theorem dX8_isWord_34 : decode cX8_isWord 34 = .ok (.if_icmp .eq 5, 3) := by decide +kernel
theorem dX8_isWord_37 : decode cX8_isWord 37 = .ok (.iconst 0, 1) := by decide +kernel
theorem dX8_isWord_38 : decode cX8_isWord 38 = .ok (.ireturn, 1) := by decide +kernel
theorem dX8_isWord_39 : decode cX8_isWord 39 = .ok (.iinc 4 1, 3) := by decide +kernel
theorem dX8_isWord_42 : decode cX8_isWord 42 = .ok (.goto (-29), 3) := by decide +kernel
theorem dX8_isWord_45 : decode cX8_isWord 45 = .ok (.iconst 1, 1) := by decide +kernel
theorem dX8_isWord_46 : decode cX8_isWord 46 = .ok (.ireturn, 1) := by decide +kernel
theorem dX8_kindOfSign_0 : decode cX8_kindOfSign 0 = .ok (.iload_n 0, 1) := by decide +kernel
theorem dX8_kindOfSign_1 : decode cX8_kindOfSign 1 = .ok (.bipush 97, 2) := by decide +kernel
theorem dX8_kindOfSign_3 : decode cX8_kindOfSign 3 = .ok (.if_icmp .lt 13, 3) := by decide +kernel
theorem dX8_kindOfSign_6 : decode cX8_kindOfSign 6 = .ok (.iload_n 0, 1) := by decide +kernel
theorem dX8_kindOfSign_7 : decode cX8_kindOfSign 7 = .ok (.bipush 122, 2) := by decide +kernel
theorem dX8_kindOfSign_9 : decode cX8_kindOfSign 9 = .ok (.if_icmp .gt 7, 3) := by decide +kernel
theorem dX8_kindOfSign_12 : decode cX8_kindOfSign 12 = .ok (.sipush 256, 3) := by decide +kernel
theorem dX8_kindOfSign_15 : decode cX8_kindOfSign 15 = .ok (.ireturn, 1) := by decide +kernel
theorem dX8_kindOfSign_16 : decode cX8_kindOfSign 16 = .ok (.iload_n 0, 1) := by decide +kernel
theorem dX8_kindOfSign_17 : decode cX8_kindOfSign 17 = .ok (.bipush 48, 2) := by decide +kernel
theorem dX8_kindOfSign_19 : decode cX8_kindOfSign 19 = .ok (.if_icmp .lt 15, 3) := by decide +kernel
theorem dX8_kindOfSign_22 : decode cX8_kindOfSign 22 = .ok (.iload_n 0, 1) := by decide +kernel
theorem dX8_kindOfSign_23 : decode cX8_kindOfSign 23 = .ok (.bipush 57, 2) := by decide +kernel
theorem dX8_kindOfSign_25 : decode cX8_kindOfSign 25 = .ok (.if_icmp .gt 9, 3) := by decide +kernel
theorem dX8_kindOfSign_28 : decode cX8_kindOfSign 28 = .ok (.sipush 257, 3) := by decide +kernel
theorem dX8_kindOfSign_31 : decode cX8_kindOfSign 31 = .ok (.goto 4, 3) := by decide +kernel
theorem dX8_kindOfSign_34 : decode cX8_kindOfSign 34 = .ok (.iload_n 0, 1) := by decide +kernel
theorem dX8_kindOfSign_35 : decode cX8_kindOfSign 35 = .ok (.ireturn, 1) := by decide +kernel
theorem dX9_init_0 : decode cX9_init 0 = .ok (.aload_n 0, 1) := by decide +kernel
theorem dX9_init_1 : decode cX9_init 1 = .ok (.invokespecial 3, 3) := by decide +kernel
theorem dX9_init_4 : decode cX9_init 4 = .ok (.aload_n 0, 1) := by decide +kernel
theorem dX9_init_5 : decode cX9_init 5 = .ok (.new 9, 3) := by decide +kernel
theorem dX9_init_8 : decode cX9_init 8 = .ok (.dup, 1) := by decide +kernel
theorem dX9_init_9 : decode cX9_init 9 = .ok (.invokespecial 11, 3) := by decide +kernel
theorem dX9_init_12 : decode cX9_init 12 = .ok (.putfield 12, 3) := by decide +kernel
theorem dX9_init_15 : decode cX9_init 15 = .ok (.aload_n 0, 1) := by decide +kernel
theorem dX9_init_16 : decode cX9_init 16 = .ok (.new 16, 3) := by decide +kernel
theorem dX9_init_19 : decode cX9_init 19 = .ok (.dup, 1) := by decide +kernel
theorem dX9_init_20 : decode cX9_init 20 = .ok (.aload_n 0, 1) := by decide +kernel
theorem dX9_init_21 : decode cX9_init 21 = .ok (.getfield 12, 3) := by decide +kernel
theorem dX9_init_24 : decode cX9_init 24 = .ok (.invokespecial 18, 3) := by decide +kernel
theorem dX9_init_27 : decode cX9_init 27 = .ok (.putfield 21, 3) := by decide +kernel
theorem dX9_init_30 : decode cX9_init 30 = .ok (.aload_n 0, 1) := by decide +kernel
theorem dX9_init_31 : decode cX9_init 31 = .ok (.new 25, 3) := by decide +kernel
theorem dX9_init_34 : decode cX9_init 34 = .ok (.dup, 1) := by decide +kernel
theorem dX9_init_35 : decode cX9_init 35 = .ok (.invokespecial 27, 3) := by decide +kernel
theorem dX9_init_38 : decode cX9_init 38 = .ok (.putfield 28, 3) := by decide +kernel
theorem dX9_init_41 : decode cX9_init 41 = .ok (.aload_n 0, 1) := by decide +kernel
theorem dX9_init_42 : decode cX9_init 42 = .ok (.new 25, 3) := by decide +kernel
theorem dX9_init_45 : decode cX9_init 45 = .ok (.dup, 1) := by decide +kernel
theorem dX9_init_46 : decode cX9_init 46 = .ok (.invokespecial 27, 3) := by decide +kernel
theorem dX9_init_49 : decode cX9_init 49 = .ok (.putfield 32, 3) := by decide +kernel
theorem dX9_init_52 : decode cX9_init 52 = .ok (.aload_n 0, 1) := by decide +kernel
theorem dX9_init_53 : decode cX9_init 53 = .ok (.new 35, 3) := by decide +kernel
theorem dX9_init_56 : decode cX9_init 56 = .ok (.dup, 1) := by decide +kernel
theorem dX9_init_57 : decode cX9_init 57 = .ok (.invokespecial 37, 3) := by decide +kernel
theorem dX9_init_60 : decode cX9_init 60 = .ok (.putfield 38, 3) := by decide +kernel
theorem dX9_init_63 : decode cX9_init 63 = .ok (.aload_n 0, 1) := by decide +kernel
theorem dX9_init_64 : decode cX9_init 64 = .ok (.new 25, 3) := by decide +kernel
theorem dX9_init_67 : decode cX9_init 67 = .ok (.dup, 1) := by decide +kernel
theorem dX9_init_68 : decode cX9_init 68 = .ok (.invokespecial 27, 3) := by decide +kernel
theorem dX9_init_71 : decode cX9_init 71 = .ok (.putfield 42, 3) := by decide +kernel
theorem dX9_init_74 : decode cX9_init 74 = .ok (.aload_n 0, 1) := by decide +kernel
theorem dX9_init_75 : decode cX9_init 75 = .ok (.new 25, 3) := by decide +kernel
theorem dX9_init_78 : decode cX9_init 78 = .ok (.dup, 1) := by decide +kernel
theorem dX9_init_79 : decode cX9_init 79 = .ok (.invokespecial 27, 3) := by decide +kernel
theorem dX9_init_82 : decode cX9_init 82 = .ok (.putfield 45, 3) := by decide +kernel
theorem dX9_init_85 : decode cX9_init 85 = .ok (.aload_n 0, 1) := by decide +kernel
theorem dX9_init_86 : decode cX9_init 86 = .ok (.new 48, 3) := by decide +kernel
theorem dX9_init_89 : decode cX9_init 89 = .ok (.dup, 1) := by decide +kernel
theorem dX9_init_90 : decode cX9_init 90 = .ok (.invokespecial 50, 3) := by decide +kernel
theorem dX9_init_93 : decode cX9_init 93 = .ok (.putfield 51, 3) := by decide +kernel
theorem dX9_init_96 : decode cX9_init 96 = .ok (.aload_n 0, 1) := by decide +kernel
theorem dX9_init_97 : decode cX9_init 97 = .ok (.new 55, 3) := by decide +kernel
theorem dX9_init_100 : decode cX9_init 100 = .ok (.dup, 1) := by decide +kernel
theorem dX9_init_101 : decode cX9_init 101 = .ok (.invokespecial 57, 3) := by decide +kernel
theorem dX9_init_104 : decode cX9_init 104 = .ok (.putfield 58, 3) := by decide +kernel
theorem dX9_init_107 : decode cX9_init 107 = .ok (.aload_n 0, 1) := by decide +kernel
theorem dX9_init_108 : decode cX9_init 108 = .ok (.new 55, 3) := by decide +kernel
theorem dX9_init_111 : decode cX9_init 111 = .ok (.dup, 1) := by decide +kernel
theorem dX9_init_112 : decode cX9_init 112 = .ok (.invokespecial 57, 3) := by decide +kernel
theorem dX9_init_115 : decode cX9_init 115 = .ok (.putfield 62, 3) := by decide +kernel
theorem dX9_init_118 : decode cX9_init 118 = .ok (.aload_n 0, 1) := by decide +kernel
theorem dX9_init_119 : decode cX9_init 119 = .ok (.new 65, 3) := by decide +kernel
theorem dX9_init_122 : decode cX9_init 122 = .ok (.dup, 1) := by decide +kernel
theorem dX9_init_123 : decode cX9_init 123 = .ok (.invokespecial 67, 3) := by decide +kernel
theorem dX9_init_126 : decode cX9_init 126 = .ok (.putfield 68, 3) := by decide +kernel
theorem dX9_init_129 : decode cX9_init 129 = .ok (.aload_n 0, 1) := by decide +kernel
theorem dX9_init_130 : decode cX9_init 130 = .ok (.iconst 0, 1) := by decide +kernel
theorem dX9_init_131 : decode cX9_init 131 = .ok (.putfield 72, 3) := by decide +kernel
theorem dX9_init_134 : decode cX9_init 134 = .ok (.aload_n 0, 1) := by decide +kernel
theorem dX9_init_135 : decode cX9_init 135 = .ok (.iconst 0, 1) := by decide +kernel
theorem dX9_init_136 : decode cX9_init 136 = .ok (.putfield 76, 3) := by decide +kernel
theorem dX9_init_139 : decode cX9_init 139 = .ok (.return_, 1) := by decide +kernel
theorem dX9_append_0 : decode cX9_append 0 = .ok (.iload_n 1, 1) := by decide +kernel
theorem dX9_append_1 : decode cX9_append 1 = .ok (.ifCond .lt 10, 3) := by decide +kernel
theorem dX9_append_4 : decode cX9_append 4 = .ok (.iload_n 1, 1) := by decide +kernel
theorem dX9_append_5 : decode cX9_append 5 = .ok (.sipush 255, 3) := by decide +kernel
theorem dX9_append_8 : decode cX9_append 8 = .ok (.if_icmp .le 5, 3) := by decide +kernel
theorem dX9_append_11 : decode cX9_append 11 = .ok (.iconst (-1), 1) := by decide +kernel
theorem dX9_append_12 : decode cX9_append 12 = .ok (.ireturn, 1) := by decide +kernel
theorem dX9_append_13 : decode cX9_append 13 = .ok (.aload_n 0, 1) := by decide +kernel
theorem dX9_append_14 : decode cX9_append 14 = .ok (.getfield 12, 3) := by decide +kernel
theorem dX9_append_17 : decode cX9_append 17 = .ok (.invokevirtual 80, 3) := by decide +kernel
theorem dX9_append_20 : decode cX9_append 20 = .ok (.ifCond .eq 6, 3) := by decide +kernel
theorem dX9_append_23 : decode cX9_append 23 = .ok (.bipush (-3), 2) := by decide +kernel
theorem dX9_append_25 : decode cX9_append 25 = .ok (.ireturn, 1) := by decide +kernel
theorem dX9_append_26 : decode cX9_append 26 = .ok (.aload_n 0, 1) := by decide +kernel
theorem dX9_append_27 : decode cX9_append 27 = .ok (.getfield 12, 3) := by decide +kernel
theorem dX9_append_30 : decode cX9_append 30 = .ok (.iload_n 1, 1) := by decide +kernel
theorem dX9_append_31 : decode cX9_append 31 = .ok (.i2c, 1) := by decide +kernel
theorem dX9_append_32 : decode cX9_append 32 = .ok (.invokevirtual 84, 3) := by decide +kernel
theorem dX9_append_35 : decode cX9_append 35 = .ok (.aload_n 0, 1) := by decide +kernel
theorem dX9_append_36 : decode cX9_append 36 = .ok (.getfield 12, 3) := by decide +kernel
theorem dX9_append_39 : decode cX9_append 39 = .ok (.invokevirtual 88, 3) := by decide +kernel
theorem dX9_append_42 : decode cX9_append 42 = .ok (.ireturn, 1) := by decide +kernel
theorem dX9_clearText_0 : decode cX9_clearText 0 = .ok (.aload_n 0, 1) := by decide +kernel
theorem dX9_clearText_1 : decode cX9_clearText 1 = .ok (.getfield 12, 3) := by decide +kernel
theorem dX9_clearText_4 : decode cX9_clearText 4 = .ok (.invokevirtual 88, 3) := by decide +kernel
theorem dX9_clearText_7 : decode cX9_clearText 7 = .ok (.istore_n 1, 1) := by decide +kernel
theorem dX9_clearText_8 : decode cX9_clearText 8 = .ok (.aload_n 0, 1) := by decide +kernel
theorem dX9_clearText_9 : decode cX9_clearText 9 = .ok (.getfield 12, 3) := by decide +kernel
theorem dX9_clearText_12 : decode cX9_clearText 12 = .ok (.invokevirtual 92, 3) := by decide +kernel
theorem dX9_clearText_15 : decode cX9_clearText 15 = .ok (.iload_n 1, 1) := by decide +kernel
theorem dX9_clearText_16 : decode cX9_clearText 16 = .ok (.ireturn, 1) := by decide +kernel
theorem dX9_load_0 : decode cX9_load 0 = .ok (.aload_n 0, 1) := by decide +kernel
theorem dX9_load_1 : decode cX9_load 1 = .ok (.getfield 21, 3) := by decide +kernel
theorem dX9_load_4 : decode cX9_load 4 = .ok (.aload_n 0, 1) := by decide +kernel
theorem dX9_load_5 : decode cX9_load 5 = .ok (.getfield 32, 3) := by decide +kernel
theorem dX9_load_8 : decode cX9_load 8 = .ok (.invokevirtual 95, 3) := by decide +kernel
theorem dX9_load_11 : decode cX9_load 11 = .ok (.istore_n 1, 1) := by decide +kernel
theorem dX9_load_12 : decode cX9_load 12 = .ok (.iload_n 1, 1) := by decide +kernel
theorem dX9_load_13 : decode cX9_load 13 = .ok (.bipush (-9), 2) := by decide +kernel
theorem dX9_load_15 : decode cX9_load 15 = .ok (.if_icmp .eq 8, 3) := by decide +kernel
theorem dX9_load_18 : decode cX9_load 18 = .ok (.bipush (-10), 2) := by decide +kernel
theorem dX9_load_20 : decode cX9_load 20 = .ok (.iload_n 1, 1) := by decide +kernel
theorem dX9_load_21 : decode cX9_load 21 = .ok (.isub, 1) := by decide +kernel
theorem dX9_load_22 : decode cX9_load 22 = .ok (.ireturn, 1) := by decide +kernel
theorem dX9_load_23 : decode cX9_load 23 = .ok (.aload_n 0, 1) := by decide +kernel
theorem dX9_load_24 : decode cX9_load 24 = .ok (.getfield 38, 3) := by decide +kernel
theorem dX9_load_27 : decode cX9_load 27 = .ok (.aload_n 0, 1) := by decide +kernel
theorem dX9_load_28 : decode cX9_load 28 = .ok (.getfield 28, 3) := by decide +kernel
theorem dX9_load_31 : decode cX9_load 31 = .ok (.invokevirtual 99, 3) := by decide +kernel
theorem dX9_load_34 : decode cX9_load 34 = .ok (.aload_n 0, 1) := by decide +kernel
theorem dX9_load_35 : decode cX9_load 35 = .ok (.getfield 28, 3) := by decide +kernel
theorem dX9_load_38 : decode cX9_load 38 = .ok (.aload_n 0, 1) := by decide +kernel
theorem dX9_load_39 : decode cX9_load 39 = .ok (.getfield 32, 3) := by decide +kernel
theorem dX9_load_42 : decode cX9_load 42 = .ok (.invokevirtual 103, 3) := by decide +kernel
theorem dX9_load_45 : decode cX9_load 45 = .ok (.aload_n 0, 1) := by decide +kernel
theorem dX9_load_46 : decode cX9_load 46 = .ok (.getfield 12, 3) := by decide +kernel
theorem dX9_load_49 : decode cX9_load 49 = .ok (.invokevirtual 92, 3) := by decide +kernel
theorem dX9_load_52 : decode cX9_load 52 = .ok (.aload_n 0, 1) := by decide +kernel
theorem dX9_load_53 : decode cX9_load 53 = .ok (.invokevirtual 106, 3) := by decide +kernel
theorem dX9_load_56 : decode cX9_load 56 = .ok (.aload_n 0, 1) := by decide +kernel
theorem dX9_load_57 : decode cX9_load 57 = .ok (.getfield 28, 3) := by decide +kernel
theorem dX9_load_60 : decode cX9_load 60 = .ok (.invokevirtual 109, 3) := by decide +kernel
theorem dX9_load_63 : decode cX9_load 63 = .ok (.ireturn, 1) := by decide +kernel
theorem dX9_removeEquation_0 : decode cX9_removeEquation 0 = .ok (.aload_n 0, 1) := by decide +kernel
theorem dX9_removeEquation_1 : decode cX9_removeEquation 1 = .ok (.getfield 28, 3) := by decide +kernel
theorem dX9_removeEquation_4 : decode cX9_removeEquation 4 = .ok (.getfield 112, 3) := by decide +kernel
theorem dX9_removeEquation_7 : decode cX9_removeEquation 7 = .ok (.iload_n 1, 1) := by decide +kernel
theorem dX9_removeEquation_8 : decode cX9_removeEquation 8 = .ok (.invokevirtual 116, 3) := by decide +kernel
theorem dX9_removeEquation_11 : decode cX9_removeEquation 11 = .ok (.ifCond .ne 5, 3) := by decide +kernel
theorem dX9_removeEquation_14 : decode cX9_removeEquation 14 = .ok (.iconst (-1), 1) := by decide +kernel
theorem dX9_removeEquation_15 : decode cX9_removeEquation 15 = .ok (.ireturn, 1) := by decide +kernel
theorem dX9_removeEquation_16 : decode cX9_removeEquation 16 = .ok (.aload_n 0, 1) := by decide +kernel
theorem dX9_removeEquation_17 : decode cX9_removeEquation 17 = .ok (.getfield 38, 3) := by decide +kernel
theorem dX9_removeEquation_20 : decode cX9_removeEquation 20 = .ok (.aload_n 0, 1) := by decide +kernel
theorem dX9_removeEquation_21 : decode cX9_removeEquation 21 = .ok (.getfield 28, 3) := by decide +kernel
theorem dX9_removeEquation_24 : decode cX9_removeEquation 24 = .ok (.invokevirtual 99, 3) := by decide +kernel
theorem dX9_removeEquation_27 : decode cX9_removeEquation 27 = .ok (.aload_n 0, 1) := by decide +kernel
theorem dX9_removeEquation_28 : decode cX9_removeEquation 28 = .ok (.getfield 28, 3) := by decide +kernel
theorem dX9_removeEquation_31 : decode cX9_removeEquation 31 = .ok (.getfield 112, 3) := by decide +kernel
theorem dX9_removeEquation_34 : decode cX9_removeEquation 34 = .ok (.iload_n 1, 1) := by decide +kernel
theorem dX9_removeEquation_35 : decode cX9_removeEquation 35 = .ok (.invokevirtual 122, 3) := by decide +kernel
theorem dX9_removeEquation_38 : decode cX9_removeEquation 38 = .ok (.aload_n 0, 1) := by decide +kernel
theorem dX9_removeEquation_39 : decode cX9_removeEquation 39 = .ok (.invokevirtual 106, 3) := by decide +kernel
theorem dX9_removeEquation_42 : decode cX9_removeEquation 42 = .ok (.aload_n 0, 1) := by decide +kernel
theorem dX9_removeEquation_43 : decode cX9_removeEquation 43 = .ok (.getfield 28, 3) := by decide +kernel
theorem dX9_removeEquation_46 : decode cX9_removeEquation 46 = .ok (.getfield 112, 3) := by decide +kernel
theorem dX9_removeEquation_49 : decode cX9_removeEquation 49 = .ok (.invokevirtual 126, 3) := by decide +kernel
theorem dX9_removeEquation_52 : decode cX9_removeEquation 52 = .ok (.ireturn, 1) := by decide +kernel
theorem dX9_removeDisequation_0 : decode cX9_removeDisequation 0 = .ok (.aload_n 0, 1) := by decide +kernel
theorem dX9_removeDisequation_1 : decode cX9_removeDisequation 1 = .ok (.getfield 28, 3) := by decide +kernel
theorem dX9_removeDisequation_4 : decode cX9_removeDisequation 4 = .ok (.getfield 129, 3) := by decide +kernel
theorem dX9_removeDisequation_7 : decode cX9_removeDisequation 7 = .ok (.iload_n 1, 1) := by decide +kernel
theorem dX9_removeDisequation_8 : decode cX9_removeDisequation 8 = .ok (.invokevirtual 116, 3) := by decide +kernel
theorem dX9_removeDisequation_11 : decode cX9_removeDisequation 11 = .ok (.ifCond .ne 5, 3) := by decide +kernel
theorem dX9_removeDisequation_14 : decode cX9_removeDisequation 14 = .ok (.iconst (-1), 1) := by decide +kernel
theorem dX9_removeDisequation_15 : decode cX9_removeDisequation 15 = .ok (.ireturn, 1) := by decide +kernel
theorem dX9_removeDisequation_16 : decode cX9_removeDisequation 16 = .ok (.aload_n 0, 1) := by decide +kernel
theorem dX9_removeDisequation_17 : decode cX9_removeDisequation 17 = .ok (.getfield 38, 3) := by decide +kernel
theorem dX9_removeDisequation_20 : decode cX9_removeDisequation 20 = .ok (.aload_n 0, 1) := by decide +kernel
theorem dX9_removeDisequation_21 : decode cX9_removeDisequation 21 = .ok (.getfield 28, 3) := by decide +kernel
theorem dX9_removeDisequation_24 : decode cX9_removeDisequation 24 = .ok (.invokevirtual 99, 3) := by decide +kernel
theorem dX9_removeDisequation_27 : decode cX9_removeDisequation 27 = .ok (.aload_n 0, 1) := by decide +kernel
theorem dX9_removeDisequation_28 : decode cX9_removeDisequation 28 = .ok (.getfield 28, 3) := by decide +kernel
theorem dX9_removeDisequation_31 : decode cX9_removeDisequation 31 = .ok (.getfield 129, 3) := by decide +kernel
theorem dX9_removeDisequation_34 : decode cX9_removeDisequation 34 = .ok (.iload_n 1, 1) := by decide +kernel
theorem dX9_removeDisequation_35 : decode cX9_removeDisequation 35 = .ok (.invokevirtual 122, 3) := by decide +kernel
theorem dX9_removeDisequation_38 : decode cX9_removeDisequation 38 = .ok (.aload_n 0, 1) := by decide +kernel
theorem dX9_removeDisequation_39 : decode cX9_removeDisequation 39 = .ok (.invokevirtual 106, 3) := by decide +kernel
theorem dX9_removeDisequation_42 : decode cX9_removeDisequation 42 = .ok (.aload_n 0, 1) := by decide +kernel
theorem dX9_removeDisequation_43 : decode cX9_removeDisequation 43 = .ok (.getfield 28, 3) := by decide +kernel
theorem dX9_removeDisequation_46 : decode cX9_removeDisequation 46 = .ok (.getfield 129, 3) := by decide +kernel
theorem dX9_removeDisequation_49 : decode cX9_removeDisequation 49 = .ok (.invokevirtual 126, 3) := by decide +kernel
theorem dX9_removeDisequation_52 : decode cX9_removeDisequation 52 = .ok (.ireturn, 1) := by decide +kernel
theorem dX9_width_0 : decode cX9_width 0 = .ok (.iload_n 1, 1) := by decide +kernel
theorem dX9_width_1 : decode cX9_width 1 = .ok (.invokestatic 132, 3) := by decide +kernel
theorem dX9_width_4 : decode cX9_width 4 = .ok (.ifCond .eq 14, 3) := by decide +kernel
theorem dX9_width_7 : decode cX9_width 7 = .ok (.aload_n 0, 1) := by decide +kernel
theorem dX9_width_8 : decode cX9_width 8 = .ok (.getfield 28, 3) := by decide +kernel
theorem dX9_width_11 : decode cX9_width 11 = .ok (.iload_n 1, 1) := by decide +kernel
theorem dX9_width_12 : decode cX9_width 12 = .ok (.invokevirtual 135, 3) := by decide +kernel
theorem dX9_width_15 : decode cX9_width 15 = .ok (.goto 4, 3) := by decide +kernel
theorem dX9_width_18 : decode cX9_width 18 = .ok (.iconst (-1), 1) := by decide +kernel
theorem dX9_width_19 : decode cX9_width 19 = .ok (.ireturn, 1) := by decide +kernel
theorem dX9_equationCount_0 : decode cX9_equationCount 0 = .ok (.aload_n 0, 1) := by decide +kernel
theorem dX9_equationCount_1 : decode cX9_equationCount 1 = .ok (.getfield 28, 3) := by decide +kernel
theorem dX9_equationCount_4 : decode cX9_equationCount 4 = .ok (.getfield 112, 3) := by decide +kernel
theorem dX9_equationCount_7 : decode cX9_equationCount 7 = .ok (.invokevirtual 126, 3) := by decide +kernel
theorem dX9_equationCount_10 : decode cX9_equationCount 10 = .ok (.ireturn, 1) := by decide +kernel
theorem dX9_disequationCount_0 : decode cX9_disequationCount 0 = .ok (.aload_n 0, 1) := by decide +kernel
theorem dX9_disequationCount_1 : decode cX9_disequationCount 1 = .ok (.getfield 28, 3) := by decide +kernel
theorem dX9_disequationCount_4 : decode cX9_disequationCount 4 = .ok (.getfield 129, 3) := by decide +kernel
theorem dX9_disequationCount_7 : decode cX9_disequationCount 7 = .ok (.invokevirtual 126, 3) := by decide +kernel
theorem dX9_disequationCount_10 : decode cX9_disequationCount 10 = .ok (.ireturn, 1) := by decide +kernel
theorem dX9_sliceCount_0 : decode cX9_sliceCount 0 = .ok (.iload_n 1, 1) := by decide +kernel
theorem dX9_sliceCount_1 : decode cX9_sliceCount 1 = .ok (.invokestatic 132, 3) := by decide +kernel
theorem dX9_sliceCount_4 : decode cX9_sliceCount 4 = .ok (.ifCond .eq 11, 3) := by decide +kernel
theorem dX9_sliceCount_7 : decode cX9_sliceCount 7 = .ok (.aload_n 0, 1) := by decide +kernel
theorem dX9_sliceCount_8 : decode cX9_sliceCount 8 = .ok (.iload_n 1, 1) := by decide +kernel
theorem dX9_sliceCount_9 : decode cX9_sliceCount 9 = .ok (.invokevirtual 139, 3) := by decide +kernel
theorem dX9_sliceCount_12 : decode cX9_sliceCount 12 = .ok (.goto 4, 3) := by decide +kernel
theorem dX9_sliceCount_15 : decode cX9_sliceCount 15 = .ok (.iconst (-1), 1) := by decide +kernel
theorem dX9_sliceCount_16 : decode cX9_sliceCount 16 = .ok (.ireturn, 1) := by decide +kernel
theorem dX9_sliceStart_0 : decode cX9_sliceStart 0 = .ok (.aload_n 0, 1) := by decide +kernel
theorem dX9_sliceStart_1 : decode cX9_sliceStart 1 = .ok (.iload_n 1, 1) := by decide +kernel
theorem dX9_sliceStart_2 : decode cX9_sliceStart 2 = .ok (.iload_n 2, 1) := by decide +kernel
theorem dX9_sliceStart_3 : decode cX9_sliceStart 3 = .ok (.invokevirtual 142, 3) := by decide +kernel
theorem dX9_sliceStart_6 : decode cX9_sliceStart 6 = .ok (.ifCond .eq 15, 3) := by decide +kernel
theorem dX9_sliceStart_9 : decode cX9_sliceStart 9 = .ok (.aload_n 0, 1) := by decide +kernel
theorem dX9_sliceStart_10 : decode cX9_sliceStart 10 = .ok (.getfield 51, 3) := by decide +kernel
theorem dX9_sliceStart_13 : decode cX9_sliceStart 13 = .ok (.iload_n 1, 1) := by decide +kernel
theorem dX9_sliceStart_14 : decode cX9_sliceStart 14 = .ok (.iload_n 2, 1) := by decide +kernel
theorem dX9_sliceStart_15 : decode cX9_sliceStart 15 = .ok (.invokevirtual 146, 3) := by decide +kernel
theorem dX9_sliceStart_18 : decode cX9_sliceStart 18 = .ok (.goto 4, 3) := by decide +kernel
theorem dX9_sliceStart_21 : decode cX9_sliceStart 21 = .ok (.iconst (-1), 1) := by decide +kernel
theorem dX9_sliceStart_22 : decode cX9_sliceStart 22 = .ok (.ireturn, 1) := by decide +kernel
theorem dX9_sliceWidth_0 : decode cX9_sliceWidth 0 = .ok (.aload_n 0, 1) := by decide +kernel
theorem dX9_sliceWidth_1 : decode cX9_sliceWidth 1 = .ok (.iload_n 1, 1) := by decide +kernel
theorem dX9_sliceWidth_2 : decode cX9_sliceWidth 2 = .ok (.iload_n 2, 1) := by decide +kernel
theorem dX9_sliceWidth_3 : decode cX9_sliceWidth 3 = .ok (.invokevirtual 142, 3) := by decide +kernel
theorem dX9_sliceWidth_6 : decode cX9_sliceWidth 6 = .ok (.ifCond .ne 5, 3) := by decide +kernel
theorem dX9_sliceWidth_9 : decode cX9_sliceWidth 9 = .ok (.iconst (-1), 1) := by decide +kernel
theorem dX9_sliceWidth_10 : decode cX9_sliceWidth 10 = .ok (.ireturn, 1) := by decide +kernel
theorem dX9_sliceWidth_11 : decode cX9_sliceWidth 11 = .ok (.iload_n 2, 1) := by decide +kernel
theorem dX9_sliceWidth_12 : decode cX9_sliceWidth 12 = .ok (.iconst 1, 1) := by decide +kernel
theorem dX9_sliceWidth_13 : decode cX9_sliceWidth 13 = .ok (.iadd, 1) := by decide +kernel
theorem dX9_sliceWidth_14 : decode cX9_sliceWidth 14 = .ok (.aload_n 0, 1) := by decide +kernel
theorem dX9_sliceWidth_15 : decode cX9_sliceWidth 15 = .ok (.iload_n 1, 1) := by decide +kernel
theorem dX9_sliceWidth_16 : decode cX9_sliceWidth 16 = .ok (.invokevirtual 139, 3) := by decide +kernel
theorem dX9_sliceWidth_19 : decode cX9_sliceWidth 19 = .ok (.if_icmp .ne 7, 3) := by decide +kernel
theorem dX9_sliceWidth_22 : decode cX9_sliceWidth 22 = .ok (.iconst 1, 1) := by decide +kernel
theorem dX9_sliceWidth_23 : decode cX9_sliceWidth 23 = .ok (.goto 4, 3) := by decide +kernel
theorem dX9_sliceWidth_26 : decode cX9_sliceWidth 26 = .ok (.iconst 0, 1) := by decide +kernel
theorem dX9_sliceWidth_27 : decode cX9_sliceWidth 27 = .ok (.istore_n 3, 1) := by decide +kernel
theorem dX9_sliceWidth_28 : decode cX9_sliceWidth 28 = .ok (.iload_n 3, 1) := by decide +kernel
theorem dX9_sliceWidth_29 : decode cX9_sliceWidth 29 = .ok (.ifCond .eq 14, 3) := by decide +kernel
theorem dX9_sliceWidth_32 : decode cX9_sliceWidth 32 = .ok (.aload_n 0, 1) := by decide +kernel
theorem dX9_sliceWidth_33 : decode cX9_sliceWidth 33 = .ok (.getfield 28, 3) := by decide +kernel
theorem dX9_sliceWidth_36 : decode cX9_sliceWidth 36 = .ok (.iload_n 1, 1) := by decide +kernel
theorem dX9_sliceWidth_37 : decode cX9_sliceWidth 37 = .ok (.invokevirtual 135, 3) := by decide +kernel
theorem dX9_sliceWidth_40 : decode cX9_sliceWidth 40 = .ok (.goto 14, 3) := by decide +kernel
theorem dX9_sliceWidth_43 : decode cX9_sliceWidth 43 = .ok (.aload_n 0, 1) := by decide +kernel
theorem dX9_sliceWidth_44 : decode cX9_sliceWidth 44 = .ok (.getfield 51, 3) := by decide +kernel
theorem dX9_sliceWidth_47 : decode cX9_sliceWidth 47 = .ok (.iload_n 1, 1) := by decide +kernel
theorem dX9_sliceWidth_48 : decode cX9_sliceWidth 48 = .ok (.iload_n 2, 1) := by decide +kernel
theorem dX9_sliceWidth_49 : decode cX9_sliceWidth 49 = .ok (.iconst 1, 1) := by decide +kernel
theorem dX9_sliceWidth_50 : decode cX9_sliceWidth 50 = .ok (.iadd, 1) := by decide +kernel
theorem dX9_sliceWidth_51 : decode cX9_sliceWidth 51 = .ok (.invokevirtual 146, 3) := by decide +kernel
theorem dX9_sliceWidth_54 : decode cX9_sliceWidth 54 = .ok (.istore 4, 2) := by decide +kernel
theorem dX9_sliceWidth_56 : decode cX9_sliceWidth 56 = .ok (.iload 4, 2) := by decide +kernel
theorem dX9_sliceWidth_58 : decode cX9_sliceWidth 58 = .ok (.aload_n 0, 1) := by decide +kernel
theorem dX9_sliceWidth_59 : decode cX9_sliceWidth 59 = .ok (.getfield 51, 3) := by decide +kernel
theorem dX9_sliceWidth_62 : decode cX9_sliceWidth 62 = .ok (.iload_n 1, 1) := by decide +kernel
theorem dX9_sliceWidth_63 : decode cX9_sliceWidth 63 = .ok (.iload_n 2, 1) := by decide +kernel
theorem dX9_sliceWidth_64 : decode cX9_sliceWidth 64 = .ok (.invokevirtual 146, 3) := by decide +kernel
theorem dX9_sliceWidth_67 : decode cX9_sliceWidth 67 = .ok (.isub, 1) := by decide +kernel
theorem dX9_sliceWidth_68 : decode cX9_sliceWidth 68 = .ok (.ireturn, 1) := by decide +kernel
theorem dX9_representative_0 : decode cX9_representative 0 = .ok (.aload_n 0, 1) := by decide +kernel
theorem dX9_representative_1 : decode cX9_representative 1 = .ok (.iload_n 1, 1) := by decide +kernel
theorem dX9_representative_2 : decode cX9_representative 2 = .ok (.iload_n 2, 1) := by decide +kernel
theorem dX9_representative_3 : decode cX9_representative 3 = .ok (.invokevirtual 142, 3) := by decide +kernel
theorem dX9_representative_6 : decode cX9_representative 6 = .ok (.ifCond .ne 5, 3) := by decide +kernel
theorem dX9_representative_9 : decode cX9_representative 9 = .ok (.iconst (-1), 1) := by decide +kernel
theorem dX9_representative_10 : decode cX9_representative 10 = .ok (.ireturn, 1) := by decide +kernel
theorem dX9_representative_11 : decode cX9_representative 11 = .ok (.aload_n 0, 1) := by decide +kernel
theorem dX9_representative_12 : decode cX9_representative 12 = .ok (.getfield 58, 3) := by decide +kernel
theorem dX9_representative_15 : decode cX9_representative 15 = .ok (.iload_n 1, 1) := by decide +kernel
theorem dX9_representative_16 : decode cX9_representative 16 = .ok (.aload_n 0, 1) := by decide +kernel
theorem dX9_representative_17 : decode cX9_representative 17 = .ok (.getfield 51, 3) := by decide +kernel
theorem dX9_representative_20 : decode cX9_representative 20 = .ok (.iload_n 1, 1) := by decide +kernel
theorem dX9_representative_21 : decode cX9_representative 21 = .ok (.iload_n 2, 1) := by decide +kernel
theorem dX9_representative_22 : decode cX9_representative 22 = .ok (.invokevirtual 146, 3) := by decide +kernel
theorem dX9_representative_25 : decode cX9_representative 25 = .ok (.invokestatic 150, 3) := by decide +kernel
theorem dX9_representative_28 : decode cX9_representative 28 = .ok (.invokevirtual 153, 3) := by decide +kernel
theorem dX9_representative_31 : decode cX9_representative 31 = .ok (.istore_n 3, 1) := by decide +kernel
theorem dX9_representative_32 : decode cX9_representative 32 = .ok (.iload_n 3, 1) := by decide +kernel
theorem dX9_representative_33 : decode cX9_representative 33 = .ok (.invokestatic 156, 3) := by decide +kernel
theorem dX9_representative_36 : decode cX9_representative 36 = .ok (.istore 4, 2) := by decide +kernel
theorem dX9_representative_38 : decode cX9_representative 38 = .ok (.bipush 16, 2) := by decide +kernel
theorem dX9_representative_40 : decode cX9_representative 40 = .ok (.iload 4, 2) := by decide +kernel
theorem dX9_representative_42 : decode cX9_representative 42 = .ok (.imul, 1) := by decide +kernel
theorem dX9_representative_43 : decode cX9_representative 43 = .ok (.aload_n 0, 1) := by decide +kernel
theorem dX9_representative_44 : decode cX9_representative 44 = .ok (.getfield 51, 3) := by decide +kernel
theorem dX9_representative_47 : decode cX9_representative 47 = .ok (.iload 4, 2) := by decide +kernel
theorem dX9_representative_49 : decode cX9_representative 49 = .ok (.iload_n 3, 1) := by decide +kernel
theorem dX9_representative_50 : decode cX9_representative 50 = .ok (.invokestatic 159, 3) := by decide +kernel
theorem dX9_representative_53 : decode cX9_representative 53 = .ok (.invokevirtual 162, 3) := by decide +kernel
theorem dX9_representative_56 : decode cX9_representative 56 = .ok (.iadd, 1) := by decide +kernel
theorem dX9_representative_57 : decode cX9_representative 57 = .ok (.ireturn, 1) := by decide +kernel
theorem dX9_classCount_0 : decode cX9_classCount 0 = .ok (.iconst 0, 1) := by decide +kernel
theorem dX9_classCount_1 : decode cX9_classCount 1 = .ok (.istore_n 1, 1) := by decide +kernel
theorem dX9_classCount_2 : decode cX9_classCount 2 = .ok (.iconst 0, 1) := by decide +kernel
theorem dX9_classCount_3 : decode cX9_classCount 3 = .ok (.istore_n 2, 1) := by decide +kernel
theorem dX9_classCount_4 : decode cX9_classCount 4 = .ok (.iload_n 2, 1) := by decide +kernel
theorem dX9_classCount_5 : decode cX9_classCount 5 = .ok (.bipush 8, 2) := by decide +kernel
theorem dX9_classCount_7 : decode cX9_classCount 7 = .ok (.if_icmp .ge 63, 3) := by decide +kernel
theorem dX9_classCount_10 : decode cX9_classCount 10 = .ok (.aload_n 0, 1) := by decide +kernel
theorem dX9_classCount_11 : decode cX9_classCount 11 = .ok (.iload_n 2, 1) := by decide +kernel
theorem dX9_classCount_12 : decode cX9_classCount 12 = .ok (.invokevirtual 139, 3) := by decide +kernel
theorem dX9_classCount_15 : decode cX9_classCount 15 = .ok (.istore_n 3, 1) := by decide +kernel
theorem dX9_classCount_16 : decode cX9_classCount 16 = .ok (.iconst 0, 1) := by decide +kernel
theorem dX9_classCount_17 : decode cX9_classCount 17 = .ok (.istore 4, 2) := by decide +kernel
theorem dX9_classCount_19 : decode cX9_classCount 19 = .ok (.iload 4, 2) := by decide +kernel
theorem dX9_classCount_21 : decode cX9_classCount 21 = .ok (.iload_n 3, 1) := by decide +kernel
theorem dX9_classCount_22 : decode cX9_classCount 22 = .ok (.if_icmp .ge 42, 3) := by decide +kernel
theorem dX9_classCount_25 : decode cX9_classCount 25 = .ok (.iload_n 2, 1) := by decide +kernel
theorem dX9_classCount_26 : decode cX9_classCount 26 = .ok (.aload_n 0, 1) := by decide +kernel
theorem dX9_classCount_27 : decode cX9_classCount 27 = .ok (.getfield 51, 3) := by decide +kernel
theorem dX9_classCount_30 : decode cX9_classCount 30 = .ok (.iload_n 2, 1) := by decide +kernel
theorem dX9_classCount_31 : decode cX9_classCount 31 = .ok (.iload 4, 2) := by decide +kernel
theorem dX9_classCount_33 : decode cX9_classCount 33 = .ok (.invokevirtual 146, 3) := by decide +kernel
theorem dX9_classCount_36 : decode cX9_classCount 36 = .ok (.invokestatic 150, 3) := by decide +kernel
theorem dX9_classCount_39 : decode cX9_classCount 39 = .ok (.istore 5, 2) := by decide +kernel
theorem dX9_classCount_41 : decode cX9_classCount 41 = .ok (.aload_n 0, 1) := by decide +kernel
theorem dX9_classCount_42 : decode cX9_classCount 42 = .ok (.getfield 58, 3) := by decide +kernel
theorem dX9_classCount_45 : decode cX9_classCount 45 = .ok (.iload 5, 2) := by decide +kernel
theorem dX9_classCount_47 : decode cX9_classCount 47 = .ok (.invokevirtual 153, 3) := by decide +kernel
theorem dX9_classCount_50 : decode cX9_classCount 50 = .ok (.iload 5, 2) := by decide +kernel
theorem dX9_classCount_52 : decode cX9_classCount 52 = .ok (.if_icmp .ne 6, 3) := by decide +kernel
theorem dX9_classCount_55 : decode cX9_classCount 55 = .ok (.iinc 1 1, 3) := by decide +kernel
theorem dX9_classCount_58 : decode cX9_classCount 58 = .ok (.iinc 4 1, 3) := by decide +kernel
theorem dX9_classCount_61 : decode cX9_classCount 61 = .ok (.goto (-42), 3) := by decide +kernel
theorem dX9_classCount_64 : decode cX9_classCount 64 = .ok (.iinc 2 1, 3) := by decide +kernel
theorem dX9_classCount_67 : decode cX9_classCount 67 = .ok (.goto (-63), 3) := by decide +kernel
theorem dX9_classCount_70 : decode cX9_classCount 70 = .ok (.iload_n 1, 1) := by decide +kernel
theorem dX9_classCount_71 : decode cX9_classCount 71 = .ok (.ireturn, 1) := by decide +kernel
theorem dX9_isConsistent_0 : decode cX9_isConsistent 0 = .ok (.aload_n 0, 1) := by decide +kernel
theorem dX9_isConsistent_1 : decode cX9_isConsistent 1 = .ok (.getfield 58, 3) := by decide +kernel
theorem dX9_isConsistent_4 : decode cX9_isConsistent 4 = .ok (.invokevirtual 165, 3) := by decide +kernel
theorem dX9_isConsistent_7 : decode cX9_isConsistent 7 = .ok (.ifCond .eq 7, 3) := by decide +kernel
theorem dX9_isConsistent_10 : decode cX9_isConsistent 10 = .ok (.iconst 1, 1) := by decide +kernel
theorem dX9_isConsistent_11 : decode cX9_isConsistent 11 = .ok (.goto 4, 3) := by decide +kernel
theorem dX9_isConsistent_14 : decode cX9_isConsistent 14 = .ok (.iconst 0, 1) := by decide +kernel
theorem dX9_isConsistent_15 : decode cX9_isConsistent 15 = .ok (.ireturn, 1) := by decide +kernel
theorem dX9_firstConflict_0 : decode cX9_firstConflict 0 = .ok (.aload_n 0, 1) := by decide +kernel
theorem dX9_firstConflict_1 : decode cX9_firstConflict 1 = .ok (.getfield 58, 3) := by decide +kernel
theorem dX9_firstConflict_4 : decode cX9_firstConflict 4 = .ok (.invokevirtual 165, 3) := by decide +kernel
theorem dX9_firstConflict_7 : decode cX9_firstConflict 7 = .ok (.ifCond .eq 6, 3) := by decide +kernel
theorem dX9_firstConflict_10 : decode cX9_firstConflict 10 = .ok (.bipush (-9), 2) := by decide +kernel
theorem dX9_firstConflict_12 : decode cX9_firstConflict 12 = .ok (.ireturn, 1) := by decide +kernel
theorem dX9_firstConflict_13 : decode cX9_firstConflict 13 = .ok (.aload_n 0, 1) := by decide +kernel
theorem dX9_firstConflict_14 : decode cX9_firstConflict 14 = .ok (.getfield 62, 3) := by decide +kernel
theorem dX9_firstConflict_17 : decode cX9_firstConflict 17 = .ok (.invokevirtual 168, 3) := by decide +kernel
theorem dX9_firstConflict_20 : decode cX9_firstConflict 20 = .ok (.iconst 0, 1) := by decide +kernel
theorem dX9_firstConflict_21 : decode cX9_firstConflict 21 = .ok (.istore_n 1, 1) := by decide +kernel
theorem dX9_firstConflict_22 : decode cX9_firstConflict 22 = .ok (.iload_n 1, 1) := by decide +kernel
theorem dX9_firstConflict_23 : decode cX9_firstConflict 23 = .ok (.aload_n 0, 1) := by decide +kernel
theorem dX9_firstConflict_24 : decode cX9_firstConflict 24 = .ok (.getfield 28, 3) := by decide +kernel
theorem dX9_firstConflict_27 : decode cX9_firstConflict 27 = .ok (.getfield 112, 3) := by decide +kernel
theorem dX9_firstConflict_30 : decode cX9_firstConflict 30 = .ok (.invokevirtual 126, 3) := by decide +kernel
theorem dX9_firstConflict_33 : decode cX9_firstConflict 33 = .ok (.if_icmp .ge 36, 3) := by decide +kernel
theorem dX9_firstConflict_36 : decode cX9_firstConflict 36 = .ok (.aload_n 0, 1) := by decide +kernel
theorem dX9_firstConflict_37 : decode cX9_firstConflict 37 = .ok (.getfield 62, 3) := by decide +kernel
theorem dX9_firstConflict_40 : decode cX9_firstConflict 40 = .ok (.aload_n 0, 1) := by decide +kernel
theorem dX9_firstConflict_41 : decode cX9_firstConflict 41 = .ok (.getfield 28, 3) := by decide +kernel
theorem dX9_firstConflict_44 : decode cX9_firstConflict 44 = .ok (.getfield 112, 3) := by decide +kernel
theorem dX9_firstConflict_47 : decode cX9_firstConflict 47 = .ok (.iload_n 1, 1) := by decide +kernel
theorem dX9_firstConflict_48 : decode cX9_firstConflict 48 = .ok (.invokevirtual 169, 3) := by decide +kernel
theorem dX9_firstConflict_51 : decode cX9_firstConflict 51 = .ok (.aload_n 0, 1) := by decide +kernel
theorem dX9_firstConflict_52 : decode cX9_firstConflict 52 = .ok (.getfield 62, 3) := by decide +kernel
theorem dX9_firstConflict_55 : decode cX9_firstConflict 55 = .ok (.invokevirtual 165, 3) := by decide +kernel
theorem dX9_firstConflict_58 : decode cX9_firstConflict 58 = .ok (.ifCond .ne 5, 3) := by decide +kernel
theorem dX9_firstConflict_61 : decode cX9_firstConflict 61 = .ok (.iload_n 1, 1) := by decide +kernel
theorem dX9_firstConflict_62 : decode cX9_firstConflict 62 = .ok (.ireturn, 1) := by decide +kernel
theorem dX9_firstConflict_63 : decode cX9_firstConflict 63 = .ok (.iinc 1 1, 3) := by decide +kernel
theorem dX9_firstConflict_66 : decode cX9_firstConflict 66 = .ok (.goto (-44), 3) := by decide +kernel
theorem dX9_firstConflict_69 : decode cX9_firstConflict 69 = .ok (.bipush (-9), 2) := by decide +kernel
theorem dX9_firstConflict_71 : decode cX9_firstConflict 71 = .ok (.ireturn, 1) := by decide +kernel
theorem dX9_conflictSet_0 : decode cX9_conflictSet 0 = .ok (.aload_n 0, 1) := by decide +kernel
theorem dX9_conflictSet_1 : decode cX9_conflictSet 1 = .ok (.getfield 58, 3) := by decide +kernel
theorem dX9_conflictSet_4 : decode cX9_conflictSet 4 = .ok (.invokevirtual 165, 3) := by decide +kernel
theorem dX9_conflictSet_7 : decode cX9_conflictSet 7 = .ok (.ifCond .eq 6, 3) := by decide +kernel
theorem dX9_conflictSet_10 : decode cX9_conflictSet 10 = .ok (.bipush (-9), 2) := by decide +kernel
theorem dX9_conflictSet_12 : decode cX9_conflictSet 12 = .ok (.ireturn, 1) := by decide +kernel
theorem dX9_conflictSet_13 : decode cX9_conflictSet 13 = .ok (.iconst 1, 1) := by decide +kernel
theorem dX9_conflictSet_14 : decode cX9_conflictSet 14 = .ok (.aload_n 0, 1) := by decide +kernel
theorem dX9_conflictSet_15 : decode cX9_conflictSet 15 = .ok (.getfield 28, 3) := by decide +kernel
theorem dX9_conflictSet_18 : decode cX9_conflictSet 18 = .ok (.getfield 112, 3) := by decide +kernel
theorem dX9_conflictSet_21 : decode cX9_conflictSet 21 = .ok (.invokevirtual 126, 3) := by decide +kernel
theorem dX9_conflictSet_24 : decode cX9_conflictSet 24 = .ok (.ishl, 1) := by decide +kernel
theorem dX9_conflictSet_25 : decode cX9_conflictSet 25 = .ok (.iconst 1, 1) := by decide +kernel
theorem dX9_conflictSet_26 : decode cX9_conflictSet 26 = .ok (.isub, 1) := by decide +kernel
theorem dX9_conflictSet_27 : decode cX9_conflictSet 27 = .ok (.istore_n 1, 1) := by decide +kernel
theorem dX9_conflictSet_28 : decode cX9_conflictSet 28 = .ok (.iconst 0, 1) := by decide +kernel
theorem dX9_conflictSet_29 : decode cX9_conflictSet 29 = .ok (.istore_n 2, 1) := by decide +kernel
theorem dX9_conflictSet_30 : decode cX9_conflictSet 30 = .ok (.iload_n 2, 1) := by decide +kernel
theorem dX9_conflictSet_31 : decode cX9_conflictSet 31 = .ok (.aload_n 0, 1) := by decide +kernel
theorem dX9_conflictSet_32 : decode cX9_conflictSet 32 = .ok (.getfield 28, 3) := by decide +kernel
theorem dX9_conflictSet_35 : decode cX9_conflictSet 35 = .ok (.getfield 112, 3) := by decide +kernel
theorem dX9_conflictSet_38 : decode cX9_conflictSet 38 = .ok (.invokevirtual 126, 3) := by decide +kernel
theorem dX9_conflictSet_41 : decode cX9_conflictSet 41 = .ok (.if_icmp .ge 34, 3) := by decide +kernel
theorem dX9_conflictSet_44 : decode cX9_conflictSet 44 = .ok (.iload_n 1, 1) := by decide +kernel
theorem dX9_conflictSet_45 : decode cX9_conflictSet 45 = .ok (.iconst 1, 1) := by decide +kernel
theorem dX9_conflictSet_46 : decode cX9_conflictSet 46 = .ok (.iload_n 2, 1) := by decide +kernel
theorem dX9_conflictSet_47 : decode cX9_conflictSet 47 = .ok (.ishl, 1) := by decide +kernel
theorem dX9_conflictSet_48 : decode cX9_conflictSet 48 = .ok (.iconst (-1), 1) := by decide +kernel
theorem dX9_conflictSet_49 : decode cX9_conflictSet 49 = .ok (.ixor, 1) := by decide +kernel
theorem dX9_conflictSet_50 : decode cX9_conflictSet 50 = .ok (.iand, 1) := by decide +kernel
theorem dX9_conflictSet_51 : decode cX9_conflictSet 51 = .ok (.istore_n 3, 1) := by decide +kernel
theorem dX9_conflictSet_52 : decode cX9_conflictSet 52 = .ok (.aload_n 0, 1) := by decide +kernel
theorem dX9_conflictSet_53 : decode cX9_conflictSet 53 = .ok (.iload_n 3, 1) := by decide +kernel
theorem dX9_conflictSet_54 : decode cX9_conflictSet 54 = .ok (.invokevirtual 173, 3) := by decide +kernel
theorem dX9_conflictSet_57 : decode cX9_conflictSet 57 = .ok (.aload_n 0, 1) := by decide +kernel
theorem dX9_conflictSet_58 : decode cX9_conflictSet 58 = .ok (.getfield 62, 3) := by decide +kernel
theorem dX9_conflictSet_61 : decode cX9_conflictSet 61 = .ok (.invokevirtual 165, 3) := by decide +kernel
theorem dX9_conflictSet_64 : decode cX9_conflictSet 64 = .ok (.ifCond .ne 5, 3) := by decide +kernel
theorem dX9_conflictSet_67 : decode cX9_conflictSet 67 = .ok (.iload_n 3, 1) := by decide +kernel
theorem dX9_conflictSet_68 : decode cX9_conflictSet 68 = .ok (.istore_n 1, 1) := by decide +kernel
theorem dX9_conflictSet_69 : decode cX9_conflictSet 69 = .ok (.iinc 2 1, 3) := by decide +kernel
theorem dX9_conflictSet_72 : decode cX9_conflictSet 72 = .ok (.goto (-42), 3) := by decide +kernel
theorem dX9_conflictSet_75 : decode cX9_conflictSet 75 = .ok (.iload_n 1, 1) := by decide +kernel
theorem dX9_conflictSet_76 : decode cX9_conflictSet 76 = .ok (.ireturn, 1) := by decide +kernel
theorem dX9_fixedBit_0 : decode cX9_fixedBit 0 = .ok (.aload_n 0, 1) := by decide +kernel
theorem dX9_fixedBit_1 : decode cX9_fixedBit 1 = .ok (.iload_n 1, 1) := by decide +kernel
theorem dX9_fixedBit_2 : decode cX9_fixedBit 2 = .ok (.iload_n 2, 1) := by decide +kernel
theorem dX9_fixedBit_3 : decode cX9_fixedBit 3 = .ok (.invokevirtual 176, 3) := by decide +kernel
theorem dX9_fixedBit_6 : decode cX9_fixedBit 6 = .ok (.ifCond .ne 5, 3) := by decide +kernel
theorem dX9_fixedBit_9 : decode cX9_fixedBit 9 = .ok (.iconst (-1), 1) := by decide +kernel
theorem dX9_fixedBit_10 : decode cX9_fixedBit 10 = .ok (.ireturn, 1) := by decide +kernel
theorem dX9_fixedBit_11 : decode cX9_fixedBit 11 = .ok (.aload_n 0, 1) := by decide +kernel
theorem dX9_fixedBit_12 : decode cX9_fixedBit 12 = .ok (.getfield 58, 3) := by decide +kernel
theorem dX9_fixedBit_15 : decode cX9_fixedBit 15 = .ok (.invokevirtual 165, 3) := by decide +kernel
theorem dX9_fixedBit_18 : decode cX9_fixedBit 18 = .ok (.ifCond .ne 6, 3) := by decide +kernel
theorem dX9_fixedBit_21 : decode cX9_fixedBit 21 = .ok (.bipush (-2), 2) := by decide +kernel
theorem dX9_fixedBit_23 : decode cX9_fixedBit 23 = .ok (.ireturn, 1) := by decide +kernel
theorem dX9_fixedBit_24 : decode cX9_fixedBit 24 = .ok (.aload_n 0, 1) := by decide +kernel
theorem dX9_fixedBit_25 : decode cX9_fixedBit 25 = .ok (.getfield 58, 3) := by decide +kernel
theorem dX9_fixedBit_28 : decode cX9_fixedBit 28 = .ok (.iload_n 1, 1) := by decide +kernel
theorem dX9_fixedBit_29 : decode cX9_fixedBit 29 = .ok (.iload_n 2, 1) := by decide +kernel
theorem dX9_fixedBit_30 : decode cX9_fixedBit 30 = .ok (.invokestatic 150, 3) := by decide +kernel
theorem dX9_fixedBit_33 : decode cX9_fixedBit 33 = .ok (.invokevirtual 179, 3) := by decide +kernel
theorem dX9_fixedBit_36 : decode cX9_fixedBit 36 = .ok (.istore_n 3, 1) := by decide +kernel
theorem dX9_fixedBit_37 : decode cX9_fixedBit 37 = .ok (.iload_n 3, 1) := by decide +kernel
theorem dX9_fixedBit_38 : decode cX9_fixedBit 38 = .ok (.iconst (-1), 1) := by decide +kernel
theorem dX9_fixedBit_39 : decode cX9_fixedBit 39 = .ok (.if_icmp .ne 8, 3) := by decide +kernel
theorem dX9_fixedBit_42 : decode cX9_fixedBit 42 = .ok (.bipush (-9), 2) := by decide +kernel
theorem dX9_fixedBit_44 : decode cX9_fixedBit 44 = .ok (.goto 4, 3) := by decide +kernel
theorem dX9_fixedBit_47 : decode cX9_fixedBit 47 = .ok (.iload_n 3, 1) := by decide +kernel
theorem dX9_fixedBit_48 : decode cX9_fixedBit 48 = .ok (.ireturn, 1) := by decide +kernel
theorem dX9_compareBits_0 : decode cX9_compareBits 0 = .ok (.aload_n 0, 1) := by decide +kernel
theorem dX9_compareBits_1 : decode cX9_compareBits 1 = .ok (.iload_n 1, 1) := by decide +kernel
theorem dX9_compareBits_2 : decode cX9_compareBits 2 = .ok (.iload_n 2, 1) := by decide +kernel
theorem dX9_compareBits_3 : decode cX9_compareBits 3 = .ok (.invokevirtual 176, 3) := by decide +kernel
theorem dX9_compareBits_6 : decode cX9_compareBits 6 = .ok (.ifCond .eq 13, 3) := by decide +kernel
theorem dX9_compareBits_9 : decode cX9_compareBits 9 = .ok (.aload_n 0, 1) := by decide +kernel
theorem dX9_compareBits_10 : decode cX9_compareBits 10 = .ok (.iload_n 3, 1) := by decide +kernel
theorem dX9_compareBits_11 : decode cX9_compareBits 11 = .ok (.iload 4, 2) := by decide +kernel
theorem dX9_compareBits_13 : decode cX9_compareBits 13 = .ok (.invokevirtual 176, 3) := by decide +kernel
theorem dX9_compareBits_16 : decode cX9_compareBits 16 = .ok (.ifCond .ne 5, 3) := by decide +kernel
theorem dX9_compareBits_19 : decode cX9_compareBits 19 = .ok (.iconst (-1), 1) := by decide +kernel
theorem dX9_compareBits_20 : decode cX9_compareBits 20 = .ok (.ireturn, 1) := by decide +kernel
theorem dX9_compareBits_21 : decode cX9_compareBits 21 = .ok (.aload_n 0, 1) := by decide +kernel
theorem dX9_compareBits_22 : decode cX9_compareBits 22 = .ok (.getfield 58, 3) := by decide +kernel
theorem dX9_compareBits_25 : decode cX9_compareBits 25 = .ok (.invokevirtual 165, 3) := by decide +kernel
theorem dX9_compareBits_28 : decode cX9_compareBits 28 = .ok (.ifCond .ne 6, 3) := by decide +kernel
theorem dX9_compareBits_31 : decode cX9_compareBits 31 = .ok (.bipush (-2), 2) := by decide +kernel
theorem dX9_compareBits_33 : decode cX9_compareBits 33 = .ok (.ireturn, 1) := by decide +kernel
theorem dX9_compareBits_34 : decode cX9_compareBits 34 = .ok (.iload_n 1, 1) := by decide +kernel
theorem dX9_compareBits_35 : decode cX9_compareBits 35 = .ok (.iload_n 2, 1) := by decide +kernel
theorem dX9_compareBits_36 : decode cX9_compareBits 36 = .ok (.invokestatic 150, 3) := by decide +kernel
theorem dX9_compareBits_39 : decode cX9_compareBits 39 = .ok (.istore 5, 2) := by decide +kernel
theorem dX9_compareBits_41 : decode cX9_compareBits 41 = .ok (.iload_n 3, 1) := by decide +kernel
theorem dX9_compareBits_42 : decode cX9_compareBits 42 = .ok (.iload 4, 2) := by decide +kernel
theorem dX9_compareBits_44 : decode cX9_compareBits 44 = .ok (.invokestatic 150, 3) := by decide +kernel
theorem dX9_compareBits_47 : decode cX9_compareBits 47 = .ok (.istore 6, 2) := by decide +kernel
theorem dX9_compareBits_49 : decode cX9_compareBits 49 = .ok (.aload_n 0, 1) := by decide +kernel
theorem dX9_compareBits_50 : decode cX9_compareBits 50 = .ok (.getfield 58, 3) := by decide +kernel
theorem dX9_compareBits_53 : decode cX9_compareBits 53 = .ok (.iload 5, 2) := by decide +kernel
theorem dX9_compareBits_55 : decode cX9_compareBits 55 = .ok (.invokevirtual 153, 3) := by decide +kernel
theorem dX9_compareBits_58 : decode cX9_compareBits 58 = .ok (.aload_n 0, 1) := by decide +kernel
theorem dX9_compareBits_59 : decode cX9_compareBits 59 = .ok (.getfield 58, 3) := by decide +kernel
theorem dX9_compareBits_62 : decode cX9_compareBits 62 = .ok (.iload 6, 2) := by decide +kernel
theorem dX9_compareBits_64 : decode cX9_compareBits 64 = .ok (.invokevirtual 153, 3) := by decide +kernel
theorem dX9_compareBits_67 : decode cX9_compareBits 67 = .ok (.if_icmp .ne 5, 3) := by decide +kernel
theorem dX9_compareBits_70 : decode cX9_compareBits 70 = .ok (.iconst 1, 1) := by decide +kernel
theorem dX9_compareBits_71 : decode cX9_compareBits 71 = .ok (.ireturn, 1) := by decide +kernel
theorem dX9_compareBits_72 : decode cX9_compareBits 72 = .ok (.aload_n 0, 1) := by decide +kernel
theorem dX9_compareBits_73 : decode cX9_compareBits 73 = .ok (.getfield 58, 3) := by decide +kernel
theorem dX9_compareBits_76 : decode cX9_compareBits 76 = .ok (.iload 5, 2) := by decide +kernel
theorem dX9_compareBits_78 : decode cX9_compareBits 78 = .ok (.invokevirtual 179, 3) := by decide +kernel
theorem dX9_compareBits_81 : decode cX9_compareBits 81 = .ok (.istore 7, 2) := by decide +kernel
theorem dX9_compareBits_83 : decode cX9_compareBits 83 = .ok (.aload_n 0, 1) := by decide +kernel
theorem dX9_compareBits_84 : decode cX9_compareBits 84 = .ok (.getfield 58, 3) := by decide +kernel
theorem dX9_compareBits_87 : decode cX9_compareBits 87 = .ok (.iload 6, 2) := by decide +kernel
theorem dX9_compareBits_89 : decode cX9_compareBits 89 = .ok (.invokevirtual 179, 3) := by decide +kernel
theorem dX9_compareBits_92 : decode cX9_compareBits 92 = .ok (.istore 8, 2) := by decide +kernel
theorem dX9_compareBits_94 : decode cX9_compareBits 94 = .ok (.iload 7, 2) := by decide +kernel
theorem dX9_compareBits_96 : decode cX9_compareBits 96 = .ok (.iconst (-1), 1) := by decide +kernel
theorem dX9_compareBits_97 : decode cX9_compareBits 97 = .ok (.if_icmp .eq 9, 3) := by decide +kernel
theorem dX9_compareBits_100 : decode cX9_compareBits 100 = .ok (.iload 8, 2) := by decide +kernel
theorem dX9_compareBits_102 : decode cX9_compareBits 102 = .ok (.iconst (-1), 1) := by decide +kernel
theorem dX9_compareBits_103 : decode cX9_compareBits 103 = .ok (.if_icmp .ne 5, 3) := by decide +kernel
theorem dX9_compareBits_106 : decode cX9_compareBits 106 = .ok (.iconst 2, 1) := by decide +kernel
theorem dX9_compareBits_107 : decode cX9_compareBits 107 = .ok (.ireturn, 1) := by decide +kernel
theorem dX9_compareBits_108 : decode cX9_compareBits 108 = .ok (.iload 7, 2) := by decide +kernel
theorem dX9_compareBits_110 : decode cX9_compareBits 110 = .ok (.iload 8, 2) := by decide +kernel
theorem dX9_compareBits_112 : decode cX9_compareBits 112 = .ok (.if_icmp .ne 7, 3) := by decide +kernel
theorem dX9_compareBits_115 : decode cX9_compareBits 115 = .ok (.iconst 1, 1) := by decide +kernel
theorem dX9_compareBits_116 : decode cX9_compareBits 116 = .ok (.goto 4, 3) := by decide +kernel
theorem dX9_compareBits_119 : decode cX9_compareBits 119 = .ok (.iconst 0, 1) := by decide +kernel
theorem dX9_compareBits_120 : decode cX9_compareBits 120 = .ok (.ireturn, 1) := by decide +kernel
theorem dX9_freeBits_0 : decode cX9_freeBits 0 = .ok (.aload_n 0, 1) := by decide +kernel
theorem dX9_freeBits_1 : decode cX9_freeBits 1 = .ok (.getfield 58, 3) := by decide +kernel
theorem dX9_freeBits_4 : decode cX9_freeBits 4 = .ok (.invokevirtual 165, 3) := by decide +kernel
theorem dX9_freeBits_7 : decode cX9_freeBits 7 = .ok (.ifCond .ne 6, 3) := by decide +kernel
theorem dX9_freeBits_10 : decode cX9_freeBits 10 = .ok (.bipush (-2), 2) := by decide +kernel
theorem dX9_freeBits_12 : decode cX9_freeBits 12 = .ok (.ireturn, 1) := by decide +kernel
theorem dX9_freeBits_13 : decode cX9_freeBits 13 = .ok (.iconst 0, 1) := by decide +kernel
theorem dX9_freeBits_14 : decode cX9_freeBits 14 = .ok (.istore_n 1, 1) := by decide +kernel
theorem dX9_freeBits_15 : decode cX9_freeBits 15 = .ok (.iconst 0, 1) := by decide +kernel
theorem dX9_freeBits_16 : decode cX9_freeBits 16 = .ok (.istore_n 2, 1) := by decide +kernel
theorem dX9_freeBits_17 : decode cX9_freeBits 17 = .ok (.iload_n 2, 1) := by decide +kernel
theorem dX9_freeBits_18 : decode cX9_freeBits 18 = .ok (.sipush 128, 3) := by decide +kernel
theorem dX9_freeBits_21 : decode cX9_freeBits 21 = .ok (.if_icmp .ge 64, 3) := by decide +kernel
theorem dX9_freeBits_24 : decode cX9_freeBits 24 = .ok (.iload_n 2, 1) := by decide +kernel
theorem dX9_freeBits_25 : decode cX9_freeBits 25 = .ok (.invokestatic 159, 3) := by decide +kernel
theorem dX9_freeBits_28 : decode cX9_freeBits 28 = .ok (.aload_n 0, 1) := by decide +kernel
theorem dX9_freeBits_29 : decode cX9_freeBits 29 = .ok (.getfield 28, 3) := by decide +kernel
theorem dX9_freeBits_32 : decode cX9_freeBits 32 = .ok (.iload_n 2, 1) := by decide +kernel
theorem dX9_freeBits_33 : decode cX9_freeBits 33 = .ok (.invokestatic 156, 3) := by decide +kernel
theorem dX9_freeBits_36 : decode cX9_freeBits 36 = .ok (.invokevirtual 135, 3) := by decide +kernel
theorem dX9_freeBits_39 : decode cX9_freeBits 39 = .ok (.if_icmp .ge 7, 3) := by decide +kernel
theorem dX9_freeBits_42 : decode cX9_freeBits 42 = .ok (.iconst 1, 1) := by decide +kernel
theorem dX9_freeBits_43 : decode cX9_freeBits 43 = .ok (.goto 4, 3) := by decide +kernel
theorem dX9_freeBits_46 : decode cX9_freeBits 46 = .ok (.iconst 0, 1) := by decide +kernel
theorem dX9_freeBits_47 : decode cX9_freeBits 47 = .ok (.istore_n 3, 1) := by decide +kernel
theorem dX9_freeBits_48 : decode cX9_freeBits 48 = .ok (.iload_n 3, 1) := by decide +kernel
theorem dX9_freeBits_49 : decode cX9_freeBits 49 = .ok (.ifCond .eq 30, 3) := by decide +kernel
theorem dX9_freeBits_52 : decode cX9_freeBits 52 = .ok (.aload_n 0, 1) := by decide +kernel
theorem dX9_freeBits_53 : decode cX9_freeBits 53 = .ok (.getfield 58, 3) := by decide +kernel
theorem dX9_freeBits_56 : decode cX9_freeBits 56 = .ok (.iload_n 2, 1) := by decide +kernel
theorem dX9_freeBits_57 : decode cX9_freeBits 57 = .ok (.invokevirtual 153, 3) := by decide +kernel
theorem dX9_freeBits_60 : decode cX9_freeBits 60 = .ok (.iload_n 2, 1) := by decide +kernel
theorem dX9_freeBits_61 : decode cX9_freeBits 61 = .ok (.if_icmp .ne 18, 3) := by decide +kernel
theorem dX9_freeBits_64 : decode cX9_freeBits 64 = .ok (.aload_n 0, 1) := by decide +kernel
theorem dX9_freeBits_65 : decode cX9_freeBits 65 = .ok (.getfield 58, 3) := by decide +kernel
theorem dX9_freeBits_68 : decode cX9_freeBits 68 = .ok (.iload_n 2, 1) := by decide +kernel
theorem dX9_freeBits_69 : decode cX9_freeBits 69 = .ok (.invokevirtual 179, 3) := by decide +kernel
theorem dX9_freeBits_72 : decode cX9_freeBits 72 = .ok (.iconst (-1), 1) := by decide +kernel
theorem dX9_freeBits_73 : decode cX9_freeBits 73 = .ok (.if_icmp .ne 6, 3) := by decide +kernel
theorem dX9_freeBits_76 : decode cX9_freeBits 76 = .ok (.iinc 1 1, 3) := by decide +kernel
theorem dX9_freeBits_79 : decode cX9_freeBits 79 = .ok (.iinc 2 1, 3) := by decide +kernel
theorem dX9_freeBits_82 : decode cX9_freeBits 82 = .ok (.goto (-65), 3) := by decide +kernel
theorem dX9_freeBits_85 : decode cX9_freeBits 85 = .ok (.iload_n 1, 1) := by decide +kernel
theorem dX9_freeBits_86 : decode cX9_freeBits 86 = .ok (.ireturn, 1) := by decide +kernel
theorem dX9_isSatisfiable_0 : decode cX9_isSatisfiable 0 = .ok (.aload_n 0, 1) := by decide +kernel
theorem dX9_isSatisfiable_1 : decode cX9_isSatisfiable 1 = .ok (.invokevirtual 182, 3) := by decide +kernel
theorem dX9_isSatisfiable_4 : decode cX9_isSatisfiable 4 = .ok (.invokevirtual 186, 3) := by decide +kernel
theorem dX9_isSatisfiable_7 : decode cX9_isSatisfiable 7 = .ok (.bipush (-9), 2) := by decide +kernel
theorem dX9_isSatisfiable_9 : decode cX9_isSatisfiable 9 = .ok (.if_icmp .ne 7, 3) := by decide +kernel
theorem dX9_isSatisfiable_12 : decode cX9_isSatisfiable 12 = .ok (.iconst 0, 1) := by decide +kernel
theorem dX9_isSatisfiable_13 : decode cX9_isSatisfiable 13 = .ok (.goto 4, 3) := by decide +kernel
theorem dX9_isSatisfiable_16 : decode cX9_isSatisfiable 16 = .ok (.iconst 1, 1) := by decide +kernel
theorem dX9_isSatisfiable_17 : decode cX9_isSatisfiable 17 = .ok (.ireturn, 1) := by decide +kernel
theorem dX9_oneBits_0 : decode cX9_oneBits 0 = .ok (.aload_n 0, 1) := by decide +kernel
theorem dX9_oneBits_1 : decode cX9_oneBits 1 = .ok (.invokevirtual 182, 3) := by decide +kernel
theorem dX9_oneBits_4 : decode cX9_oneBits 4 = .ok (.invokevirtual 186, 3) := by decide +kernel
theorem dX9_oneBits_7 : decode cX9_oneBits 7 = .ok (.ireturn, 1) := by decide +kernel
theorem dX9_value_0 : decode cX9_value 0 = .ok (.iload_n 1, 1) := by decide +kernel
theorem dX9_value_1 : decode cX9_value 1 = .ok (.invokestatic 132, 3) := by decide +kernel
theorem dX9_value_4 : decode cX9_value 4 = .ok (.ifCond .ne 5, 3) := by decide +kernel
theorem dX9_value_7 : decode cX9_value 7 = .ok (.iconst (-1), 1) := by decide +kernel
theorem dX9_value_8 : decode cX9_value 8 = .ok (.ireturn, 1) := by decide +kernel
theorem dX9_value_9 : decode cX9_value 9 = .ok (.aload_n 0, 1) := by decide +kernel
theorem dX9_value_10 : decode cX9_value 10 = .ok (.invokevirtual 182, 3) := by decide +kernel
theorem dX9_value_13 : decode cX9_value 13 = .ok (.invokevirtual 186, 3) := by decide +kernel
theorem dX9_value_16 : decode cX9_value 16 = .ok (.bipush (-9), 2) := by decide +kernel
theorem dX9_value_18 : decode cX9_value 18 = .ok (.if_icmp .ne 6, 3) := by decide +kernel
theorem dX9_value_21 : decode cX9_value 21 = .ok (.bipush (-9), 2) := by decide +kernel
theorem dX9_value_23 : decode cX9_value 23 = .ok (.ireturn, 1) := by decide +kernel
theorem dX9_value_24 : decode cX9_value 24 = .ok (.iconst 0, 1) := by decide +kernel
theorem dX9_value_25 : decode cX9_value 25 = .ok (.istore_n 2, 1) := by decide +kernel
theorem dX9_value_26 : decode cX9_value 26 = .ok (.iconst 0, 1) := by decide +kernel
theorem dX9_value_27 : decode cX9_value 27 = .ok (.istore_n 3, 1) := by decide +kernel
theorem dX9_value_28 : decode cX9_value 28 = .ok (.iload_n 3, 1) := by decide +kernel
theorem dX9_value_29 : decode cX9_value 29 = .ok (.aload_n 0, 1) := by decide +kernel
theorem dX9_value_30 : decode cX9_value 30 = .ok (.getfield 28, 3) := by decide +kernel
theorem dX9_value_33 : decode cX9_value 33 = .ok (.iload_n 1, 1) := by decide +kernel
theorem dX9_value_34 : decode cX9_value 34 = .ok (.invokevirtual 135, 3) := by decide +kernel
theorem dX9_value_37 : decode cX9_value 37 = .ok (.if_icmp .ge 76, 3) := by decide +kernel
theorem dX9_value_40 : decode cX9_value 40 = .ok (.iload_n 1, 1) := by decide +kernel
theorem dX9_value_41 : decode cX9_value 41 = .ok (.iload_n 3, 1) := by decide +kernel
theorem dX9_value_42 : decode cX9_value 42 = .ok (.invokestatic 150, 3) := by decide +kernel
theorem dX9_value_45 : decode cX9_value 45 = .ok (.istore 4, 2) := by decide +kernel
theorem dX9_value_47 : decode cX9_value 47 = .ok (.aload_n 0, 1) := by decide +kernel
theorem dX9_value_48 : decode cX9_value 48 = .ok (.getfield 58, 3) := by decide +kernel
theorem dX9_value_51 : decode cX9_value 51 = .ok (.iload 4, 2) := by decide +kernel
theorem dX9_value_53 : decode cX9_value 53 = .ok (.invokevirtual 179, 3) := by decide +kernel
theorem dX9_value_56 : decode cX9_value 56 = .ok (.istore 5, 2) := by decide +kernel
theorem dX9_value_58 : decode cX9_value 58 = .ok (.iload 5, 2) := by decide +kernel
theorem dX9_value_60 : decode cX9_value 60 = .ok (.iconst (-1), 1) := by decide +kernel
theorem dX9_value_61 : decode cX9_value 61 = .ok (.if_icmp .ne 22, 3) := by decide +kernel
theorem dX9_value_64 : decode cX9_value 64 = .ok (.aload_n 0, 1) := by decide +kernel
theorem dX9_value_65 : decode cX9_value 65 = .ok (.getfield 68, 3) := by decide +kernel
theorem dX9_value_68 : decode cX9_value 68 = .ok (.aload_n 0, 1) := by decide +kernel
theorem dX9_value_69 : decode cX9_value 69 = .ok (.getfield 58, 3) := by decide +kernel
theorem dX9_value_72 : decode cX9_value 72 = .ok (.iload 4, 2) := by decide +kernel
theorem dX9_value_74 : decode cX9_value 74 = .ok (.invokevirtual 153, 3) := by decide +kernel
theorem dX9_value_77 : decode cX9_value 77 = .ok (.invokevirtual 189, 3) := by decide +kernel
theorem dX9_value_80 : decode cX9_value 80 = .ok (.goto 14, 3) := by decide +kernel
theorem dX9_value_83 : decode cX9_value 83 = .ok (.iload 5, 2) := by decide +kernel
theorem dX9_value_85 : decode cX9_value 85 = .ok (.iconst 1, 1) := by decide +kernel
theorem dX9_value_86 : decode cX9_value 86 = .ok (.if_icmp .ne 7, 3) := by decide +kernel
theorem dX9_value_89 : decode cX9_value 89 = .ok (.iconst 1, 1) := by decide +kernel
theorem dX9_value_90 : decode cX9_value 90 = .ok (.goto 4, 3) := by decide +kernel
theorem dX9_value_93 : decode cX9_value 93 = .ok (.iconst 0, 1) := by decide +kernel
theorem dX9_value_94 : decode cX9_value 94 = .ok (.istore 6, 2) := by decide +kernel
theorem dX9_value_96 : decode cX9_value 96 = .ok (.iload 6, 2) := by decide +kernel
theorem dX9_value_98 : decode cX9_value 98 = .ok (.ifCond .eq 9, 3) := by decide +kernel
theorem dX9_value_101 : decode cX9_value 101 = .ok (.iload_n 2, 1) := by decide +kernel
theorem dX9_value_102 : decode cX9_value 102 = .ok (.iconst 1, 1) := by decide +kernel
theorem dX9_value_103 : decode cX9_value 103 = .ok (.iload_n 3, 1) := by decide +kernel
theorem dX9_value_104 : decode cX9_value 104 = .ok (.ishl, 1) := by decide +kernel
theorem dX9_value_105 : decode cX9_value 105 = .ok (.ior, 1) := by decide +kernel
theorem dX9_value_106 : decode cX9_value 106 = .ok (.istore_n 2, 1) := by decide +kernel
theorem dX9_value_107 : decode cX9_value 107 = .ok (.iinc 3 1, 3) := by decide +kernel
theorem dX9_value_110 : decode cX9_value 110 = .ok (.goto (-82), 3) := by decide +kernel
theorem dX9_value_113 : decode cX9_value 113 = .ok (.iload_n 2, 1) := by decide +kernel
theorem dX9_value_114 : decode cX9_value 114 = .ok (.ireturn, 1) := by decide +kernel
theorem dX9_isImplied_0 : decode cX9_isImplied 0 = .ok (.aload_n 0, 1) := by decide +kernel
theorem dX9_isImplied_1 : decode cX9_isImplied 1 = .ok (.getfield 28, 3) := by decide +kernel
theorem dX9_isImplied_4 : decode cX9_isImplied 4 = .ok (.getfield 129, 3) := by decide +kernel
theorem dX9_isImplied_7 : decode cX9_isImplied 7 = .ok (.iload_n 1, 1) := by decide +kernel
theorem dX9_isImplied_8 : decode cX9_isImplied 8 = .ok (.invokevirtual 116, 3) := by decide +kernel
theorem dX9_isImplied_11 : decode cX9_isImplied 11 = .ok (.ifCond .ne 5, 3) := by decide +kernel
theorem dX9_isImplied_14 : decode cX9_isImplied 14 = .ok (.iconst (-1), 1) := by decide +kernel
theorem dX9_isImplied_15 : decode cX9_isImplied 15 = .ok (.ireturn, 1) := by decide +kernel
theorem dX9_isImplied_16 : decode cX9_isImplied 16 = .ok (.aload_n 0, 1) := by decide +kernel
theorem dX9_isImplied_17 : decode cX9_isImplied 17 = .ok (.getfield 58, 3) := by decide +kernel
theorem dX9_isImplied_20 : decode cX9_isImplied 20 = .ok (.invokevirtual 165, 3) := by decide +kernel
theorem dX9_isImplied_23 : decode cX9_isImplied 23 = .ok (.ifCond .ne 6, 3) := by decide +kernel
theorem dX9_isImplied_26 : decode cX9_isImplied 26 = .ok (.bipush (-2), 2) := by decide +kernel
theorem dX9_isImplied_28 : decode cX9_isImplied 28 = .ok (.ireturn, 1) := by decide +kernel
theorem dX9_isImplied_29 : decode cX9_isImplied 29 = .ok (.aload_n 0, 1) := by decide +kernel
theorem dX9_isImplied_30 : decode cX9_isImplied 30 = .ok (.iconst 1, 1) := by decide +kernel
theorem dX9_isImplied_31 : decode cX9_isImplied 31 = .ok (.aload_n 0, 1) := by decide +kernel
theorem dX9_isImplied_32 : decode cX9_isImplied 32 = .ok (.getfield 28, 3) := by decide +kernel
theorem dX9_isImplied_35 : decode cX9_isImplied 35 = .ok (.getfield 112, 3) := by decide +kernel
theorem dX9_isImplied_38 : decode cX9_isImplied 38 = .ok (.invokevirtual 126, 3) := by decide +kernel
theorem dX9_isImplied_41 : decode cX9_isImplied 41 = .ok (.ishl, 1) := by decide +kernel
theorem dX9_isImplied_42 : decode cX9_isImplied 42 = .ok (.iconst 1, 1) := by decide +kernel
theorem dX9_isImplied_43 : decode cX9_isImplied 43 = .ok (.isub, 1) := by decide +kernel
theorem dX9_isImplied_44 : decode cX9_isImplied 44 = .ok (.invokevirtual 173, 3) := by decide +kernel
theorem dX9_isImplied_47 : decode cX9_isImplied 47 = .ok (.aload_n 0, 1) := by decide +kernel
theorem dX9_isImplied_48 : decode cX9_isImplied 48 = .ok (.getfield 62, 3) := by decide +kernel
theorem dX9_isImplied_51 : decode cX9_isImplied 51 = .ok (.aload_n 0, 1) := by decide +kernel
theorem dX9_isImplied_52 : decode cX9_isImplied 52 = .ok (.getfield 28, 3) := by decide +kernel
theorem dX9_isImplied_55 : decode cX9_isImplied 55 = .ok (.getfield 129, 3) := by decide +kernel
theorem dX9_isImplied_58 : decode cX9_isImplied 58 = .ok (.iload_n 1, 1) := by decide +kernel
theorem dX9_isImplied_59 : decode cX9_isImplied 59 = .ok (.invokevirtual 169, 3) := by decide +kernel
theorem dX9_isImplied_62 : decode cX9_isImplied 62 = .ok (.aload_n 0, 1) := by decide +kernel
theorem dX9_isImplied_63 : decode cX9_isImplied 63 = .ok (.getfield 62, 3) := by decide +kernel
theorem dX9_isImplied_66 : decode cX9_isImplied 66 = .ok (.invokevirtual 165, 3) := by decide +kernel
theorem dX9_isImplied_69 : decode cX9_isImplied 69 = .ok (.ifCond .eq 7, 3) := by decide +kernel
theorem dX9_isImplied_72 : decode cX9_isImplied 72 = .ok (.iconst 0, 1) := by decide +kernel
theorem dX9_isImplied_73 : decode cX9_isImplied 73 = .ok (.goto 4, 3) := by decide +kernel
theorem dX9_isImplied_76 : decode cX9_isImplied 76 = .ok (.iconst 1, 1) := by decide +kernel
theorem dX9_isImplied_77 : decode cX9_isImplied 77 = .ok (.ireturn, 1) := by decide +kernel
theorem dX9_undo_0 : decode cX9_undo 0 = .ok (.aload_n 0, 1) := by decide +kernel
theorem dX9_undo_1 : decode cX9_undo 1 = .ok (.getfield 38, 3) := by decide +kernel
theorem dX9_undo_4 : decode cX9_undo 4 = .ok (.invokevirtual 192, 3) := by decide +kernel
theorem dX9_undo_7 : decode cX9_undo 7 = .ok (.ifCond .ne 6, 3) := by decide +kernel
theorem dX9_undo_10 : decode cX9_undo 10 = .ok (.bipush (-2), 2) := by decide +kernel
theorem dX9_undo_12 : decode cX9_undo 12 = .ok (.ireturn, 1) := by decide +kernel
theorem dX9_undo_13 : decode cX9_undo 13 = .ok (.aload_n 0, 1) := by decide +kernel
theorem dX9_undo_14 : decode cX9_undo 14 = .ok (.getfield 38, 3) := by decide +kernel
theorem dX9_undo_17 : decode cX9_undo 17 = .ok (.aload_n 0, 1) := by decide +kernel
theorem dX9_undo_18 : decode cX9_undo 18 = .ok (.getfield 28, 3) := by decide +kernel
theorem dX9_undo_21 : decode cX9_undo 21 = .ok (.invokevirtual 195, 3) := by decide +kernel
theorem dX9_undo_24 : decode cX9_undo 24 = .ok (.aload_n 0, 1) := by decide +kernel
theorem dX9_undo_25 : decode cX9_undo 25 = .ok (.invokevirtual 106, 3) := by decide +kernel
theorem dX9_undo_28 : decode cX9_undo 28 = .ok (.aload_n 0, 1) := by decide +kernel
theorem dX9_undo_29 : decode cX9_undo 29 = .ok (.getfield 38, 3) := by decide +kernel
theorem dX9_undo_32 : decode cX9_undo 32 = .ok (.invokevirtual 192, 3) := by decide +kernel
theorem dX9_undo_35 : decode cX9_undo 35 = .ok (.ireturn, 1) := by decide +kernel
theorem dX9_undoDepth_0 : decode cX9_undoDepth 0 = .ok (.aload_n 0, 1) := by decide +kernel
theorem dX9_undoDepth_1 : decode cX9_undoDepth 1 = .ok (.getfield 38, 3) := by decide +kernel
theorem dX9_undoDepth_4 : decode cX9_undoDepth 4 = .ok (.invokevirtual 192, 3) := by decide +kernel
theorem dX9_undoDepth_7 : decode cX9_undoDepth 7 = .ok (.ireturn, 1) := by decide +kernel
theorem dX9_save_0 : decode cX9_save 0 = .ok (.iload_n 1, 1) := by decide +kernel
theorem dX9_save_1 : decode cX9_save 1 = .ok (.invokestatic 198, 3) := by decide +kernel
theorem dX9_save_4 : decode cX9_save 4 = .ok (.ifCond .ne 5, 3) := by decide +kernel
theorem dX9_save_7 : decode cX9_save 7 = .ok (.iconst (-1), 1) := by decide +kernel
theorem dX9_save_8 : decode cX9_save 8 = .ok (.ireturn, 1) := by decide +kernel
theorem dX9_save_9 : decode cX9_save 9 = .ok (.aload_n 0, 1) := by decide +kernel
theorem dX9_save_10 : decode cX9_save 10 = .ok (.iload_n 1, 1) := by decide +kernel
theorem dX9_save_11 : decode cX9_save 11 = .ok (.invokevirtual 201, 3) := by decide +kernel
theorem dX9_save_14 : decode cX9_save 14 = .ok (.aload_n 0, 1) := by decide +kernel
theorem dX9_save_15 : decode cX9_save 15 = .ok (.getfield 28, 3) := by decide +kernel
theorem dX9_save_18 : decode cX9_save 18 = .ok (.invokevirtual 103, 3) := by decide +kernel
theorem dX9_save_21 : decode cX9_save 21 = .ok (.aload_n 0, 1) := by decide +kernel
theorem dX9_save_22 : decode cX9_save 22 = .ok (.dup, 1) := by decide +kernel
theorem dX9_save_23 : decode cX9_save 23 = .ok (.getfield 72, 3) := by decide +kernel
theorem dX9_save_26 : decode cX9_save 26 = .ok (.iconst 1, 1) := by decide +kernel
theorem dX9_save_27 : decode cX9_save 27 = .ok (.iload_n 1, 1) := by decide +kernel
theorem dX9_save_28 : decode cX9_save 28 = .ok (.ishl, 1) := by decide +kernel
theorem dX9_save_29 : decode cX9_save 29 = .ok (.ior, 1) := by decide +kernel
theorem dX9_save_30 : decode cX9_save 30 = .ok (.putfield 72, 3) := by decide +kernel
theorem dX9_save_33 : decode cX9_save 33 = .ok (.aload_n 0, 1) := by decide +kernel
theorem dX9_save_34 : decode cX9_save 34 = .ok (.getfield 28, 3) := by decide +kernel
theorem dX9_save_37 : decode cX9_save 37 = .ok (.invokevirtual 109, 3) := by decide +kernel
theorem dX9_save_40 : decode cX9_save 40 = .ok (.ireturn, 1) := by decide +kernel
theorem dX9_restore_0 : decode cX9_restore 0 = .ok (.iload_n 1, 1) := by decide +kernel
theorem dX9_restore_1 : decode cX9_restore 1 = .ok (.invokestatic 198, 3) := by decide +kernel
theorem dX9_restore_4 : decode cX9_restore 4 = .ok (.ifCond .ne 5, 3) := by decide +kernel
theorem dX9_restore_7 : decode cX9_restore 7 = .ok (.iconst (-1), 1) := by decide +kernel
theorem dX9_restore_8 : decode cX9_restore 8 = .ok (.ireturn, 1) := by decide +kernel
theorem dX9_restore_9 : decode cX9_restore 9 = .ok (.aload_n 0, 1) := by decide +kernel
theorem dX9_restore_10 : decode cX9_restore 10 = .ok (.getfield 72, 3) := by decide +kernel
theorem dX9_restore_13 : decode cX9_restore 13 = .ok (.iconst 1, 1) := by decide +kernel
theorem dX9_restore_14 : decode cX9_restore 14 = .ok (.iload_n 1, 1) := by decide +kernel
theorem dX9_restore_15 : decode cX9_restore 15 = .ok (.ishl, 1) := by decide +kernel
theorem dX9_restore_16 : decode cX9_restore 16 = .ok (.iand, 1) := by decide +kernel
theorem dX9_restore_17 : decode cX9_restore 17 = .ok (.ifCond .ne 6, 3) := by decide +kernel
theorem dX9_restore_20 : decode cX9_restore 20 = .ok (.bipush (-2), 2) := by decide +kernel
theorem dX9_restore_22 : decode cX9_restore 22 = .ok (.ireturn, 1) := by decide +kernel
theorem dX9_restore_23 : decode cX9_restore 23 = .ok (.aload_n 0, 1) := by decide +kernel
theorem dX9_restore_24 : decode cX9_restore 24 = .ok (.getfield 28, 3) := by decide +kernel
theorem dX9_restore_27 : decode cX9_restore 27 = .ok (.aload_n 0, 1) := by decide +kernel
theorem dX9_restore_28 : decode cX9_restore 28 = .ok (.iload_n 1, 1) := by decide +kernel
theorem dX9_restore_29 : decode cX9_restore 29 = .ok (.invokevirtual 201, 3) := by decide +kernel
theorem dX9_restore_32 : decode cX9_restore 32 = .ok (.invokevirtual 103, 3) := by decide +kernel
theorem dX9_restore_35 : decode cX9_restore 35 = .ok (.aload_n 0, 1) := by decide +kernel
theorem dX9_restore_36 : decode cX9_restore 36 = .ok (.getfield 38, 3) := by decide +kernel
theorem dX9_restore_39 : decode cX9_restore 39 = .ok (.invokevirtual 205, 3) := by decide +kernel
theorem dX9_restore_42 : decode cX9_restore 42 = .ok (.aload_n 0, 1) := by decide +kernel
theorem dX9_restore_43 : decode cX9_restore 43 = .ok (.invokevirtual 106, 3) := by decide +kernel
theorem dX9_restore_46 : decode cX9_restore 46 = .ok (.aload_n 0, 1) := by decide +kernel
theorem dX9_restore_47 : decode cX9_restore 47 = .ok (.getfield 28, 3) := by decide +kernel
theorem dX9_restore_50 : decode cX9_restore 50 = .ok (.invokevirtual 109, 3) := by decide +kernel
theorem dX9_restore_53 : decode cX9_restore 53 = .ok (.ireturn, 1) := by decide +kernel
theorem dX9_slice_0 : decode cX9_slice 0 = .ok (.aload_n 0, 1) := by decide +kernel
theorem dX9_slice_1 : decode cX9_slice 1 = .ok (.getfield 51, 3) := by decide +kernel
theorem dX9_slice_4 : decode cX9_slice 4 = .ok (.aload_n 0, 1) := by decide +kernel
theorem dX9_slice_5 : decode cX9_slice 5 = .ok (.getfield 28, 3) := by decide +kernel
theorem dX9_slice_8 : decode cX9_slice 8 = .ok (.invokevirtual 206, 3) := by decide +kernel
theorem dX9_slice_11 : decode cX9_slice 11 = .ok (.aload_n 0, 1) := by decide +kernel
theorem dX9_slice_12 : decode cX9_slice 12 = .ok (.getfield 58, 3) := by decide +kernel
theorem dX9_slice_15 : decode cX9_slice 15 = .ok (.invokevirtual 168, 3) := by decide +kernel
theorem dX9_slice_18 : decode cX9_slice 18 = .ok (.iconst 0, 1) := by decide +kernel
theorem dX9_slice_19 : decode cX9_slice 19 = .ok (.istore_n 1, 1) := by decide +kernel
theorem dX9_slice_20 : decode cX9_slice 20 = .ok (.iload_n 1, 1) := by decide +kernel
theorem dX9_slice_21 : decode cX9_slice 21 = .ok (.aload_n 0, 1) := by decide +kernel
theorem dX9_slice_22 : decode cX9_slice 22 = .ok (.getfield 28, 3) := by decide +kernel
theorem dX9_slice_25 : decode cX9_slice 25 = .ok (.getfield 112, 3) := by decide +kernel
theorem dX9_slice_28 : decode cX9_slice 28 = .ok (.invokevirtual 126, 3) := by decide +kernel
theorem dX9_slice_31 : decode cX9_slice 31 = .ok (.if_icmp .ge 24, 3) := by decide +kernel
theorem dX9_slice_34 : decode cX9_slice 34 = .ok (.aload_n 0, 1) := by decide +kernel
theorem dX9_slice_35 : decode cX9_slice 35 = .ok (.getfield 58, 3) := by decide +kernel
theorem dX9_slice_38 : decode cX9_slice 38 = .ok (.aload_n 0, 1) := by decide +kernel
theorem dX9_slice_39 : decode cX9_slice 39 = .ok (.getfield 28, 3) := by decide +kernel
theorem dX9_slice_42 : decode cX9_slice 42 = .ok (.getfield 112, 3) := by decide +kernel
theorem dX9_slice_45 : decode cX9_slice 45 = .ok (.iload_n 1, 1) := by decide +kernel
theorem dX9_slice_46 : decode cX9_slice 46 = .ok (.invokevirtual 169, 3) := by decide +kernel
theorem dX9_slice_49 : decode cX9_slice 49 = .ok (.iinc 1 1, 3) := by decide +kernel
theorem dX9_slice_52 : decode cX9_slice 52 = .ok (.goto (-32), 3) := by decide +kernel
theorem dX9_slice_55 : decode cX9_slice 55 = .ok (.aload_n 0, 1) := by decide +kernel
theorem dX9_slice_56 : decode cX9_slice 56 = .ok (.iconst 0, 1) := by decide +kernel
theorem dX9_slice_57 : decode cX9_slice 57 = .ok (.putfield 76, 3) := by decide +kernel
theorem dX9_slice_60 : decode cX9_slice 60 = .ok (.return_, 1) := by decide +kernel
theorem dX9_tryEquations_0 : decode cX9_tryEquations 0 = .ok (.aload_n 0, 1) := by decide +kernel
theorem dX9_tryEquations_1 : decode cX9_tryEquations 1 = .ok (.getfield 62, 3) := by decide +kernel
theorem dX9_tryEquations_4 : decode cX9_tryEquations 4 = .ok (.invokevirtual 168, 3) := by decide +kernel
theorem dX9_tryEquations_7 : decode cX9_tryEquations 7 = .ok (.iconst 0, 1) := by decide +kernel
theorem dX9_tryEquations_8 : decode cX9_tryEquations 8 = .ok (.istore_n 2, 1) := by decide +kernel
theorem dX9_tryEquations_9 : decode cX9_tryEquations 9 = .ok (.iload_n 2, 1) := by decide +kernel
theorem dX9_tryEquations_10 : decode cX9_tryEquations 10 = .ok (.aload_n 0, 1) := by decide +kernel
theorem dX9_tryEquations_11 : decode cX9_tryEquations 11 = .ok (.getfield 28, 3) := by decide +kernel
theorem dX9_tryEquations_14 : decode cX9_tryEquations 14 = .ok (.getfield 112, 3) := by decide +kernel
theorem dX9_tryEquations_17 : decode cX9_tryEquations 17 = .ok (.invokevirtual 126, 3) := by decide +kernel
theorem dX9_tryEquations_20 : decode cX9_tryEquations 20 = .ok (.if_icmp .ge 32, 3) := by decide +kernel
theorem dX9_tryEquations_23 : decode cX9_tryEquations 23 = .ok (.iload_n 1, 1) := by decide +kernel
theorem dX9_tryEquations_24 : decode cX9_tryEquations 24 = .ok (.iconst 1, 1) := by decide +kernel
theorem dX9_tryEquations_25 : decode cX9_tryEquations 25 = .ok (.iload_n 2, 1) := by decide +kernel
theorem dX9_tryEquations_26 : decode cX9_tryEquations 26 = .ok (.ishl, 1) := by decide +kernel
theorem dX9_tryEquations_27 : decode cX9_tryEquations 27 = .ok (.iand, 1) := by decide +kernel
theorem dX9_tryEquations_28 : decode cX9_tryEquations 28 = .ok (.ifCond .eq 18, 3) := by decide +kernel
theorem dX9_tryEquations_31 : decode cX9_tryEquations 31 = .ok (.aload_n 0, 1) := by decide +kernel
theorem dX9_tryEquations_32 : decode cX9_tryEquations 32 = .ok (.getfield 62, 3) := by decide +kernel
theorem dX9_tryEquations_35 : decode cX9_tryEquations 35 = .ok (.aload_n 0, 1) := by decide +kernel
theorem dX9_tryEquations_36 : decode cX9_tryEquations 36 = .ok (.getfield 28, 3) := by decide +kernel
theorem dX9_tryEquations_39 : decode cX9_tryEquations 39 = .ok (.getfield 112, 3) := by decide +kernel
theorem dX9_tryEquations_42 : decode cX9_tryEquations 42 = .ok (.iload_n 2, 1) := by decide +kernel
theorem dX9_tryEquations_43 : decode cX9_tryEquations 43 = .ok (.invokevirtual 169, 3) := by decide +kernel
theorem dX9_tryEquations_46 : decode cX9_tryEquations 46 = .ok (.iinc 2 1, 3) := by decide +kernel
theorem dX9_tryEquations_49 : decode cX9_tryEquations 49 = .ok (.goto (-40), 3) := by decide +kernel
theorem dX9_tryEquations_52 : decode cX9_tryEquations 52 = .ok (.return_, 1) := by decide +kernel
theorem dX9_chosenModel_0 : decode cX9_chosenModel 0 = .ok (.aload_n 0, 1) := by decide +kernel
theorem dX9_chosenModel_1 : decode cX9_chosenModel 1 = .ok (.getfield 76, 3) := by decide +kernel
theorem dX9_chosenModel_4 : decode cX9_chosenModel 4 = .ok (.ifCond .ne 26, 3) := by decide +kernel
theorem dX9_chosenModel_7 : decode cX9_chosenModel 7 = .ok (.aload_n 0, 1) := by decide +kernel
theorem dX9_chosenModel_8 : decode cX9_chosenModel 8 = .ok (.getfield 68, 3) := by decide +kernel
theorem dX9_chosenModel_11 : decode cX9_chosenModel 11 = .ok (.aload_n 0, 1) := by decide +kernel
theorem dX9_chosenModel_12 : decode cX9_chosenModel 12 = .ok (.getfield 28, 3) := by decide +kernel
theorem dX9_chosenModel_15 : decode cX9_chosenModel 15 = .ok (.getfield 129, 3) := by decide +kernel
theorem dX9_chosenModel_18 : decode cX9_chosenModel 18 = .ok (.aload_n 0, 1) := by decide +kernel
theorem dX9_chosenModel_19 : decode cX9_chosenModel 19 = .ok (.getfield 58, 3) := by decide +kernel
theorem dX9_chosenModel_22 : decode cX9_chosenModel 22 = .ok (.invokevirtual 209, 3) := by decide +kernel
theorem dX9_chosenModel_25 : decode cX9_chosenModel 25 = .ok (.aload_n 0, 1) := by decide +kernel
theorem dX9_chosenModel_26 : decode cX9_chosenModel 26 = .ok (.iconst 1, 1) := by decide +kernel
theorem dX9_chosenModel_27 : decode cX9_chosenModel 27 = .ok (.putfield 76, 3) := by decide +kernel
theorem dX9_chosenModel_30 : decode cX9_chosenModel 30 = .ok (.aload_n 0, 1) := by decide +kernel
theorem dX9_chosenModel_31 : decode cX9_chosenModel 31 = .ok (.getfield 68, 3) := by decide +kernel
theorem dX9_chosenModel_34 : decode cX9_chosenModel 34 = .ok (.areturn, 1) := by decide +kernel
theorem dX9_slicesOf_0 : decode cX9_slicesOf 0 = .ok (.aload_n 0, 1) := by decide +kernel
theorem dX9_slicesOf_1 : decode cX9_slicesOf 1 = .ok (.getfield 28, 3) := by decide +kernel
theorem dX9_slicesOf_4 : decode cX9_slicesOf 4 = .ok (.iload_n 1, 1) := by decide +kernel
theorem dX9_slicesOf_5 : decode cX9_slicesOf 5 = .ok (.invokevirtual 135, 3) := by decide +kernel
theorem dX9_slicesOf_8 : decode cX9_slicesOf 8 = .ok (.ifCond .ne 7, 3) := by decide +kernel
theorem dX9_slicesOf_11 : decode cX9_slicesOf 11 = .ok (.iconst 0, 1) := by decide +kernel
theorem dX9_slicesOf_12 : decode cX9_slicesOf 12 = .ok (.goto 13, 3) := by decide +kernel
theorem dX9_slicesOf_15 : decode cX9_slicesOf 15 = .ok (.aload_n 0, 1) := by decide +kernel
theorem dX9_slicesOf_16 : decode cX9_slicesOf 16 = .ok (.getfield 51, 3) := by decide +kernel
theorem dX9_slicesOf_19 : decode cX9_slicesOf 19 = .ok (.iload_n 1, 1) := by decide +kernel
theorem dX9_slicesOf_20 : decode cX9_slicesOf 20 = .ok (.invokevirtual 213, 3) := by decide +kernel
theorem dX9_slicesOf_23 : decode cX9_slicesOf 23 = .ok (.iconst 1, 1) := by decide +kernel
theorem dX9_slicesOf_24 : decode cX9_slicesOf 24 = .ok (.iadd, 1) := by decide +kernel
theorem dX9_slicesOf_25 : decode cX9_slicesOf 25 = .ok (.ireturn, 1) := by decide +kernel
theorem dX9_isSlice_0 : decode cX9_isSlice 0 = .ok (.iload_n 1, 1) := by decide +kernel
theorem dX9_isSlice_1 : decode cX9_isSlice 1 = .ok (.invokestatic 132, 3) := by decide +kernel
theorem dX9_isSlice_4 : decode cX9_isSlice 4 = .ok (.ifCond .eq 20, 3) := by decide +kernel
theorem dX9_isSlice_7 : decode cX9_isSlice 7 = .ok (.iload_n 2, 1) := by decide +kernel
theorem dX9_isSlice_8 : decode cX9_isSlice 8 = .ok (.ifCond .lt 16, 3) := by decide +kernel
theorem dX9_isSlice_11 : decode cX9_isSlice 11 = .ok (.iload_n 2, 1) := by decide +kernel
theorem dX9_isSlice_12 : decode cX9_isSlice 12 = .ok (.aload_n 0, 1) := by decide +kernel
theorem dX9_isSlice_13 : decode cX9_isSlice 13 = .ok (.iload_n 1, 1) := by decide +kernel
theorem dX9_isSlice_14 : decode cX9_isSlice 14 = .ok (.invokevirtual 139, 3) := by decide +kernel
theorem dX9_isSlice_17 : decode cX9_isSlice 17 = .ok (.if_icmp .ge 7, 3) := by decide +kernel
theorem dX9_isSlice_20 : decode cX9_isSlice 20 = .ok (.iconst 1, 1) := by decide +kernel
theorem dX9_isSlice_21 : decode cX9_isSlice 21 = .ok (.goto 4, 3) := by decide +kernel
theorem dX9_isSlice_24 : decode cX9_isSlice 24 = .ok (.iconst 0, 1) := by decide +kernel
theorem dX9_isSlice_25 : decode cX9_isSlice 25 = .ok (.ireturn, 1) := by decide +kernel
theorem dX9_isBit_0 : decode cX9_isBit 0 = .ok (.iload_n 1, 1) := by decide +kernel
theorem dX9_isBit_1 : decode cX9_isBit 1 = .ok (.invokestatic 132, 3) := by decide +kernel
theorem dX9_isBit_4 : decode cX9_isBit 4 = .ok (.ifCond .eq 23, 3) := by decide +kernel
theorem dX9_isBit_7 : decode cX9_isBit 7 = .ok (.iload_n 2, 1) := by decide +kernel
theorem dX9_isBit_8 : decode cX9_isBit 8 = .ok (.ifCond .lt 19, 3) := by decide +kernel
theorem dX9_isBit_11 : decode cX9_isBit 11 = .ok (.iload_n 2, 1) := by decide +kernel
theorem dX9_isBit_12 : decode cX9_isBit 12 = .ok (.aload_n 0, 1) := by decide +kernel
theorem dX9_isBit_13 : decode cX9_isBit 13 = .ok (.getfield 28, 3) := by decide +kernel
theorem dX9_isBit_16 : decode cX9_isBit 16 = .ok (.iload_n 1, 1) := by decide +kernel
theorem dX9_isBit_17 : decode cX9_isBit 17 = .ok (.invokevirtual 135, 3) := by decide +kernel
theorem dX9_isBit_20 : decode cX9_isBit 20 = .ok (.if_icmp .ge 7, 3) := by decide +kernel
theorem dX9_isBit_23 : decode cX9_isBit 23 = .ok (.iconst 1, 1) := by decide +kernel
theorem dX9_isBit_24 : decode cX9_isBit 24 = .ok (.goto 4, 3) := by decide +kernel
theorem dX9_isBit_27 : decode cX9_isBit 27 = .ok (.iconst 0, 1) := by decide +kernel
theorem dX9_isBit_28 : decode cX9_isBit 28 = .ok (.ireturn, 1) := by decide +kernel
theorem dX9_snapshot_0 : decode cX9_snapshot 0 = .ok (.iload_n 1, 1) := by decide +kernel
theorem dX9_snapshot_1 : decode cX9_snapshot 1 = .ok (.ifCond .ne 10, 3) := by decide +kernel
theorem dX9_snapshot_4 : decode cX9_snapshot 4 = .ok (.aload_n 0, 1) := by decide +kernel
theorem dX9_snapshot_5 : decode cX9_snapshot 5 = .ok (.getfield 42, 3) := by decide +kernel
theorem dX9_snapshot_8 : decode cX9_snapshot 8 = .ok (.goto 7, 3) := by decide +kernel
theorem dX9_snapshot_11 : decode cX9_snapshot 11 = .ok (.aload_n 0, 1) := by decide +kernel
theorem dX9_snapshot_12 : decode cX9_snapshot 12 = .ok (.getfield 45, 3) := by decide +kernel
theorem dX9_snapshot_15 : decode cX9_snapshot 15 = .ok (.areturn, 1) := by decide +kernel
theorem dX9_isSlot_0 : decode cX9_isSlot 0 = .ok (.iload_n 0, 1) := by decide +kernel
theorem dX9_isSlot_1 : decode cX9_isSlot 1 = .ok (.ifCond .lt 12, 3) := by decide +kernel
theorem dX9_isSlot_4 : decode cX9_isSlot 4 = .ok (.iload_n 0, 1) := by decide +kernel
theorem dX9_isSlot_5 : decode cX9_isSlot 5 = .ok (.iconst 2, 1) := by decide +kernel
theorem dX9_isSlot_6 : decode cX9_isSlot 6 = .ok (.if_icmp .ge 7, 3) := by decide +kernel
theorem dX9_isSlot_9 : decode cX9_isSlot 9 = .ok (.iconst 1, 1) := by decide +kernel
theorem dX9_isSlot_10 : decode cX9_isSlot 10 = .ok (.goto 4, 3) := by decide +kernel
theorem dX9_isSlot_13 : decode cX9_isSlot 13 = .ok (.iconst 0, 1) := by decide +kernel
theorem dX9_isSlot_14 : decode cX9_isSlot 14 = .ok (.ireturn, 1) := by decide +kernel
theorem dX9_isVariable_0 : decode cX9_isVariable 0 = .ok (.iload_n 0, 1) := by decide +kernel
theorem dX9_isVariable_1 : decode cX9_isVariable 1 = .ok (.ifCond .lt 13, 3) := by decide +kernel
theorem dX9_isVariable_4 : decode cX9_isVariable 4 = .ok (.iload_n 0, 1) := by decide +kernel
theorem dX9_isVariable_5 : decode cX9_isVariable 5 = .ok (.bipush 8, 2) := by decide +kernel
theorem dX9_isVariable_7 : decode cX9_isVariable 7 = .ok (.if_icmp .ge 7, 3) := by decide +kernel
theorem dX9_isVariable_10 : decode cX9_isVariable 10 = .ok (.iconst 1, 1) := by decide +kernel
theorem dX9_isVariable_11 : decode cX9_isVariable 11 = .ok (.goto 4, 3) := by decide +kernel
theorem dX9_isVariable_14 : decode cX9_isVariable 14 = .ok (.iconst 0, 1) := by decide +kernel
theorem dX9_isVariable_15 : decode cX9_isVariable 15 = .ok (.ireturn, 1) := by decide +kernel
theorem dX9_nodeOf_0 : decode cX9_nodeOf 0 = .ok (.iload_n 0, 1) := by decide +kernel
theorem dX9_nodeOf_1 : decode cX9_nodeOf 1 = .ok (.bipush 16, 2) := by decide +kernel
theorem dX9_nodeOf_3 : decode cX9_nodeOf 3 = .ok (.imul, 1) := by decide +kernel
theorem dX9_nodeOf_4 : decode cX9_nodeOf 4 = .ok (.iload_n 1, 1) := by decide +kernel
theorem dX9_nodeOf_5 : decode cX9_nodeOf 5 = .ok (.iadd, 1) := by decide +kernel
theorem dX9_nodeOf_6 : decode cX9_nodeOf 6 = .ok (.ireturn, 1) := by decide +kernel
theorem dX9_variableOf_0 : decode cX9_variableOf 0 = .ok (.iload_n 0, 1) := by decide +kernel
theorem dX9_variableOf_1 : decode cX9_variableOf 1 = .ok (.bipush 16, 2) := by decide +kernel
theorem dX9_variableOf_3 : decode cX9_variableOf 3 = .ok (.idiv, 1) := by decide +kernel
theorem dX9_variableOf_4 : decode cX9_variableOf 4 = .ok (.ireturn, 1) := by decide +kernel
theorem dX9_bitOf_0 : decode cX9_bitOf 0 = .ok (.iload_n 0, 1) := by decide +kernel
theorem dX9_bitOf_1 : decode cX9_bitOf 1 = .ok (.bipush 16, 2) := by decide +kernel
theorem dX9_bitOf_3 : decode cX9_bitOf 3 = .ok (.irem, 1) := by decide +kernel
theorem dX9_bitOf_4 : decode cX9_bitOf 4 = .ok (.ireturn, 1) := by decide +kernel
theorem dX9_isConstantNode_0 : decode cX9_isConstantNode 0 = .ok (.iload_n 0, 1) := by decide +kernel
theorem dX9_isConstantNode_1 : decode cX9_isConstantNode 1 = .ok (.sipush 128, 3) := by decide +kernel
theorem dX9_isConstantNode_4 : decode cX9_isConstantNode 4 = .ok (.if_icmp .lt 7, 3) := by decide +kernel
theorem dX9_isConstantNode_7 : decode cX9_isConstantNode 7 = .ok (.iconst 1, 1) := by decide +kernel
theorem dX9_isConstantNode_8 : decode cX9_isConstantNode 8 = .ok (.goto 4, 3) := by decide +kernel
theorem dX9_isConstantNode_11 : decode cX9_isConstantNode 11 = .ok (.iconst 0, 1) := by decide +kernel
theorem dX9_isConstantNode_12 : decode cX9_isConstantNode 12 = .ok (.ireturn, 1) := by decide +kernel
theorem dX10_init_0 : decode cX10_init 0 = .ok (.aload_n 0, 1) := by decide +kernel
theorem dX10_init_1 : decode cX10_init 1 = .ok (.invokespecial 1, 3) := by decide +kernel
theorem dX10_init_4 : decode cX10_init 4 = .ok (.aload_n 0, 1) := by decide +kernel
theorem dX10_init_5 : decode cX10_init 5 = .ok (.sipush 439, 3) := by decide +kernel
theorem dX10_init_8 : decode cX10_init 8 = .ok (.newarray .int, 2) := by decide +kernel
theorem dX10_init_10 : decode cX10_init 10 = .ok (.putfield 7, 3) := by decide +kernel
theorem dX10_init_13 : decode cX10_init 13 = .ok (.aload_n 0, 1) := by decide +kernel
theorem dX10_init_14 : decode cX10_init 14 = .ok (.sipush 439, 3) := by decide +kernel
theorem dX10_init_17 : decode cX10_init 17 = .ok (.newarray .int, 2) := by decide +kernel
theorem dX10_init_19 : decode cX10_init 19 = .ok (.putfield 13, 3) := by decide +kernel
theorem dX10_init_22 : decode cX10_init 22 = .ok (.aload_n 0, 1) := by decide +kernel
theorem dX10_init_23 : decode cX10_init 23 = .ok (.sipush 2634, 3) := by decide +kernel
theorem dX10_init_26 : decode cX10_init 26 = .ok (.newarray .int, 2) := by decide +kernel
theorem dX10_init_28 : decode cX10_init 28 = .ok (.putfield 16, 3) := by decide +kernel
theorem dX10_init_31 : decode cX10_init 31 = .ok (.aload_n 0, 1) := by decide +kernel
theorem dX10_init_32 : decode cX10_init 32 = .ok (.sipush 878, 3) := by decide +kernel
theorem dX10_init_35 : decode cX10_init 35 = .ok (.newarray .int, 2) := by decide +kernel
theorem dX10_init_37 : decode cX10_init 37 = .ok (.putfield 19, 3) := by decide +kernel
theorem dX10_init_40 : decode cX10_init 40 = .ok (.aload_n 0, 1) := by decide +kernel
theorem dX10_init_41 : decode cX10_init 41 = .ok (.iconst 2, 1) := by decide +kernel
theorem dX10_init_42 : decode cX10_init 42 = .ok (.newarray .boolean, 2) := by decide +kernel
theorem dX10_init_44 : decode cX10_init 44 = .ok (.putfield 22, 3) := by decide +kernel
theorem dX10_init_47 : decode cX10_init 47 = .ok (.aload_n 0, 1) := by decide +kernel
theorem dX10_init_48 : decode cX10_init 48 = .ok (.sipush 200, 3) := by decide +kernel
theorem dX10_init_51 : decode cX10_init 51 = .ok (.newarray .int, 2) := by decide +kernel
theorem dX10_init_53 : decode cX10_init 53 = .ok (.putfield 26, 3) := by decide +kernel
theorem dX10_init_56 : decode cX10_init 56 = .ok (.aload_n 0, 1) := by decide +kernel
theorem dX10_init_57 : decode cX10_init 57 = .ok (.bipush 16, 2) := by decide +kernel
theorem dX10_init_59 : decode cX10_init 59 = .ok (.newarray .int, 2) := by decide +kernel
theorem dX10_init_61 : decode cX10_init 61 = .ok (.putfield 29, 3) := by decide +kernel
theorem dX10_init_64 : decode cX10_init 64 = .ok (.aload_n 0, 1) := by decide +kernel
theorem dX10_init_65 : decode cX10_init 65 = .ok (.sipush 128, 3) := by decide +kernel
theorem dX10_init_68 : decode cX10_init 68 = .ok (.newarray .boolean, 2) := by decide +kernel
theorem dX10_init_70 : decode cX10_init 70 = .ok (.putfield 32, 3) := by decide +kernel
theorem dX10_init_73 : decode cX10_init 73 = .ok (.aload_n 0, 1) := by decide +kernel
theorem dX10_init_74 : decode cX10_init 74 = .ok (.sipush 128, 3) := by decide +kernel
theorem dX10_init_77 : decode cX10_init 77 = .ok (.newarray .int, 2) := by decide +kernel
theorem dX10_init_79 : decode cX10_init 79 = .ok (.putfield 35, 3) := by decide +kernel
theorem dX10_init_82 : decode cX10_init 82 = .ok (.aload_n 0, 1) := by decide +kernel
theorem dX10_init_83 : decode cX10_init 83 = .ok (.sipush 128, 3) := by decide +kernel
theorem dX10_init_86 : decode cX10_init 86 = .ok (.newarray .int, 2) := by decide +kernel
theorem dX10_init_88 : decode cX10_init 88 = .ok (.putfield 38, 3) := by decide +kernel
theorem dX10_init_91 : decode cX10_init 91 = .ok (.aload_n 0, 1) := by decide +kernel
theorem dX10_init_92 : decode cX10_init 92 = .ok (.iconst 3, 1) := by decide +kernel
theorem dX10_init_93 : decode cX10_init 93 = .ok (.newarray .int, 2) := by decide +kernel
theorem dX10_init_95 : decode cX10_init 95 = .ok (.putfield 41, 3) := by decide +kernel
theorem dX10_init_98 : decode cX10_init 98 = .ok (.aload_n 0, 1) := by decide +kernel
theorem dX10_init_99 : decode cX10_init 99 = .ok (.sipush 128, 3) := by decide +kernel
theorem dX10_init_102 : decode cX10_init 102 = .ok (.newarray .int, 2) := by decide +kernel
theorem dX10_init_104 : decode cX10_init 104 = .ok (.putfield 44, 3) := by decide +kernel
theorem dX10_init_107 : decode cX10_init 107 = .ok (.return_, 1) := by decide +kernel
theorem dX10_in_0 : decode cX10_in 0 = .ok (.iload_n 0, 1) := by decide +kernel
theorem dX10_in_1 : decode cX10_in 1 = .ok (.iload_n 1, 1) := by decide +kernel
theorem dX10_in_2 : decode cX10_in 2 = .ok (.if_icmp .lt 12, 3) := by decide +kernel
theorem dX10_in_5 : decode cX10_in 5 = .ok (.iload_n 0, 1) := by decide +kernel
theorem dX10_in_6 : decode cX10_in 6 = .ok (.iload_n 2, 1) := by decide +kernel
theorem dX10_in_7 : decode cX10_in 7 = .ok (.if_icmp .gt 7, 3) := by decide +kernel
theorem dX10_in_10 : decode cX10_in 10 = .ok (.iconst 1, 1) := by decide +kernel
theorem dX10_in_11 : decode cX10_in 11 = .ok (.goto 4, 3) := by decide +kernel
theorem dX10_in_14 : decode cX10_in 14 = .ok (.iconst 0, 1) := by decide +kernel
theorem dX10_in_15 : decode cX10_in 15 = .ok (.ireturn, 1) := by decide +kernel
theorem dX10_characterAt_0 : decode cX10_characterAt 0 = .ok (.iload_n 1, 1) := by decide +kernel
theorem dX10_characterAt_1 : decode cX10_characterAt 1 = .ok (.aload_n 0, 1) := by decide +kernel
theorem dX10_characterAt_2 : decode cX10_characterAt 2 = .ok (.getfield 51, 3) := by decide +kernel
theorem dX10_characterAt_5 : decode cX10_characterAt 5 = .ok (.if_icmp .ge 12, 3) := by decide +kernel
theorem dX10_characterAt_8 : decode cX10_characterAt 8 = .ok (.aload_n 0, 1) := by decide +kernel
theorem dX10_characterAt_9 : decode cX10_characterAt 9 = .ok (.getfield 26, 3) := by decide +kernel
theorem dX10_characterAt_12 : decode cX10_characterAt 12 = .ok (.iload_n 1, 1) := by decide +kernel
theorem dX10_characterAt_13 : decode cX10_characterAt 13 = .ok (.iaload, 1) := by decide +kernel
theorem dX10_characterAt_14 : decode cX10_characterAt 14 = .ok (.goto 4, 3) := by decide +kernel
theorem dX10_characterAt_17 : decode cX10_characterAt 17 = .ok (.iconst (-1), 1) := by decide +kernel
theorem dX10_characterAt_18 : decode cX10_characterAt 18 = .ok (.ireturn, 1) := by decide +kernel
theorem dX10_wordOf_0 : decode cX10_wordOf 0 = .ok (.aload_n 0, 1) := by decide +kernel
theorem dX10_wordOf_1 : decode cX10_wordOf 1 = .ok (.getfield 54, 3) := by decide +kernel
theorem dX10_wordOf_4 : decode cX10_wordOf 4 = .ok (.aload_n 0, 1) := by decide +kernel
theorem dX10_wordOf_5 : decode cX10_wordOf 5 = .ok (.getfield 57, 3) := by decide +kernel
theorem dX10_wordOf_8 : decode cX10_wordOf 8 = .ok (.isub, 1) := by decide +kernel
theorem dX10_wordOf_9 : decode cX10_wordOf 9 = .ok (.istore_n 1, 1) := by decide +kernel
theorem dX10_wordOf_10 : decode cX10_wordOf 10 = .ok (.aload_n 0, 1) := by decide +kernel
theorem dX10_wordOf_11 : decode cX10_wordOf 11 = .ok (.getfield 26, 3) := by decide +kernel
theorem dX10_wordOf_14 : decode cX10_wordOf 14 = .ok (.aload_n 0, 1) := by decide +kernel
theorem dX10_wordOf_15 : decode cX10_wordOf 15 = .ok (.getfield 57, 3) := by decide +kernel
theorem dX10_wordOf_18 : decode cX10_wordOf 18 = .ok (.iaload, 1) := by decide +kernel
theorem dX10_wordOf_19 : decode cX10_wordOf 19 = .ok (.istore_n 2, 1) := by decide +kernel
theorem dX10_wordOf_20 : decode cX10_wordOf 20 = .ok (.iload_n 1, 1) := by decide +kernel
theorem dX10_wordOf_21 : decode cX10_wordOf 21 = .ok (.iconst 1, 1) := by decide +kernel
theorem dX10_wordOf_22 : decode cX10_wordOf 22 = .ok (.if_icmp .ne 24, 3) := by decide +kernel
theorem dX10_wordOf_25 : decode cX10_wordOf 25 = .ok (.iload_n 2, 1) := by decide +kernel
theorem dX10_wordOf_26 : decode cX10_wordOf 26 = .ok (.bipush 97, 2) := by decide +kernel
theorem dX10_wordOf_28 : decode cX10_wordOf 28 = .ok (.bipush 104, 2) := by decide +kernel
theorem dX10_wordOf_30 : decode cX10_wordOf 30 = .ok (.invokestatic 60, 3) := by decide +kernel
theorem dX10_wordOf_33 : decode cX10_wordOf 33 = .ok (.ifCond .eq 10, 3) := by decide +kernel
theorem dX10_wordOf_36 : decode cX10_wordOf 36 = .ok (.iload_n 2, 1) := by decide +kernel
theorem dX10_wordOf_37 : decode cX10_wordOf 37 = .ok (.bipush 97, 2) := by decide +kernel
theorem dX10_wordOf_39 : decode cX10_wordOf 39 = .ok (.isub, 1) := by decide +kernel
theorem dX10_wordOf_40 : decode cX10_wordOf 40 = .ok (.goto 5, 3) := by decide +kernel
theorem dX10_wordOf_43 : decode cX10_wordOf 43 = .ok (.bipush (-9), 2) := by decide +kernel
theorem dX10_wordOf_45 : decode cX10_wordOf 45 = .ok (.ireturn, 1) := by decide +kernel
theorem dX10_wordOf_46 : decode cX10_wordOf 46 = .ok (.iload_n 1, 1) := by decide +kernel
theorem dX10_wordOf_47 : decode cX10_wordOf 47 = .ok (.iconst 3, 1) := by decide +kernel
theorem dX10_wordOf_48 : decode cX10_wordOf 48 = .ok (.if_icmp .ne 49, 3) := by decide +kernel
theorem dX10_wordOf_51 : decode cX10_wordOf 51 = .ok (.iload_n 2, 1) := by decide +kernel
theorem dX10_wordOf_52 : decode cX10_wordOf 52 = .ok (.bipush 110, 2) := by decide +kernel
theorem dX10_wordOf_54 : decode cX10_wordOf 54 = .ok (.if_icmp .ne 40, 3) := by decide +kernel
theorem dX10_wordOf_57 : decode cX10_wordOf 57 = .ok (.aload_n 0, 1) := by decide +kernel
theorem dX10_wordOf_58 : decode cX10_wordOf 58 = .ok (.getfield 26, 3) := by decide +kernel
theorem dX10_wordOf_61 : decode cX10_wordOf 61 = .ok (.aload_n 0, 1) := by decide +kernel
theorem dX10_wordOf_62 : decode cX10_wordOf 62 = .ok (.getfield 57, 3) := by decide +kernel
theorem dX10_wordOf_65 : decode cX10_wordOf 65 = .ok (.iconst 1, 1) := by decide +kernel
theorem dX10_wordOf_66 : decode cX10_wordOf 66 = .ok (.iadd, 1) := by decide +kernel
theorem dX10_wordOf_67 : decode cX10_wordOf 67 = .ok (.iaload, 1) := by decide +kernel
theorem dX10_wordOf_68 : decode cX10_wordOf 68 = .ok (.bipush 111, 2) := by decide +kernel
theorem dX10_wordOf_70 : decode cX10_wordOf 70 = .ok (.if_icmp .ne 24, 3) := by decide +kernel
theorem dX10_wordOf_73 : decode cX10_wordOf 73 = .ok (.aload_n 0, 1) := by decide +kernel
theorem dX10_wordOf_74 : decode cX10_wordOf 74 = .ok (.getfield 26, 3) := by decide +kernel
theorem dX10_wordOf_77 : decode cX10_wordOf 77 = .ok (.aload_n 0, 1) := by decide +kernel
theorem dX10_wordOf_78 : decode cX10_wordOf 78 = .ok (.getfield 57, 3) := by decide +kernel
theorem dX10_wordOf_81 : decode cX10_wordOf 81 = .ok (.iconst 2, 1) := by decide +kernel
theorem dX10_wordOf_82 : decode cX10_wordOf 82 = .ok (.iadd, 1) := by decide +kernel
theorem dX10_wordOf_83 : decode cX10_wordOf 83 = .ok (.iaload, 1) := by decide +kernel
theorem dX10_wordOf_84 : decode cX10_wordOf 84 = .ok (.bipush 116, 2) := by decide +kernel
theorem dX10_wordOf_86 : decode cX10_wordOf 86 = .ok (.if_icmp .ne 8, 3) := by decide +kernel
theorem dX10_wordOf_89 : decode cX10_wordOf 89 = .ok (.bipush 9, 2) := by decide +kernel
theorem dX10_wordOf_91 : decode cX10_wordOf 91 = .ok (.goto 5, 3) := by decide +kernel
theorem dX10_wordOf_94 : decode cX10_wordOf 94 = .ok (.bipush (-9), 2) := by decide +kernel
theorem dX10_wordOf_96 : decode cX10_wordOf 96 = .ok (.ireturn, 1) := by decide +kernel
theorem dX10_wordOf_97 : decode cX10_wordOf 97 = .ok (.iload_n 1, 1) := by decide +kernel
theorem dX10_wordOf_98 : decode cX10_wordOf 98 = .ok (.iconst 4, 1) := by decide +kernel
theorem dX10_wordOf_99 : decode cX10_wordOf 99 = .ok (.if_icmp .ne 62, 3) := by decide +kernel
theorem dX10_wordOf_102 : decode cX10_wordOf 102 = .ok (.iload_n 2, 1) := by decide +kernel
theorem dX10_wordOf_103 : decode cX10_wordOf 103 = .ok (.bipush 98, 2) := by decide +kernel
theorem dX10_wordOf_105 : decode cX10_wordOf 105 = .ok (.if_icmp .ne 56, 3) := by decide +kernel
theorem dX10_wordOf_108 : decode cX10_wordOf 108 = .ok (.aload_n 0, 1) := by decide +kernel
theorem dX10_wordOf_109 : decode cX10_wordOf 109 = .ok (.getfield 26, 3) := by decide +kernel
theorem dX10_wordOf_112 : decode cX10_wordOf 112 = .ok (.aload_n 0, 1) := by decide +kernel
theorem dX10_wordOf_113 : decode cX10_wordOf 113 = .ok (.getfield 57, 3) := by decide +kernel
theorem dX10_wordOf_116 : decode cX10_wordOf 116 = .ok (.iconst 1, 1) := by decide +kernel
theorem dX10_wordOf_117 : decode cX10_wordOf 117 = .ok (.iadd, 1) := by decide +kernel
theorem dX10_wordOf_118 : decode cX10_wordOf 118 = .ok (.iaload, 1) := by decide +kernel
theorem dX10_wordOf_119 : decode cX10_wordOf 119 = .ok (.bipush 105, 2) := by decide +kernel
theorem dX10_wordOf_121 : decode cX10_wordOf 121 = .ok (.if_icmp .ne 40, 3) := by decide +kernel
theorem dX10_wordOf_124 : decode cX10_wordOf 124 = .ok (.aload_n 0, 1) := by decide +kernel
theorem dX10_wordOf_125 : decode cX10_wordOf 125 = .ok (.getfield 26, 3) := by decide +kernel
theorem dX10_wordOf_128 : decode cX10_wordOf 128 = .ok (.aload_n 0, 1) := by decide +kernel
theorem dX10_wordOf_129 : decode cX10_wordOf 129 = .ok (.getfield 57, 3) := by decide +kernel
theorem dX10_wordOf_132 : decode cX10_wordOf 132 = .ok (.iconst 2, 1) := by decide +kernel
theorem dX10_wordOf_133 : decode cX10_wordOf 133 = .ok (.iadd, 1) := by decide +kernel
theorem dX10_wordOf_134 : decode cX10_wordOf 134 = .ok (.iaload, 1) := by decide +kernel
theorem dX10_wordOf_135 : decode cX10_wordOf 135 = .ok (.bipush 116, 2) := by decide +kernel
theorem dX10_wordOf_137 : decode cX10_wordOf 137 = .ok (.if_icmp .ne 24, 3) := by decide +kernel
theorem dX10_wordOf_140 : decode cX10_wordOf 140 = .ok (.aload_n 0, 1) := by decide +kernel
theorem dX10_wordOf_141 : decode cX10_wordOf 141 = .ok (.getfield 26, 3) := by decide +kernel
theorem dX10_wordOf_144 : decode cX10_wordOf 144 = .ok (.aload_n 0, 1) := by decide +kernel
theorem dX10_wordOf_145 : decode cX10_wordOf 145 = .ok (.getfield 57, 3) := by decide +kernel
theorem dX10_wordOf_148 : decode cX10_wordOf 148 = .ok (.iconst 3, 1) := by decide +kernel
theorem dX10_wordOf_149 : decode cX10_wordOf 149 = .ok (.iadd, 1) := by decide +kernel
theorem dX10_wordOf_150 : decode cX10_wordOf 150 = .ok (.iaload, 1) := by decide +kernel
theorem dX10_wordOf_151 : decode cX10_wordOf 151 = .ok (.bipush 115, 2) := by decide +kernel
theorem dX10_wordOf_153 : decode cX10_wordOf 153 = .ok (.if_icmp .ne 8, 3) := by decide +kernel
theorem dX10_wordOf_156 : decode cX10_wordOf 156 = .ok (.bipush 8, 2) := by decide +kernel
theorem dX10_wordOf_158 : decode cX10_wordOf 158 = .ok (.goto 5, 3) := by decide +kernel
theorem dX10_wordOf_161 : decode cX10_wordOf 161 = .ok (.bipush (-9), 2) := by decide +kernel
theorem dX10_wordOf_163 : decode cX10_wordOf 163 = .ok (.ireturn, 1) := by decide +kernel
theorem dX10_isSignCharacter_0 : decode cX10_isSignCharacter 0 = .ok (.iload_n 0, 1) := by decide +kernel
theorem dX10_isSignCharacter_1 : decode cX10_isSignCharacter 1 = .ok (.bipush 59, 2) := by decide +kernel
theorem dX10_isSignCharacter_3 : decode cX10_isSignCharacter 3 = .ok (.if_icmp .eq 39, 3) := by decide +kernel
theorem dX10_isSignCharacter_6 : decode cX10_isSignCharacter 6 = .ok (.iload_n 0, 1) := by decide +kernel
theorem dX10_isSignCharacter_7 : decode cX10_isSignCharacter 7 = .ok (.bipush 61, 2) := by decide +kernel
theorem dX10_isSignCharacter_9 : decode cX10_isSignCharacter 9 = .ok (.if_icmp .eq 33, 3) := by decide +kernel
theorem dX10_isSignCharacter_12 : decode cX10_isSignCharacter 12 = .ok (.iload_n 0, 1) := by decide +kernel
theorem dX10_isSignCharacter_13 : decode cX10_isSignCharacter 13 = .ok (.bipush 46, 2) := by decide +kernel
theorem dX10_isSignCharacter_15 : decode cX10_isSignCharacter 15 = .ok (.if_icmp .eq 27, 3) := by decide +kernel
theorem dX10_isSignCharacter_18 : decode cX10_isSignCharacter 18 = .ok (.iload_n 0, 1) := by decide +kernel
theorem dX10_isSignCharacter_19 : decode cX10_isSignCharacter 19 = .ok (.bipush 91, 2) := by decide +kernel
theorem dX10_isSignCharacter_21 : decode cX10_isSignCharacter 21 = .ok (.if_icmp .eq 21, 3) := by decide +kernel
theorem dX10_isSignCharacter_24 : decode cX10_isSignCharacter 24 = .ok (.iload_n 0, 1) := by decide +kernel
theorem dX10_isSignCharacter_25 : decode cX10_isSignCharacter 25 = .ok (.bipush 58, 2) := by decide +kernel
theorem dX10_isSignCharacter_27 : decode cX10_isSignCharacter 27 = .ok (.if_icmp .eq 15, 3) := by decide +kernel
theorem dX10_isSignCharacter_30 : decode cX10_isSignCharacter 30 = .ok (.iload_n 0, 1) := by decide +kernel
theorem dX10_isSignCharacter_31 : decode cX10_isSignCharacter 31 = .ok (.bipush 93, 2) := by decide +kernel
theorem dX10_isSignCharacter_33 : decode cX10_isSignCharacter 33 = .ok (.if_icmp .eq 9, 3) := by decide +kernel
theorem dX10_isSignCharacter_36 : decode cX10_isSignCharacter 36 = .ok (.iload_n 0, 1) := by decide +kernel
theorem dX10_isSignCharacter_37 : decode cX10_isSignCharacter 37 = .ok (.bipush 37, 2) := by decide +kernel
theorem dX10_isSignCharacter_39 : decode cX10_isSignCharacter 39 = .ok (.if_icmp .ne 7, 3) := by decide +kernel
theorem dX10_isSignCharacter_42 : decode cX10_isSignCharacter 42 = .ok (.iconst 1, 1) := by decide +kernel
theorem dX10_isSignCharacter_43 : decode cX10_isSignCharacter 43 = .ok (.goto 4, 3) := by decide +kernel
theorem dX10_isSignCharacter_46 : decode cX10_isSignCharacter 46 = .ok (.iconst 0, 1) := by decide +kernel
theorem dX10_isSignCharacter_47 : decode cX10_isSignCharacter 47 = .ok (.ireturn, 1) := by decide +kernel
theorem dX10_advance_0 : decode cX10_advance 0 = .ok (.aload_n 0, 1) := by decide +kernel
theorem dX10_advance_1 : decode cX10_advance 1 = .ok (.aload_n 0, 1) := by decide +kernel
theorem dX10_advance_2 : decode cX10_advance 2 = .ok (.getfield 54, 3) := by decide +kernel
theorem dX10_advance_5 : decode cX10_advance 5 = .ok (.invokevirtual 64, 3) := by decide +kernel
theorem dX10_advance_8 : decode cX10_advance 8 = .ok (.bipush 32, 2) := by decide +kernel
theorem dX10_advance_10 : decode cX10_advance 10 = .ok (.if_icmp .ne 16, 3) := by decide +kernel
theorem dX10_advance_13 : decode cX10_advance 13 = .ok (.aload_n 0, 1) := by decide +kernel
theorem dX10_advance_14 : decode cX10_advance 14 = .ok (.dup, 1) := by decide +kernel
theorem dX10_advance_15 : decode cX10_advance 15 = .ok (.getfield 54, 3) := by decide +kernel
theorem dX10_advance_18 : decode cX10_advance 18 = .ok (.iconst 1, 1) := by decide +kernel
theorem dX10_advance_19 : decode cX10_advance 19 = .ok (.iadd, 1) := by decide +kernel
theorem dX10_advance_20 : decode cX10_advance 20 = .ok (.putfield 54, 3) := by decide +kernel
theorem dX10_advance_23 : decode cX10_advance 23 = .ok (.goto (-23), 3) := by decide +kernel
theorem dX10_advance_26 : decode cX10_advance 26 = .ok (.aload_n 0, 1) := by decide +kernel
theorem dX10_advance_27 : decode cX10_advance 27 = .ok (.aload_n 0, 1) := by decide +kernel
theorem dX10_advance_28 : decode cX10_advance 28 = .ok (.getfield 54, 3) := by decide +kernel
theorem dX10_advance_31 : decode cX10_advance 31 = .ok (.putfield 57, 3) := by decide +kernel
theorem dX10_advance_34 : decode cX10_advance 34 = .ok (.aload_n 0, 1) := by decide +kernel
theorem dX10_advance_35 : decode cX10_advance 35 = .ok (.aload_n 0, 1) := by decide +kernel
theorem dX10_advance_36 : decode cX10_advance 36 = .ok (.getfield 54, 3) := by decide +kernel
theorem dX10_advance_39 : decode cX10_advance 39 = .ok (.invokevirtual 64, 3) := by decide +kernel
theorem dX10_advance_42 : decode cX10_advance 42 = .ok (.istore_n 1, 1) := by decide +kernel
theorem dX10_advance_43 : decode cX10_advance 43 = .ok (.aload_n 0, 1) := by decide +kernel
theorem dX10_advance_44 : decode cX10_advance 44 = .ok (.iload_n 1, 1) := by decide +kernel
theorem dX10_advance_45 : decode cX10_advance 45 = .ok (.putfield 68, 3) := by decide +kernel
theorem dX10_advance_48 : decode cX10_advance 48 = .ok (.iload_n 1, 1) := by decide +kernel
theorem dX10_advance_49 : decode cX10_advance 49 = .ok (.ifCond .ge 11, 3) := by decide +kernel
theorem dX10_advance_52 : decode cX10_advance 52 = .ok (.aload_n 0, 1) := by decide +kernel
theorem dX10_advance_53 : decode cX10_advance 53 = .ok (.iconst 0, 1) := by decide +kernel
theorem dX10_advance_54 : decode cX10_advance 54 = .ok (.putfield 71, 3) := by decide +kernel
theorem dX10_advance_57 : decode cX10_advance 57 = .ok (.goto 243, 3) := by decide +kernel
theorem dX10_advance_60 : decode cX10_advance 60 = .ok (.iload_n 1, 1) := by decide +kernel
theorem dX10_advance_61 : decode cX10_advance 61 = .ok (.bipush 97, 2) := by decide +kernel
theorem dX10_advance_63 : decode cX10_advance 63 = .ok (.bipush 122, 2) := by decide +kernel
