theorem dX8_init_109 : decode cX8_init 109 = .ok (.bipush 82, 2) := by decide +kernel
theorem dX8_init_111 : decode cX8_init 111 = .ok (.newarray .int, 2) := by decide +kernel
theorem dX8_init_113 : decode cX8_init 113 = .ok (.putfield 48, 3) := by decide +kernel
theorem dX8_init_116 : decode cX8_init 116 = .ok (.aload_n 0, 1) := by decide +kernel
theorem dX8_init_117 : decode cX8_init 117 = .ok (.sipush 3002, 3) := by decide +kernel
theorem dX8_init_120 : decode cX8_init 120 = .ok (.newarray .int, 2) := by decide +kernel
theorem dX8_init_122 : decode cX8_init 122 = .ok (.putfield 51, 3) := by decide +kernel
theorem dX8_init_125 : decode cX8_init 125 = .ok (.aload_n 0, 1) := by decide +kernel
theorem dX8_init_126 : decode cX8_init 126 = .ok (.sipush 3002, 3) := by decide +kernel
theorem dX8_init_129 : decode cX8_init 129 = .ok (.newarray .int, 2) := by decide +kernel
theorem dX8_init_131 : decode cX8_init 131 = .ok (.putfield 54, 3) := by decide +kernel
theorem dX8_init_134 : decode cX8_init 134 = .ok (.aload_n 0, 1) := by decide +kernel
theorem dX8_init_135 : decode cX8_init 135 = .ok (.sipush 3002, 3) := by decide +kernel
theorem dX8_init_138 : decode cX8_init 138 = .ok (.newarray .int, 2) := by decide +kernel
theorem dX8_init_140 : decode cX8_init 140 = .ok (.putfield 57, 3) := by decide +kernel
theorem dX8_init_143 : decode cX8_init 143 = .ok (.aload_n 0, 1) := by decide +kernel
theorem dX8_init_144 : decode cX8_init 144 = .ok (.sipush 3002, 3) := by decide +kernel
theorem dX8_init_147 : decode cX8_init 147 = .ok (.newarray .int, 2) := by decide +kernel
theorem dX8_init_149 : decode cX8_init 149 = .ok (.putfield 60, 3) := by decide +kernel
theorem dX8_init_152 : decode cX8_init 152 = .ok (.aload_n 0, 1) := by decide +kernel
theorem dX8_init_153 : decode cX8_init 153 = .ok (.sipush 3002, 3) := by decide +kernel
theorem dX8_init_156 : decode cX8_init 156 = .ok (.newarray .int, 2) := by decide +kernel
theorem dX8_init_158 : decode cX8_init 158 = .ok (.putfield 63, 3) := by decide +kernel
theorem dX8_init_161 : decode cX8_init 161 = .ok (.aload_n 0, 1) := by decide +kernel
theorem dX8_init_162 : decode cX8_init 162 = .ok (.bipush 82, 2) := by decide +kernel
theorem dX8_init_164 : decode cX8_init 164 = .ok (.newarray .int, 2) := by decide +kernel
theorem dX8_init_166 : decode cX8_init 166 = .ok (.putfield 66, 3) := by decide +kernel
theorem dX8_init_169 : decode cX8_init 169 = .ok (.aload_n 0, 1) := by decide +kernel
theorem dX8_init_170 : decode cX8_init 170 = .ok (.bipush 82, 2) := by decide +kernel
theorem dX8_init_172 : decode cX8_init 172 = .ok (.newarray .int, 2) := by decide +kernel
theorem dX8_init_174 : decode cX8_init 174 = .ok (.putfield 69, 3) := by decide +kernel
theorem dX8_init_177 : decode cX8_init 177 = .ok (.aload_n 0, 1) := by decide +kernel
theorem dX8_init_178 : decode cX8_init 178 = .ok (.bipush 82, 2) := by decide +kernel
theorem dX8_init_180 : decode cX8_init 180 = .ok (.newarray .int, 2) := by decide +kernel
theorem dX8_init_182 : decode cX8_init 182 = .ok (.putfield 72, 3) := by decide +kernel
theorem dX8_init_185 : decode cX8_init 185 = .ok (.aload_n 0, 1) := by decide +kernel
theorem dX8_init_186 : decode cX8_init 186 = .ok (.bipush 82, 2) := by decide +kernel
theorem dX8_init_188 : decode cX8_init 188 = .ok (.newarray .int, 2) := by decide +kernel
theorem dX8_init_190 : decode cX8_init 190 = .ok (.putfield 75, 3) := by decide +kernel
theorem dX8_init_193 : decode cX8_init 193 = .ok (.aload_n 0, 1) := by decide +kernel
theorem dX8_init_194 : decode cX8_init 194 = .ok (.sipush 8001, 3) := by decide +kernel
theorem dX8_init_197 : decode cX8_init 197 = .ok (.newarray .boolean, 2) := by decide +kernel
theorem dX8_init_199 : decode cX8_init 199 = .ok (.putfield 78, 3) := by decide +kernel
theorem dX8_init_202 : decode cX8_init 202 = .ok (.aload_n 0, 1) := by decide +kernel
theorem dX8_init_203 : decode cX8_init 203 = .ok (.sipush 8001, 3) := by decide +kernel
theorem dX8_init_206 : decode cX8_init 206 = .ok (.newarray .boolean, 2) := by decide +kernel
theorem dX8_init_208 : decode cX8_init 208 = .ok (.putfield 82, 3) := by decide +kernel
theorem dX8_init_211 : decode cX8_init 211 = .ok (.aload_n 0, 1) := by decide +kernel
theorem dX8_init_212 : decode cX8_init 212 = .ok (.sipush 601, 3) := by decide +kernel
theorem dX8_init_215 : decode cX8_init 215 = .ok (.newarray .boolean, 2) := by decide +kernel
theorem dX8_init_217 : decode cX8_init 217 = .ok (.putfield 85, 3) := by decide +kernel
theorem dX8_init_220 : decode cX8_init 220 = .ok (.return_, 1) := by decide +kernel
theorem dX8_isStatement_0 : decode cX8_isStatement 0 = .ok (.iload_n 1, 1) := by decide +kernel
theorem dX8_isStatement_1 : decode cX8_isStatement 1 = .ok (.ifCond .le 15, 3) := by decide +kernel
theorem dX8_isStatement_4 : decode cX8_isStatement 4 = .ok (.iload_n 1, 1) := by decide +kernel
theorem dX8_isStatement_5 : decode cX8_isStatement 5 = .ok (.aload_n 0, 1) := by decide +kernel
theorem dX8_isStatement_6 : decode cX8_isStatement 6 = .ok (.getfield 88, 3) := by decide +kernel
theorem dX8_isStatement_9 : decode cX8_isStatement 9 = .ok (.if_icmp .gt 7, 3) := by decide +kernel
theorem dX8_isStatement_12 : decode cX8_isStatement 12 = .ok (.iconst 1, 1) := by decide +kernel
theorem dX8_isStatement_13 : decode cX8_isStatement 13 = .ok (.goto 4, 3) := by decide +kernel
theorem dX8_isStatement_16 : decode cX8_isStatement 16 = .ok (.iconst 0, 1) := by decide +kernel
theorem dX8_isStatement_17 : decode cX8_isStatement 17 = .ok (.ireturn, 1) := by decide +kernel
theorem dX8_find_0 : decode cX8_find 0 = .ok (.iconst 1, 1) := by decide +kernel
theorem dX8_find_1 : decode cX8_find 1 = .ok (.istore 4, 2) := by decide +kernel
theorem dX8_find_3 : decode cX8_find 3 = .ok (.iload 4, 2) := by decide +kernel
theorem dX8_find_5 : decode cX8_find 5 = .ok (.aload_n 0, 1) := by decide +kernel
theorem dX8_find_6 : decode cX8_find 6 = .ok (.getfield 88, 3) := by decide +kernel
theorem dX8_find_9 : decode cX8_find 9 = .ok (.if_icmp .gt 42, 3) := by decide +kernel
theorem dX8_find_12 : decode cX8_find 12 = .ok (.aload_n 0, 1) := by decide +kernel
theorem dX8_find_13 : decode cX8_find 13 = .ok (.getfield 7, 3) := by decide +kernel
theorem dX8_find_16 : decode cX8_find 16 = .ok (.iload 4, 2) := by decide +kernel
theorem dX8_find_18 : decode cX8_find 18 = .ok (.iaload, 1) := by decide +kernel
theorem dX8_find_19 : decode cX8_find 19 = .ok (.iload_n 1, 1) := by decide +kernel
theorem dX8_find_20 : decode cX8_find 20 = .ok (.if_icmp .ne 25, 3) := by decide +kernel
theorem dX8_find_23 : decode cX8_find 23 = .ok (.aload_n 0, 1) := by decide +kernel
theorem dX8_find_24 : decode cX8_find 24 = .ok (.getfield 13, 3) := by decide +kernel
theorem dX8_find_27 : decode cX8_find 27 = .ok (.iload 4, 2) := by decide +kernel
theorem dX8_find_29 : decode cX8_find 29 = .ok (.iaload, 1) := by decide +kernel
theorem dX8_find_30 : decode cX8_find 30 = .ok (.iload_n 2, 1) := by decide +kernel
theorem dX8_find_31 : decode cX8_find 31 = .ok (.if_icmp .ne 14, 3) := by decide +kernel
theorem dX8_find_34 : decode cX8_find 34 = .ok (.aload_n 0, 1) := by decide +kernel
theorem dX8_find_35 : decode cX8_find 35 = .ok (.getfield 16, 3) := by decide +kernel
theorem dX8_find_38 : decode cX8_find 38 = .ok (.iload 4, 2) := by decide +kernel
theorem dX8_find_40 : decode cX8_find 40 = .ok (.iaload, 1) := by decide +kernel
theorem dX8_find_41 : decode cX8_find 41 = .ok (.iload_n 3, 1) := by decide +kernel
theorem dX8_find_42 : decode cX8_find 42 = .ok (.if_icmp .eq 9, 3) := by decide +kernel
theorem dX8_find_45 : decode cX8_find 45 = .ok (.iinc 4 1, 3) := by decide +kernel
theorem dX8_find_48 : decode cX8_find 48 = .ok (.goto (-45), 3) := by decide +kernel
theorem dX8_find_51 : decode cX8_find 51 = .ok (.iload 4, 2) := by decide +kernel
theorem dX8_find_53 : decode cX8_find 53 = .ok (.ireturn, 1) := by decide +kernel
theorem dX8_make_0 : decode cX8_make 0 = .ok (.aload_n 0, 1) := by decide +kernel
theorem dX8_make_1 : decode cX8_make 1 = .ok (.iload_n 1, 1) := by decide +kernel
theorem dX8_make_2 : decode cX8_make 2 = .ok (.iload_n 2, 1) := by decide +kernel
theorem dX8_make_3 : decode cX8_make 3 = .ok (.iload_n 3, 1) := by decide +kernel
theorem dX8_make_4 : decode cX8_make 4 = .ok (.invokevirtual 92, 3) := by decide +kernel
theorem dX8_make_7 : decode cX8_make 7 = .ok (.istore 4, 2) := by decide +kernel
theorem dX8_make_9 : decode cX8_make 9 = .ok (.iload 4, 2) := by decide +kernel
theorem dX8_make_11 : decode cX8_make 11 = .ok (.aload_n 0, 1) := by decide +kernel
theorem dX8_make_12 : decode cX8_make 12 = .ok (.getfield 88, 3) := by decide +kernel
theorem dX8_make_15 : decode cX8_make 15 = .ok (.if_icmp .gt 6, 3) := by decide +kernel
theorem dX8_make_18 : decode cX8_make 18 = .ok (.iload 4, 2) := by decide +kernel
theorem dX8_make_20 : decode cX8_make 20 = .ok (.ireturn, 1) := by decide +kernel
theorem dX8_make_21 : decode cX8_make 21 = .ok (.aload_n 0, 1) := by decide +kernel
theorem dX8_make_22 : decode cX8_make 22 = .ok (.getfield 88, 3) := by decide +kernel
theorem dX8_make_25 : decode cX8_make 25 = .ok (.sipush 600, 3) := by decide +kernel
theorem dX8_make_28 : decode cX8_make 28 = .ok (.if_icmp .ne 6, 3) := by decide +kernel
theorem dX8_make_31 : decode cX8_make 31 = .ok (.bipush (-3), 2) := by decide +kernel
theorem dX8_make_33 : decode cX8_make 33 = .ok (.ireturn, 1) := by decide +kernel
theorem dX8_make_34 : decode cX8_make 34 = .ok (.aload_n 0, 1) := by decide +kernel
theorem dX8_make_35 : decode cX8_make 35 = .ok (.dup, 1) := by decide +kernel
theorem dX8_make_36 : decode cX8_make 36 = .ok (.getfield 88, 3) := by decide +kernel
theorem dX8_make_39 : decode cX8_make 39 = .ok (.iconst 1, 1) := by decide +kernel
theorem dX8_make_40 : decode cX8_make 40 = .ok (.iadd, 1) := by decide +kernel
theorem dX8_make_41 : decode cX8_make 41 = .ok (.putfield 88, 3) := by decide +kernel
theorem dX8_make_44 : decode cX8_make 44 = .ok (.aload_n 0, 1) := by decide +kernel
theorem dX8_make_45 : decode cX8_make 45 = .ok (.getfield 7, 3) := by decide +kernel
theorem dX8_make_48 : decode cX8_make 48 = .ok (.iload 4, 2) := by decide +kernel
theorem dX8_make_50 : decode cX8_make 50 = .ok (.iload_n 1, 1) := by decide +kernel
theorem dX8_make_51 : decode cX8_make 51 = .ok (.iastore, 1) := by decide +kernel
theorem dX8_make_52 : decode cX8_make 52 = .ok (.aload_n 0, 1) := by decide +kernel
theorem dX8_make_53 : decode cX8_make 53 = .ok (.getfield 13, 3) := by decide +kernel
theorem dX8_make_56 : decode cX8_make 56 = .ok (.iload 4, 2) := by decide +kernel
theorem dX8_make_58 : decode cX8_make 58 = .ok (.iload_n 2, 1) := by decide +kernel
theorem dX8_make_59 : decode cX8_make 59 = .ok (.iastore, 1) := by decide +kernel
theorem dX8_make_60 : decode cX8_make 60 = .ok (.aload_n 0, 1) := by decide +kernel
theorem dX8_make_61 : decode cX8_make 61 = .ok (.getfield 16, 3) := by decide +kernel
theorem dX8_make_64 : decode cX8_make 64 = .ok (.iload 4, 2) := by decide +kernel
theorem dX8_make_66 : decode cX8_make 66 = .ok (.iload_n 3, 1) := by decide +kernel
theorem dX8_make_67 : decode cX8_make 67 = .ok (.iastore, 1) := by decide +kernel
theorem dX8_make_68 : decode cX8_make 68 = .ok (.iload 4, 2) := by decide +kernel
theorem dX8_make_70 : decode cX8_make 70 = .ok (.ireturn, 1) := by decide +kernel
theorem dX8_atom_0 : decode cX8_atom 0 = .ok (.iload_n 1, 1) := by decide +kernel
theorem dX8_atom_1 : decode cX8_atom 1 = .ok (.ifCond .lt 9, 3) := by decide +kernel
theorem dX8_atom_4 : decode cX8_atom 4 = .ok (.iload_n 1, 1) := by decide +kernel
theorem dX8_atom_5 : decode cX8_atom 5 = .ok (.bipush 31, 2) := by decide +kernel
theorem dX8_atom_7 : decode cX8_atom 7 = .ok (.if_icmp .le 7, 3) := by decide +kernel
theorem dX8_atom_10 : decode cX8_atom 10 = .ok (.iconst (-1), 1) := by decide +kernel
theorem dX8_atom_11 : decode cX8_atom 11 = .ok (.goto 10, 3) := by decide +kernel
theorem dX8_atom_14 : decode cX8_atom 14 = .ok (.aload_n 0, 1) := by decide +kernel
theorem dX8_atom_15 : decode cX8_atom 15 = .ok (.iconst 0, 1) := by decide +kernel
theorem dX8_atom_16 : decode cX8_atom 16 = .ok (.iload_n 1, 1) := by decide +kernel
theorem dX8_atom_17 : decode cX8_atom 17 = .ok (.iconst 0, 1) := by decide +kernel
theorem dX8_atom_18 : decode cX8_atom 18 = .ok (.invokevirtual 96, 3) := by decide +kernel
theorem dX8_atom_21 : decode cX8_atom 21 = .ok (.ireturn, 1) := by decide +kernel
theorem dX8_falsehood_0 : decode cX8_falsehood 0 = .ok (.aload_n 0, 1) := by decide +kernel
theorem dX8_falsehood_1 : decode cX8_falsehood 1 = .ok (.iconst 1, 1) := by decide +kernel
theorem dX8_falsehood_2 : decode cX8_falsehood 2 = .ok (.iconst 0, 1) := by decide +kernel
theorem dX8_falsehood_3 : decode cX8_falsehood 3 = .ok (.iconst 0, 1) := by decide +kernel
theorem dX8_falsehood_4 : decode cX8_falsehood 4 = .ok (.invokevirtual 96, 3) := by decide +kernel
theorem dX8_falsehood_7 : decode cX8_falsehood 7 = .ok (.ireturn, 1) := by decide +kernel
theorem dX8_join_0 : decode cX8_join 0 = .ok (.iload_n 1, 1) := by decide +kernel
theorem dX8_join_1 : decode cX8_join 1 = .ok (.iconst 2, 1) := by decide +kernel
theorem dX8_join_2 : decode cX8_join 2 = .ok (.if_icmp .lt 24, 3) := by decide +kernel
theorem dX8_join_5 : decode cX8_join 5 = .ok (.iload_n 1, 1) := by decide +kernel
theorem dX8_join_6 : decode cX8_join 6 = .ok (.iconst 4, 1) := by decide +kernel
theorem dX8_join_7 : decode cX8_join 7 = .ok (.if_icmp .gt 19, 3) := by decide +kernel
theorem dX8_join_10 : decode cX8_join 10 = .ok (.aload_n 0, 1) := by decide +kernel
theorem dX8_join_11 : decode cX8_join 11 = .ok (.iload_n 2, 1) := by decide +kernel
theorem dX8_join_12 : decode cX8_join 12 = .ok (.invokevirtual 99, 3) := by decide +kernel
theorem dX8_join_15 : decode cX8_join 15 = .ok (.ifCond .eq 11, 3) := by decide +kernel
theorem dX8_join_18 : decode cX8_join 18 = .ok (.aload_n 0, 1) := by decide +kernel
theorem dX8_join_19 : decode cX8_join 19 = .ok (.iload_n 3, 1) := by decide +kernel
theorem dX8_join_20 : decode cX8_join 20 = .ok (.invokevirtual 99, 3) := by decide +kernel
theorem dX8_join_23 : decode cX8_join 23 = .ok (.ifCond .ne 7, 3) := by decide +kernel
theorem dX8_join_26 : decode cX8_join 26 = .ok (.iconst (-1), 1) := by decide +kernel
theorem dX8_join_27 : decode cX8_join 27 = .ok (.goto 10, 3) := by decide +kernel
theorem dX8_join_30 : decode cX8_join 30 = .ok (.aload_n 0, 1) := by decide +kernel
theorem dX8_join_31 : decode cX8_join 31 = .ok (.iload_n 1, 1) := by decide +kernel
theorem dX8_join_32 : decode cX8_join 32 = .ok (.iload_n 2, 1) := by decide +kernel
theorem dX8_join_33 : decode cX8_join 33 = .ok (.iload_n 3, 1) := by decide +kernel
theorem dX8_join_34 : decode cX8_join 34 = .ok (.invokevirtual 96, 3) := by decide +kernel
theorem dX8_join_37 : decode cX8_join 37 = .ok (.ireturn, 1) := by decide +kernel
theorem dX8_told_0 : decode cX8_told 0 = .ok (.aload_n 0, 1) := by decide +kernel
theorem dX8_told_1 : decode cX8_told 1 = .ok (.iload_n 1, 1) := by decide +kernel
theorem dX8_told_2 : decode cX8_told 2 = .ok (.invokevirtual 99, 3) := by decide +kernel
theorem dX8_told_5 : decode cX8_told 5 = .ok (.ifCond .ne 5, 3) := by decide +kernel
theorem dX8_told_8 : decode cX8_told 8 = .ok (.iconst (-1), 1) := by decide +kernel
theorem dX8_told_9 : decode cX8_told 9 = .ok (.ireturn, 1) := by decide +kernel
theorem dX8_told_10 : decode cX8_told 10 = .ok (.iload_n 2, 1) := by decide +kernel
theorem dX8_told_11 : decode cX8_told 11 = .ok (.ifCond .ne 12, 3) := by decide +kernel
theorem dX8_told_14 : decode cX8_told 14 = .ok (.aload_n 0, 1) := by decide +kernel
theorem dX8_told_15 : decode cX8_told 15 = .ok (.getfield 7, 3) := by decide +kernel
theorem dX8_told_18 : decode cX8_told 18 = .ok (.iload_n 1, 1) := by decide +kernel
theorem dX8_told_19 : decode cX8_told 19 = .ok (.iaload, 1) := by decide +kernel
theorem dX8_told_20 : decode cX8_told 20 = .ok (.goto 32, 3) := by decide +kernel
theorem dX8_told_23 : decode cX8_told 23 = .ok (.iload_n 2, 1) := by decide +kernel
theorem dX8_told_24 : decode cX8_told 24 = .ok (.iconst 1, 1) := by decide +kernel
theorem dX8_told_25 : decode cX8_told 25 = .ok (.if_icmp .ne 12, 3) := by decide +kernel
theorem dX8_told_28 : decode cX8_told 28 = .ok (.aload_n 0, 1) := by decide +kernel
theorem dX8_told_29 : decode cX8_told 29 = .ok (.getfield 13, 3) := by decide +kernel
theorem dX8_told_32 : decode cX8_told 32 = .ok (.iload_n 1, 1) := by decide +kernel
theorem dX8_told_33 : decode cX8_told 33 = .ok (.iaload, 1) := by decide +kernel
theorem dX8_told_34 : decode cX8_told 34 = .ok (.goto 18, 3) := by decide +kernel
theorem dX8_told_37 : decode cX8_told 37 = .ok (.iload_n 2, 1) := by decide +kernel
theorem dX8_told_38 : decode cX8_told 38 = .ok (.iconst 2, 1) := by decide +kernel
theorem dX8_told_39 : decode cX8_told 39 = .ok (.if_icmp .ne 12, 3) := by decide +kernel
theorem dX8_told_42 : decode cX8_told 42 = .ok (.aload_n 0, 1) := by decide +kernel
theorem dX8_told_43 : decode cX8_told 43 = .ok (.getfield 16, 3) := by decide +kernel
theorem dX8_told_46 : decode cX8_told 46 = .ok (.iload_n 1, 1) := by decide +kernel
theorem dX8_told_47 : decode cX8_told 47 = .ok (.iaload, 1) := by decide +kernel
theorem dX8_told_48 : decode cX8_told 48 = .ok (.goto 4, 3) := by decide +kernel
theorem dX8_told_51 : decode cX8_told 51 = .ok (.iconst (-1), 1) := by decide +kernel
theorem dX8_told_52 : decode cX8_told 52 = .ok (.ireturn, 1) := by decide +kernel
theorem dX8_statements_0 : decode cX8_statements 0 = .ok (.aload_n 0, 1) := by decide +kernel
theorem dX8_statements_1 : decode cX8_statements 1 = .ok (.getfield 88, 3) := by decide +kernel
theorem dX8_statements_4 : decode cX8_statements 4 = .ok (.ireturn, 1) := by decide +kernel
theorem dX8_nodes_0 : decode cX8_nodes 0 = .ok (.aload_n 0, 1) := by decide +kernel
theorem dX8_nodes_1 : decode cX8_nodes 1 = .ok (.getfield 103, 3) := by decide +kernel
theorem dX8_nodes_4 : decode cX8_nodes 4 = .ok (.ireturn, 1) := by decide +kernel
theorem dX8_implication_0 : decode cX8_implication 0 = .ok (.aload_n 0, 1) := by decide +kernel
theorem dX8_implication_1 : decode cX8_implication 1 = .ok (.getfield 106, 3) := by decide +kernel
theorem dX8_implication_4 : decode cX8_implication 4 = .ok (.ifCond .eq 5, 3) := by decide +kernel
theorem dX8_implication_7 : decode cX8_implication 7 = .ok (.iconst 0, 1) := by decide +kernel
theorem dX8_implication_8 : decode cX8_implication 8 = .ok (.ireturn, 1) := by decide +kernel
theorem dX8_implication_9 : decode cX8_implication 9 = .ok (.aload_n 0, 1) := by decide +kernel
theorem dX8_implication_10 : decode cX8_implication 10 = .ok (.iconst 4, 1) := by decide +kernel
theorem dX8_implication_11 : decode cX8_implication 11 = .ok (.iload_n 1, 1) := by decide +kernel
theorem dX8_implication_12 : decode cX8_implication 12 = .ok (.iload_n 2, 1) := by decide +kernel
theorem dX8_implication_13 : decode cX8_implication 13 = .ok (.invokevirtual 96, 3) := by decide +kernel
theorem dX8_implication_16 : decode cX8_implication 16 = .ok (.istore_n 3, 1) := by decide +kernel
theorem dX8_implication_17 : decode cX8_implication 17 = .ok (.iload_n 3, 1) := by decide +kernel
theorem dX8_implication_18 : decode cX8_implication 18 = .ok (.bipush (-3), 2) := by decide +kernel
theorem dX8_implication_20 : decode cX8_implication 20 = .ok (.if_icmp .ne 9, 3) := by decide +kernel
theorem dX8_implication_23 : decode cX8_implication 23 = .ok (.aload_n 0, 1) := by decide +kernel
theorem dX8_implication_24 : decode cX8_implication 24 = .ok (.bipush (-3), 2) := by decide +kernel
theorem dX8_implication_26 : decode cX8_implication 26 = .ok (.putfield 106, 3) := by decide +kernel
theorem dX8_implication_29 : decode cX8_implication 29 = .ok (.iload_n 3, 1) := by decide +kernel
theorem dX8_implication_30 : decode cX8_implication 30 = .ok (.bipush (-3), 2) := by decide +kernel
theorem dX8_implication_32 : decode cX8_implication 32 = .ok (.if_icmp .ne 7, 3) := by decide +kernel
theorem dX8_implication_35 : decode cX8_implication 35 = .ok (.iconst 0, 1) := by decide +kernel
theorem dX8_implication_36 : decode cX8_implication 36 = .ok (.goto 4, 3) := by decide +kernel
theorem dX8_implication_39 : decode cX8_implication 39 = .ok (.iload_n 3, 1) := by decide +kernel
theorem dX8_implication_40 : decode cX8_implication 40 = .ok (.ireturn, 1) := by decide +kernel
theorem dX8_has_0 : decode cX8_has 0 = .ok (.iload_n 2, 1) := by decide +kernel
theorem dX8_has_1 : decode cX8_has 1 = .ok (.ifCond .le 33, 3) := by decide +kernel
theorem dX8_has_4 : decode cX8_has 4 = .ok (.iload_n 2, 1) := by decide +kernel
theorem dX8_has_5 : decode cX8_has 5 = .ok (.aload_n 0, 1) := by decide +kernel
theorem dX8_has_6 : decode cX8_has 6 = .ok (.getfield 88, 3) := by decide +kernel
theorem dX8_has_9 : decode cX8_has 9 = .ok (.if_icmp .gt 25, 3) := by decide +kernel
theorem dX8_has_12 : decode cX8_has 12 = .ok (.aload_n 0, 1) := by decide +kernel
theorem dX8_has_13 : decode cX8_has 13 = .ok (.getfield 35, 3) := by decide +kernel
theorem dX8_has_16 : decode cX8_has 16 = .ok (.sipush 600, 3) := by decide +kernel
theorem dX8_has_19 : decode cX8_has 19 = .ok (.iload_n 1, 1) := by decide +kernel
theorem dX8_has_20 : decode cX8_has 20 = .ok (.imul, 1) := by decide +kernel
theorem dX8_has_21 : decode cX8_has 21 = .ok (.iload_n 2, 1) := by decide +kernel
theorem dX8_has_22 : decode cX8_has 22 = .ok (.iadd, 1) := by decide +kernel
theorem dX8_has_23 : decode cX8_has 23 = .ok (.iconst 1, 1) := by decide +kernel
theorem dX8_has_24 : decode cX8_has 24 = .ok (.isub, 1) := by decide +kernel
theorem dX8_has_25 : decode cX8_has 25 = .ok (.baload, 1) := by decide +kernel
theorem dX8_has_26 : decode cX8_has 26 = .ok (.iconst 1, 1) := by decide +kernel
theorem dX8_has_27 : decode cX8_has 27 = .ok (.if_icmp .ne 7, 3) := by decide +kernel
theorem dX8_has_30 : decode cX8_has 30 = .ok (.iconst 1, 1) := by decide +kernel
theorem dX8_has_31 : decode cX8_has 31 = .ok (.goto 4, 3) := by decide +kernel
theorem dX8_has_34 : decode cX8_has 34 = .ok (.iconst 0, 1) := by decide +kernel
theorem dX8_has_35 : decode cX8_has 35 = .ok (.ireturn, 1) := by decide +kernel
theorem dX8_set_0 : decode cX8_set 0 = .ok (.iload_n 2, 1) := by decide +kernel
theorem dX8_set_1 : decode cX8_set 1 = .ok (.ifCond .le 19, 3) := by decide +kernel
theorem dX8_set_4 : decode cX8_set 4 = .ok (.aload_n 0, 1) := by decide +kernel
theorem dX8_set_5 : decode cX8_set 5 = .ok (.getfield 35, 3) := by decide +kernel
theorem dX8_set_8 : decode cX8_set 8 = .ok (.sipush 600, 3) := by decide +kernel
theorem dX8_set_11 : decode cX8_set 11 = .ok (.iload_n 1, 1) := by decide +kernel
theorem dX8_set_12 : decode cX8_set 12 = .ok (.imul, 1) := by decide +kernel
theorem dX8_set_13 : decode cX8_set 13 = .ok (.iload_n 2, 1) := by decide +kernel
theorem dX8_set_14 : decode cX8_set 14 = .ok (.iadd, 1) := by decide +kernel
theorem dX8_set_15 : decode cX8_set 15 = .ok (.iconst 1, 1) := by decide +kernel
theorem dX8_set_16 : decode cX8_set 16 = .ok (.isub, 1) := by decide +kernel
theorem dX8_set_17 : decode cX8_set 17 = .ok (.iload_n 3, 1) := by decide +kernel
theorem dX8_set_18 : decode cX8_set 18 = .ok (.i2b, 1) := by decide +kernel
theorem dX8_set_19 : decode cX8_set 19 = .ok (.bastore, 1) := by decide +kernel
theorem dX8_set_20 : decode cX8_set 20 = .ok (.return_, 1) := by decide +kernel
theorem dX8_open_0 : decode cX8_open 0 = .ok (.iconst 0, 1) := by decide +kernel
theorem dX8_open_1 : decode cX8_open 1 = .ok (.istore_n 2, 1) := by decide +kernel
theorem dX8_open_2 : decode cX8_open 2 = .ok (.iload_n 2, 1) := by decide +kernel
theorem dX8_open_3 : decode cX8_open 3 = .ok (.sipush 600, 3) := by decide +kernel
theorem dX8_open_6 : decode cX8_open 6 = .ok (.if_icmp .ge 41, 3) := by decide +kernel
theorem dX8_open_9 : decode cX8_open 9 = .ok (.aload_n 0, 1) := by decide +kernel
theorem dX8_open_10 : decode cX8_open 10 = .ok (.getfield 35, 3) := by decide +kernel
theorem dX8_open_13 : decode cX8_open 13 = .ok (.sipush 600, 3) := by decide +kernel
theorem dX8_open_16 : decode cX8_open 16 = .ok (.aload_n 0, 1) := by decide +kernel
theorem dX8_open_17 : decode cX8_open 17 = .ok (.getfield 109, 3) := by decide +kernel
theorem dX8_open_20 : decode cX8_open 20 = .ok (.iconst 1, 1) := by decide +kernel
theorem dX8_open_21 : decode cX8_open 21 = .ok (.iadd, 1) := by decide +kernel
theorem dX8_open_22 : decode cX8_open 22 = .ok (.imul, 1) := by decide +kernel
theorem dX8_open_23 : decode cX8_open 23 = .ok (.iload_n 2, 1) := by decide +kernel
theorem dX8_open_24 : decode cX8_open 24 = .ok (.iadd, 1) := by decide +kernel
theorem dX8_open_25 : decode cX8_open 25 = .ok (.aload_n 0, 1) := by decide +kernel
theorem dX8_open_26 : decode cX8_open 26 = .ok (.getfield 35, 3) := by decide +kernel
theorem dX8_open_29 : decode cX8_open 29 = .ok (.sipush 600, 3) := by decide +kernel
theorem dX8_open_32 : decode cX8_open 32 = .ok (.aload_n 0, 1) := by decide +kernel
theorem dX8_open_33 : decode cX8_open 33 = .ok (.getfield 109, 3) := by decide +kernel
theorem dX8_open_36 : decode cX8_open 36 = .ok (.imul, 1) := by decide +kernel
theorem dX8_open_37 : decode cX8_open 37 = .ok (.iload_n 2, 1) := by decide +kernel
theorem dX8_open_38 : decode cX8_open 38 = .ok (.iadd, 1) := by decide +kernel
theorem dX8_open_39 : decode cX8_open 39 = .ok (.baload, 1) := by decide +kernel
theorem dX8_open_40 : decode cX8_open 40 = .ok (.bastore, 1) := by decide +kernel
theorem dX8_open_41 : decode cX8_open 41 = .ok (.iinc 2 1, 3) := by decide +kernel
theorem dX8_open_44 : decode cX8_open 44 = .ok (.goto (-42), 3) := by decide +kernel
theorem dX8_open_47 : decode cX8_open 47 = .ok (.aload_n 0, 1) := by decide +kernel
theorem dX8_open_48 : decode cX8_open 48 = .ok (.getfield 39, 3) := by decide +kernel
theorem dX8_open_51 : decode cX8_open 51 = .ok (.aload_n 0, 1) := by decide +kernel
theorem dX8_open_52 : decode cX8_open 52 = .ok (.getfield 109, 3) := by decide +kernel
theorem dX8_open_55 : decode cX8_open 55 = .ok (.iconst 1, 1) := by decide +kernel
theorem dX8_open_56 : decode cX8_open 56 = .ok (.iadd, 1) := by decide +kernel
theorem dX8_open_57 : decode cX8_open 57 = .ok (.iload_n 1, 1) := by decide +kernel
theorem dX8_open_58 : decode cX8_open 58 = .ok (.iastore, 1) := by decide +kernel
theorem dX8_open_59 : decode cX8_open 59 = .ok (.return_, 1) := by decide +kernel
theorem dX8_enter_0 : decode cX8_enter 0 = .ok (.aload_n 0, 1) := by decide +kernel
theorem dX8_enter_1 : decode cX8_enter 1 = .ok (.getfield 106, 3) := by decide +kernel
theorem dX8_enter_4 : decode cX8_enter 4 = .ok (.ifCond .eq 4, 3) := by decide +kernel
theorem dX8_enter_7 : decode cX8_enter 7 = .ok (.return_, 1) := by decide +kernel
theorem dX8_enter_8 : decode cX8_enter 8 = .ok (.aload_n 0, 1) := by decide +kernel
theorem dX8_enter_9 : decode cX8_enter 9 = .ok (.getfield 109, 3) := by decide +kernel
theorem dX8_enter_12 : decode cX8_enter 12 = .ok (.bipush 80, 2) := by decide +kernel
theorem dX8_enter_14 : decode cX8_enter 14 = .ok (.if_icmp .eq 11, 3) := by decide +kernel
theorem dX8_enter_17 : decode cX8_enter 17 = .ok (.aload_n 0, 1) := by decide +kernel
theorem dX8_enter_18 : decode cX8_enter 18 = .ok (.getfield 112, 3) := by decide +kernel
theorem dX8_enter_21 : decode cX8_enter 21 = .ok (.iload_n 1, 1) := by decide +kernel
theorem dX8_enter_22 : decode cX8_enter 22 = .ok (.if_icmp .ne 10, 3) := by decide +kernel
theorem dX8_enter_25 : decode cX8_enter 25 = .ok (.aload_n 0, 1) := by decide +kernel
theorem dX8_enter_26 : decode cX8_enter 26 = .ok (.bipush (-4), 2) := by decide +kernel
theorem dX8_enter_28 : decode cX8_enter 28 = .ok (.putfield 106, 3) := by decide +kernel
theorem dX8_enter_31 : decode cX8_enter 31 = .ok (.return_, 1) := by decide +kernel
theorem dX8_enter_32 : decode cX8_enter 32 = .ok (.aload_n 0, 1) := by decide +kernel
theorem dX8_enter_33 : decode cX8_enter 33 = .ok (.dup, 1) := by decide +kernel
theorem dX8_enter_34 : decode cX8_enter 34 = .ok (.getfield 112, 3) := by decide +kernel
theorem dX8_enter_37 : decode cX8_enter 37 = .ok (.iconst 1, 1) := by decide +kernel
theorem dX8_enter_38 : decode cX8_enter 38 = .ok (.iadd, 1) := by decide +kernel
theorem dX8_enter_39 : decode cX8_enter 39 = .ok (.putfield 112, 3) := by decide +kernel
theorem dX8_enter_42 : decode cX8_enter 42 = .ok (.aload_n 0, 1) := by decide +kernel
theorem dX8_enter_43 : decode cX8_enter 43 = .ok (.dup, 1) := by decide +kernel
theorem dX8_enter_44 : decode cX8_enter 44 = .ok (.getfield 109, 3) := by decide +kernel
theorem dX8_enter_47 : decode cX8_enter 47 = .ok (.iconst 1, 1) := by decide +kernel
theorem dX8_enter_48 : decode cX8_enter 48 = .ok (.iadd, 1) := by decide +kernel
theorem dX8_enter_49 : decode cX8_enter 49 = .ok (.putfield 109, 3) := by decide +kernel
theorem dX8_enter_52 : decode cX8_enter 52 = .ok (.aload_n 0, 1) := by decide +kernel
theorem dX8_enter_53 : decode cX8_enter 53 = .ok (.getfield 42, 3) := by decide +kernel
theorem dX8_enter_56 : decode cX8_enter 56 = .ok (.aload_n 0, 1) := by decide +kernel
theorem dX8_enter_57 : decode cX8_enter 57 = .ok (.getfield 109, 3) := by decide +kernel
theorem dX8_enter_60 : decode cX8_enter 60 = .ok (.aload_n 0, 1) := by decide +kernel
theorem dX8_enter_61 : decode cX8_enter 61 = .ok (.getfield 112, 3) := by decide +kernel
theorem dX8_enter_64 : decode cX8_enter 64 = .ok (.iastore, 1) := by decide +kernel
theorem dX8_enter_65 : decode cX8_enter 65 = .ok (.aload_n 0, 1) := by decide +kernel
theorem dX8_enter_66 : decode cX8_enter 66 = .ok (.getfield 45, 3) := by decide +kernel
theorem dX8_enter_69 : decode cX8_enter 69 = .ok (.aload_n 0, 1) := by decide +kernel
theorem dX8_enter_70 : decode cX8_enter 70 = .ok (.getfield 109, 3) := by decide +kernel
theorem dX8_enter_73 : decode cX8_enter 73 = .ok (.iconst 0, 1) := by decide +kernel
theorem dX8_enter_74 : decode cX8_enter 74 = .ok (.iastore, 1) := by decide +kernel
theorem dX8_enter_75 : decode cX8_enter 75 = .ok (.aload_n 0, 1) := by decide +kernel
theorem dX8_enter_76 : decode cX8_enter 76 = .ok (.getfield 48, 3) := by decide +kernel
theorem dX8_enter_79 : decode cX8_enter 79 = .ok (.aload_n 0, 1) := by decide +kernel
theorem dX8_enter_80 : decode cX8_enter 80 = .ok (.getfield 109, 3) := by decide +kernel
theorem dX8_enter_83 : decode cX8_enter 83 = .ok (.iconst 0, 1) := by decide +kernel
theorem dX8_enter_84 : decode cX8_enter 84 = .ok (.iastore, 1) := by decide +kernel
theorem dX8_enter_85 : decode cX8_enter 85 = .ok (.aload_n 0, 1) := by decide +kernel
theorem dX8_enter_86 : decode cX8_enter 86 = .ok (.getfield 51, 3) := by decide +kernel
theorem dX8_enter_89 : decode cX8_enter 89 = .ok (.aload_n 0, 1) := by decide +kernel
theorem dX8_enter_90 : decode cX8_enter 90 = .ok (.getfield 112, 3) := by decide +kernel
theorem dX8_enter_93 : decode cX8_enter 93 = .ok (.iconst 0, 1) := by decide +kernel
theorem dX8_enter_94 : decode cX8_enter 94 = .ok (.iastore, 1) := by decide +kernel
theorem dX8_enter_95 : decode cX8_enter 95 = .ok (.aload_n 0, 1) := by decide +kernel
theorem dX8_enter_96 : decode cX8_enter 96 = .ok (.getfield 57, 3) := by decide +kernel
theorem dX8_enter_99 : decode cX8_enter 99 = .ok (.aload_n 0, 1) := by decide +kernel
theorem dX8_enter_100 : decode cX8_enter 100 = .ok (.getfield 112, 3) := by decide +kernel
theorem dX8_enter_103 : decode cX8_enter 103 = .ok (.aload_n 0, 1) := by decide +kernel
theorem dX8_enter_104 : decode cX8_enter 104 = .ok (.getfield 39, 3) := by decide +kernel
theorem dX8_enter_107 : decode cX8_enter 107 = .ok (.aload_n 0, 1) := by decide +kernel
theorem dX8_enter_108 : decode cX8_enter 108 = .ok (.getfield 109, 3) := by decide +kernel
theorem dX8_enter_111 : decode cX8_enter 111 = .ok (.iaload, 1) := by decide +kernel
theorem dX8_enter_112 : decode cX8_enter 112 = .ok (.iastore, 1) := by decide +kernel
theorem dX8_enter_113 : decode cX8_enter 113 = .ok (.aload_n 0, 1) := by decide +kernel
theorem dX8_enter_114 : decode cX8_enter 114 = .ok (.getfield 60, 3) := by decide +kernel
theorem dX8_enter_117 : decode cX8_enter 117 = .ok (.aload_n 0, 1) := by decide +kernel
theorem dX8_enter_118 : decode cX8_enter 118 = .ok (.getfield 112, 3) := by decide +kernel
theorem dX8_enter_121 : decode cX8_enter 121 = .ok (.iconst 0, 1) := by decide +kernel
theorem dX8_enter_122 : decode cX8_enter 122 = .ok (.iastore, 1) := by decide +kernel
theorem dX8_enter_123 : decode cX8_enter 123 = .ok (.aload_n 0, 1) := by decide +kernel
theorem dX8_enter_124 : decode cX8_enter 124 = .ok (.getfield 63, 3) := by decide +kernel
theorem dX8_enter_127 : decode cX8_enter 127 = .ok (.aload_n 0, 1) := by decide +kernel
theorem dX8_enter_128 : decode cX8_enter 128 = .ok (.getfield 112, 3) := by decide +kernel
theorem dX8_enter_131 : decode cX8_enter 131 = .ok (.iconst 0, 1) := by decide +kernel
theorem dX8_enter_132 : decode cX8_enter 132 = .ok (.iastore, 1) := by decide +kernel
theorem dX8_enter_133 : decode cX8_enter 133 = .ok (.return_, 1) := by decide +kernel
theorem dX8_close_0 : decode cX8_close 0 = .ok (.aload_n 0, 1) := by decide +kernel
theorem dX8_close_1 : decode cX8_close 1 = .ok (.iload_n 1, 1) := by decide +kernel
theorem dX8_close_2 : decode cX8_close 2 = .ok (.ifCond .eq 15, 3) := by decide +kernel
theorem dX8_close_5 : decode cX8_close 5 = .ok (.aload_n 0, 1) := by decide +kernel
theorem dX8_close_6 : decode cX8_close 6 = .ok (.getfield 42, 3) := by decide +kernel
theorem dX8_close_9 : decode cX8_close 9 = .ok (.aload_n 0, 1) := by decide +kernel
theorem dX8_close_10 : decode cX8_close 10 = .ok (.getfield 109, 3) := by decide +kernel
theorem dX8_close_13 : decode cX8_close 13 = .ok (.iaload, 1) := by decide +kernel
theorem dX8_close_14 : decode cX8_close 14 = .ok (.goto 4, 3) := by decide +kernel
theorem dX8_close_17 : decode cX8_close 17 = .ok (.iconst 0, 1) := by decide +kernel
theorem dX8_close_18 : decode cX8_close 18 = .ok (.putfield 115, 3) := by decide +kernel
theorem dX8_close_21 : decode cX8_close 21 = .ok (.aload_n 0, 1) := by decide +kernel
theorem dX8_close_22 : decode cX8_close 22 = .ok (.dup, 1) := by decide +kernel
theorem dX8_close_23 : decode cX8_close 23 = .ok (.getfield 109, 3) := by decide +kernel
theorem dX8_close_26 : decode cX8_close 26 = .ok (.iconst 1, 1) := by decide +kernel
theorem dX8_close_27 : decode cX8_close 27 = .ok (.isub, 1) := by decide +kernel
theorem dX8_close_28 : decode cX8_close 28 = .ok (.putfield 109, 3) := by decide +kernel
theorem dX8_close_31 : decode cX8_close 31 = .ok (.return_, 1) := by decide +kernel
theorem dX8_isA_0 : decode cX8_isA 0 = .ok (.iload_n 1, 1) := by decide +kernel
theorem dX8_isA_1 : decode cX8_isA 1 = .ok (.ifCond .le 17, 3) := by decide +kernel
theorem dX8_isA_4 : decode cX8_isA 4 = .ok (.aload_n 0, 1) := by decide +kernel
theorem dX8_isA_5 : decode cX8_isA 5 = .ok (.getfield 7, 3) := by decide +kernel
theorem dX8_isA_8 : decode cX8_isA 8 = .ok (.iload_n 1, 1) := by decide +kernel
theorem dX8_isA_9 : decode cX8_isA 9 = .ok (.iaload, 1) := by decide +kernel
theorem dX8_isA_10 : decode cX8_isA 10 = .ok (.iload_n 2, 1) := by decide +kernel
theorem dX8_isA_11 : decode cX8_isA 11 = .ok (.if_icmp .ne 7, 3) := by decide +kernel
theorem dX8_isA_14 : decode cX8_isA 14 = .ok (.iconst 1, 1) := by decide +kernel
theorem dX8_isA_15 : decode cX8_isA 15 = .ok (.goto 4, 3) := by decide +kernel
theorem dX8_isA_18 : decode cX8_isA 18 = .ok (.iconst 0, 1) := by decide +kernel
theorem dX8_isA_19 : decode cX8_isA 19 = .ok (.ireturn, 1) := by decide +kernel
theorem dX8_least_0 : decode cX8_least 0 = .ok (.iconst 1, 1) := by decide +kernel
theorem dX8_least_1 : decode cX8_least 1 = .ok (.istore_n 2, 1) := by decide +kernel
theorem dX8_least_2 : decode cX8_least 2 = .ok (.iload_n 2, 1) := by decide +kernel
theorem dX8_least_3 : decode cX8_least 3 = .ok (.aload_n 0, 1) := by decide +kernel
theorem dX8_least_4 : decode cX8_least 4 = .ok (.getfield 88, 3) := by decide +kernel
theorem dX8_least_7 : decode cX8_least 7 = .ok (.if_icmp .gt 158, 3) := by decide +kernel
theorem dX8_least_10 : decode cX8_least 10 = .ok (.aload_n 0, 1) := by decide +kernel
theorem dX8_least_11 : decode cX8_least 11 = .ok (.aload_n 0, 1) := by decide +kernel
theorem dX8_least_12 : decode cX8_least 12 = .ok (.getfield 109, 3) := by decide +kernel
theorem dX8_least_15 : decode cX8_least 15 = .ok (.iload_n 2, 1) := by decide +kernel
theorem dX8_least_16 : decode cX8_least 16 = .ok (.invokevirtual 118, 3) := by decide +kernel
theorem dX8_least_19 : decode cX8_least 19 = .ok (.ifCond .ne 6, 3) := by decide +kernel
theorem dX8_least_22 : decode cX8_least 22 = .ok (.goto 137, 3) := by decide +kernel
theorem dX8_least_25 : decode cX8_least 25 = .ok (.aload_n 0, 1) := by decide +kernel
theorem dX8_least_26 : decode cX8_least 26 = .ok (.getfield 7, 3) := by decide +kernel
theorem dX8_least_29 : decode cX8_least 29 = .ok (.iload_n 2, 1) := by decide +kernel
theorem dX8_least_30 : decode cX8_least 30 = .ok (.iaload, 1) := by decide +kernel
theorem dX8_least_31 : decode cX8_least 31 = .ok (.iconst 4, 1) := by decide +kernel
theorem dX8_least_32 : decode cX8_least 32 = .ok (.if_icmp .ne 7, 3) := by decide +kernel
theorem dX8_least_35 : decode cX8_least 35 = .ok (.iconst 1, 1) := by decide +kernel
theorem dX8_least_36 : decode cX8_least 36 = .ok (.goto 4, 3) := by decide +kernel
theorem dX8_least_39 : decode cX8_least 39 = .ok (.iconst 0, 1) := by decide +kernel
theorem dX8_least_40 : decode cX8_least 40 = .ok (.istore_n 3, 1) := by decide +kernel
theorem dX8_least_41 : decode cX8_least 41 = .ok (.aload_n 0, 1) := by decide +kernel
theorem dX8_least_42 : decode cX8_least 42 = .ok (.getfield 13, 3) := by decide +kernel
theorem dX8_least_45 : decode cX8_least 45 = .ok (.iload_n 2, 1) := by decide +kernel
theorem dX8_least_46 : decode cX8_least 46 = .ok (.iaload, 1) := by decide +kernel
theorem dX8_least_47 : decode cX8_least 47 = .ok (.istore 4, 2) := by decide +kernel
theorem dX8_least_49 : decode cX8_least 49 = .ok (.iload_n 1, 1) := by decide +kernel
theorem dX8_least_50 : decode cX8_least 50 = .ok (.iconst 5, 1) := by decide +kernel
theorem dX8_least_51 : decode cX8_least 51 = .ok (.if_icmp .ne 21, 3) := by decide +kernel
theorem dX8_least_54 : decode cX8_least 54 = .ok (.aload_n 0, 1) := by decide +kernel
theorem dX8_least_55 : decode cX8_least 55 = .ok (.getfield 7, 3) := by decide +kernel
theorem dX8_least_58 : decode cX8_least 58 = .ok (.iload_n 2, 1) := by decide +kernel
theorem dX8_least_59 : decode cX8_least 59 = .ok (.iaload, 1) := by decide +kernel
theorem dX8_least_60 : decode cX8_least 60 = .ok (.iconst 2, 1) := by decide +kernel
theorem dX8_least_61 : decode cX8_least 61 = .ok (.if_icmp .ne 7, 3) := by decide +kernel
theorem dX8_least_64 : decode cX8_least 64 = .ok (.iconst 1, 1) := by decide +kernel
theorem dX8_least_65 : decode cX8_least 65 = .ok (.goto 85, 3) := by decide +kernel
theorem dX8_least_68 : decode cX8_least 68 = .ok (.iconst 0, 1) := by decide +kernel
theorem dX8_least_69 : decode cX8_least 69 = .ok (.goto 81, 3) := by decide +kernel
theorem dX8_least_72 : decode cX8_least 72 = .ok (.iload_n 1, 1) := by decide +kernel
theorem dX8_least_73 : decode cX8_least 73 = .ok (.bipush 6, 2) := by decide +kernel
theorem dX8_least_75 : decode cX8_least 75 = .ok (.if_icmp .ne 21, 3) := by decide +kernel
theorem dX8_least_78 : decode cX8_least 78 = .ok (.aload_n 0, 1) := by decide +kernel
theorem dX8_least_79 : decode cX8_least 79 = .ok (.getfield 7, 3) := by decide +kernel
theorem dX8_least_82 : decode cX8_least 82 = .ok (.iload_n 2, 1) := by decide +kernel
theorem dX8_least_83 : decode cX8_least 83 = .ok (.iaload, 1) := by decide +kernel
theorem dX8_least_84 : decode cX8_least 84 = .ok (.iconst 3, 1) := by decide +kernel
theorem dX8_least_85 : decode cX8_least 85 = .ok (.if_icmp .ne 7, 3) := by decide +kernel
theorem dX8_least_88 : decode cX8_least 88 = .ok (.iconst 1, 1) := by decide +kernel
theorem dX8_least_89 : decode cX8_least 89 = .ok (.goto 61, 3) := by decide +kernel
theorem dX8_least_92 : decode cX8_least 92 = .ok (.iconst 0, 1) := by decide +kernel
theorem dX8_least_93 : decode cX8_least 93 = .ok (.goto 57, 3) := by decide +kernel
theorem dX8_least_96 : decode cX8_least 96 = .ok (.iload_n 3, 1) := by decide +kernel
theorem dX8_least_97 : decode cX8_least 97 = .ok (.ifCond .ne 7, 3) := by decide +kernel
theorem dX8_least_100 : decode cX8_least 100 = .ok (.iconst 0, 1) := by decide +kernel
theorem dX8_least_101 : decode cX8_least 101 = .ok (.goto 49, 3) := by decide +kernel
theorem dX8_least_104 : decode cX8_least 104 = .ok (.iload_n 1, 1) := by decide +kernel
theorem dX8_least_105 : decode cX8_least 105 = .ok (.bipush 7, 2) := by decide +kernel
theorem dX8_least_107 : decode cX8_least 107 = .ok (.if_icmp .ne 16, 3) := by decide +kernel
theorem dX8_least_110 : decode cX8_least 110 = .ok (.aload_n 0, 1) := by decide +kernel
theorem dX8_least_111 : decode cX8_least 111 = .ok (.aload_n 0, 1) := by decide +kernel
theorem dX8_least_112 : decode cX8_least 112 = .ok (.getfield 109, 3) := by decide +kernel
theorem dX8_least_115 : decode cX8_least 115 = .ok (.iload 4, 2) := by decide +kernel
theorem dX8_least_117 : decode cX8_least 117 = .ok (.invokevirtual 118, 3) := by decide +kernel
theorem dX8_least_120 : decode cX8_least 120 = .ok (.goto 30, 3) := by decide +kernel
theorem dX8_least_123 : decode cX8_least 123 = .ok (.aload_n 0, 1) := by decide +kernel
theorem dX8_least_124 : decode cX8_least 124 = .ok (.iload 4, 2) := by decide +kernel
theorem dX8_least_126 : decode cX8_least 126 = .ok (.iload_n 1, 1) := by decide +kernel
theorem dX8_least_127 : decode cX8_least 127 = .ok (.bipush 8, 2) := by decide +kernel
theorem dX8_least_129 : decode cX8_least 129 = .ok (.if_icmp .ne 7, 3) := by decide +kernel
theorem dX8_least_132 : decode cX8_least 132 = .ok (.iconst 1, 1) := by decide +kernel
theorem dX8_least_133 : decode cX8_least 133 = .ok (.goto 14, 3) := by decide +kernel
theorem dX8_least_136 : decode cX8_least 136 = .ok (.iload_n 1, 1) := by decide +kernel
theorem dX8_least_137 : decode cX8_least 137 = .ok (.bipush 9, 2) := by decide +kernel
theorem dX8_least_139 : decode cX8_least 139 = .ok (.if_icmp .ne 7, 3) := by decide +kernel
theorem dX8_least_142 : decode cX8_least 142 = .ok (.iconst 2, 1) := by decide +kernel
theorem dX8_least_143 : decode cX8_least 143 = .ok (.goto 4, 3) := by decide +kernel
theorem dX8_least_146 : decode cX8_least 146 = .ok (.iconst 3, 1) := by decide +kernel
theorem dX8_least_147 : decode cX8_least 147 = .ok (.invokevirtual 122, 3) := by decide +kernel
theorem dX8_least_150 : decode cX8_least 150 = .ok (.istore 5, 2) := by decide +kernel
theorem dX8_least_152 : decode cX8_least 152 = .ok (.iload 5, 2) := by decide +kernel
theorem dX8_least_154 : decode cX8_least 154 = .ok (.ifCond .eq 5, 3) := by decide +kernel
theorem dX8_least_157 : decode cX8_least 157 = .ok (.iload_n 2, 1) := by decide +kernel
theorem dX8_least_158 : decode cX8_least 158 = .ok (.ireturn, 1) := by decide +kernel
theorem dX8_least_159 : decode cX8_least 159 = .ok (.iinc 2 1, 3) := by decide +kernel
theorem dX8_least_162 : decode cX8_least 162 = .ok (.goto (-160), 3) := by decide +kernel
theorem dX8_least_165 : decode cX8_least 165 = .ok (.iconst 0, 1) := by decide +kernel
theorem dX8_least_166 : decode cX8_least 166 = .ok (.ireturn, 1) := by decide +kernel
theorem dX8_falseOne_0 : decode cX8_falseOne 0 = .ok (.aload_n 0, 1) := by decide +kernel
theorem dX8_falseOne_1 : decode cX8_falseOne 1 = .ok (.iconst 1, 1) := by decide +kernel
theorem dX8_falseOne_2 : decode cX8_falseOne 2 = .ok (.iconst 0, 1) := by decide +kernel
theorem dX8_falseOne_3 : decode cX8_falseOne 3 = .ok (.iconst 0, 1) := by decide +kernel
theorem dX8_falseOne_4 : decode cX8_falseOne 4 = .ok (.invokevirtual 92, 3) := by decide +kernel
theorem dX8_falseOne_7 : decode cX8_falseOne 7 = .ok (.istore_n 1, 1) := by decide +kernel
theorem dX8_falseOne_8 : decode cX8_falseOne 8 = .ok (.iload_n 1, 1) := by decide +kernel
theorem dX8_falseOne_9 : decode cX8_falseOne 9 = .ok (.aload_n 0, 1) := by decide +kernel
theorem dX8_falseOne_10 : decode cX8_falseOne 10 = .ok (.getfield 88, 3) := by decide +kernel
theorem dX8_falseOne_13 : decode cX8_falseOne 13 = .ok (.if_icmp .gt 7, 3) := by decide +kernel
theorem dX8_falseOne_16 : decode cX8_falseOne 16 = .ok (.iload_n 1, 1) := by decide +kernel
theorem dX8_falseOne_17 : decode cX8_falseOne 17 = .ok (.goto 4, 3) := by decide +kernel
theorem dX8_falseOne_20 : decode cX8_falseOne 20 = .ok (.iconst 0, 1) := by decide +kernel
theorem dX8_falseOne_21 : decode cX8_falseOne 21 = .ok (.ireturn, 1) := by decide +kernel
theorem dX8_choose_0 : decode cX8_choose 0 = .ok (.aload_n 0, 1) := by decide +kernel
theorem dX8_choose_1 : decode cX8_choose 1 = .ok (.getfield 39, 3) := by decide +kernel
theorem dX8_choose_4 : decode cX8_choose 4 = .ok (.aload_n 0, 1) := by decide +kernel
theorem dX8_choose_5 : decode cX8_choose 5 = .ok (.getfield 109, 3) := by decide +kernel
theorem dX8_choose_8 : decode cX8_choose 8 = .ok (.iaload, 1) := by decide +kernel
theorem dX8_choose_9 : decode cX8_choose 9 = .ok (.istore_n 1, 1) := by decide +kernel
theorem dX8_choose_10 : decode cX8_choose 10 = .ok (.aload_n 0, 1) := by decide +kernel
theorem dX8_choose_11 : decode cX8_choose 11 = .ok (.getfield 42, 3) := by decide +kernel
theorem dX8_choose_14 : decode cX8_choose 14 = .ok (.aload_n 0, 1) := by decide +kernel
theorem dX8_choose_15 : decode cX8_choose 15 = .ok (.getfield 109, 3) := by decide +kernel
theorem dX8_choose_18 : decode cX8_choose 18 = .ok (.iaload, 1) := by decide +kernel
theorem dX8_choose_19 : decode cX8_choose 19 = .ok (.istore_n 2, 1) := by decide +kernel
theorem dX8_choose_20 : decode cX8_choose 20 = .ok (.aload_n 0, 1) := by decide +kernel
theorem dX8_choose_21 : decode cX8_choose 21 = .ok (.getfield 54, 3) := by decide +kernel
theorem dX8_choose_24 : decode cX8_choose 24 = .ok (.iload_n 2, 1) := by decide +kernel
theorem dX8_choose_25 : decode cX8_choose 25 = .ok (.iload_n 1, 1) := by decide +kernel
theorem dX8_choose_26 : decode cX8_choose 26 = .ok (.iastore, 1) := by decide +kernel
theorem dX8_choose_27 : decode cX8_choose 27 = .ok (.aload_n 0, 1) := by decide +kernel
theorem dX8_choose_28 : decode cX8_choose 28 = .ok (.aload_n 0, 1) := by decide +kernel
theorem dX8_choose_29 : decode cX8_choose 29 = .ok (.getfield 109, 3) := by decide +kernel
theorem dX8_choose_32 : decode cX8_choose 32 = .ok (.iload_n 1, 1) := by decide +kernel
theorem dX8_choose_33 : decode cX8_choose 33 = .ok (.invokevirtual 118, 3) := by decide +kernel
theorem dX8_choose_36 : decode cX8_choose 36 = .ok (.ifCond .eq 13, 3) := by decide +kernel
theorem dX8_choose_39 : decode cX8_choose 39 = .ok (.aload_n 0, 1) := by decide +kernel
theorem dX8_choose_40 : decode cX8_choose 40 = .ok (.getfield 51, 3) := by decide +kernel
theorem dX8_choose_43 : decode cX8_choose 43 = .ok (.iload_n 2, 1) := by decide +kernel
theorem dX8_choose_44 : decode cX8_choose 44 = .ok (.iconst 1, 1) := by decide +kernel
theorem dX8_choose_45 : decode cX8_choose 45 = .ok (.iastore, 1) := by decide +kernel
theorem dX8_choose_46 : decode cX8_choose 46 = .ok (.goto 63, 3) := by decide +kernel
theorem dX8_choose_49 : decode cX8_choose 49 = .ok (.aload_n 0, 1) := by decide +kernel
theorem dX8_choose_50 : decode cX8_choose 50 = .ok (.aload_n 0, 1) := by decide +kernel
theorem dX8_choose_51 : decode cX8_choose 51 = .ok (.getfield 109, 3) := by decide +kernel
theorem dX8_choose_54 : decode cX8_choose 54 = .ok (.aload_n 0, 1) := by decide +kernel
theorem dX8_choose_55 : decode cX8_choose 55 = .ok (.invokevirtual 125, 3) := by decide +kernel
theorem dX8_choose_58 : decode cX8_choose 58 = .ok (.invokevirtual 118, 3) := by decide +kernel
theorem dX8_choose_61 : decode cX8_choose 61 = .ok (.ifCond .eq 13, 3) := by decide +kernel
theorem dX8_choose_64 : decode cX8_choose 64 = .ok (.aload_n 0, 1) := by decide +kernel
theorem dX8_choose_65 : decode cX8_choose 65 = .ok (.getfield 51, 3) := by decide +kernel
theorem dX8_choose_68 : decode cX8_choose 68 = .ok (.iload_n 2, 1) := by decide +kernel
theorem dX8_choose_69 : decode cX8_choose 69 = .ok (.iconst 2, 1) := by decide +kernel
theorem dX8_choose_70 : decode cX8_choose 70 = .ok (.iastore, 1) := by decide +kernel
theorem dX8_choose_71 : decode cX8_choose 71 = .ok (.goto 38, 3) := by decide +kernel
theorem dX8_choose_74 : decode cX8_choose 74 = .ok (.aload_n 0, 1) := by decide +kernel
theorem dX8_choose_75 : decode cX8_choose 75 = .ok (.iload_n 1, 1) := by decide +kernel
theorem dX8_choose_76 : decode cX8_choose 76 = .ok (.iconst 2, 1) := by decide +kernel
theorem dX8_choose_77 : decode cX8_choose 77 = .ok (.invokevirtual 122, 3) := by decide +kernel
theorem dX8_choose_80 : decode cX8_choose 80 = .ok (.ifCond .eq 13, 3) := by decide +kernel
theorem dX8_choose_83 : decode cX8_choose 83 = .ok (.aload_n 0, 1) := by decide +kernel
theorem dX8_choose_84 : decode cX8_choose 84 = .ok (.getfield 51, 3) := by decide +kernel
theorem dX8_choose_87 : decode cX8_choose 87 = .ok (.iload_n 2, 1) := by decide +kernel
theorem dX8_choose_88 : decode cX8_choose 88 = .ok (.iconst 3, 1) := by decide +kernel
theorem dX8_choose_89 : decode cX8_choose 89 = .ok (.iastore, 1) := by decide +kernel
theorem dX8_choose_90 : decode cX8_choose 90 = .ok (.goto 19, 3) := by decide +kernel
theorem dX8_choose_93 : decode cX8_choose 93 = .ok (.aload_n 0, 1) := by decide +kernel
theorem dX8_choose_94 : decode cX8_choose 94 = .ok (.iload_n 1, 1) := by decide +kernel
theorem dX8_choose_95 : decode cX8_choose 95 = .ok (.iconst 4, 1) := by decide +kernel
theorem dX8_choose_96 : decode cX8_choose 96 = .ok (.invokevirtual 122, 3) := by decide +kernel
theorem dX8_choose_99 : decode cX8_choose 99 = .ok (.ifCond .eq 10, 3) := by decide +kernel
theorem dX8_choose_102 : decode cX8_choose 102 = .ok (.aload_n 0, 1) := by decide +kernel
theorem dX8_choose_103 : decode cX8_choose 103 = .ok (.getfield 51, 3) := by decide +kernel
theorem dX8_choose_106 : decode cX8_choose 106 = .ok (.iload_n 2, 1) := by decide +kernel
theorem dX8_choose_107 : decode cX8_choose 107 = .ok (.iconst 4, 1) := by decide +kernel
theorem dX8_choose_108 : decode cX8_choose 108 = .ok (.iastore, 1) := by decide +kernel
theorem dX8_choose_109 : decode cX8_choose 109 = .ok (.iconst 5, 1) := by decide +kernel
theorem dX8_choose_110 : decode cX8_choose 110 = .ok (.istore_n 3, 1) := by decide +kernel
theorem dX8_choose_111 : decode cX8_choose 111 = .ok (.iload_n 3, 1) := by decide +kernel
theorem dX8_choose_112 : decode cX8_choose 112 = .ok (.bipush 11, 2) := by decide +kernel
theorem dX8_choose_114 : decode cX8_choose 114 = .ok (.if_icmp .ge 48, 3) := by decide +kernel
theorem dX8_choose_117 : decode cX8_choose 117 = .ok (.aload_n 0, 1) := by decide +kernel
theorem dX8_choose_118 : decode cX8_choose 118 = .ok (.getfield 51, 3) := by decide +kernel
theorem dX8_choose_121 : decode cX8_choose 121 = .ok (.iload_n 2, 1) := by decide +kernel
theorem dX8_choose_122 : decode cX8_choose 122 = .ok (.iaload, 1) := by decide +kernel
theorem dX8_choose_123 : decode cX8_choose 123 = .ok (.ifCond .ne 39, 3) := by decide +kernel
theorem dX8_choose_126 : decode cX8_choose 126 = .ok (.aload_n 0, 1) := by decide +kernel
theorem dX8_choose_127 : decode cX8_choose 127 = .ok (.iload_n 3, 1) := by decide +kernel
theorem dX8_choose_128 : decode cX8_choose 128 = .ok (.invokevirtual 129, 3) := by decide +kernel
theorem dX8_choose_131 : decode cX8_choose 131 = .ok (.istore 4, 2) := by decide +kernel
theorem dX8_choose_133 : decode cX8_choose 133 = .ok (.iload 4, 2) := by decide +kernel
theorem dX8_choose_135 : decode cX8_choose 135 = .ok (.ifCond .ne 6, 3) := by decide +kernel
theorem dX8_choose_138 : decode cX8_choose 138 = .ok (.goto 18, 3) := by decide +kernel
theorem dX8_choose_141 : decode cX8_choose 141 = .ok (.aload_n 0, 1) := by decide +kernel
theorem dX8_choose_142 : decode cX8_choose 142 = .ok (.getfield 51, 3) := by decide +kernel
theorem dX8_choose_145 : decode cX8_choose 145 = .ok (.iload_n 2, 1) := by decide +kernel
theorem dX8_choose_146 : decode cX8_choose 146 = .ok (.iload_n 3, 1) := by decide +kernel
theorem dX8_choose_147 : decode cX8_choose 147 = .ok (.iastore, 1) := by decide +kernel
theorem dX8_choose_148 : decode cX8_choose 148 = .ok (.aload_n 0, 1) := by decide +kernel
theorem dX8_choose_149 : decode cX8_choose 149 = .ok (.getfield 54, 3) := by decide +kernel
theorem dX8_choose_152 : decode cX8_choose 152 = .ok (.iload_n 2, 1) := by decide +kernel
theorem dX8_choose_153 : decode cX8_choose 153 = .ok (.iload 4, 2) := by decide +kernel
theorem dX8_choose_155 : decode cX8_choose 155 = .ok (.iastore, 1) := by decide +kernel
theorem dX8_choose_156 : decode cX8_choose 156 = .ok (.iinc 3 1, 3) := by decide +kernel
theorem dX8_choose_159 : decode cX8_choose 159 = .ok (.goto (-48), 3) := by decide +kernel
theorem dX8_choose_162 : decode cX8_choose 162 = .ok (.aload_n 0, 1) := by decide +kernel
theorem dX8_choose_163 : decode cX8_choose 163 = .ok (.getfield 51, 3) := by decide +kernel
theorem dX8_choose_166 : decode cX8_choose 166 = .ok (.iload_n 2, 1) := by decide +kernel
theorem dX8_choose_167 : decode cX8_choose 167 = .ok (.iaload, 1) := by decide +kernel
theorem dX8_choose_168 : decode cX8_choose 168 = .ok (.ifCond .ne 11, 3) := by decide +kernel
theorem dX8_choose_171 : decode cX8_choose 171 = .ok (.aload_n 0, 1) := by decide +kernel
theorem dX8_choose_172 : decode cX8_choose 172 = .ok (.getfield 51, 3) := by decide +kernel
theorem dX8_choose_175 : decode cX8_choose 175 = .ok (.iload_n 2, 1) := by decide +kernel
theorem dX8_choose_176 : decode cX8_choose 176 = .ok (.bipush 11, 2) := by decide +kernel
theorem dX8_choose_178 : decode cX8_choose 178 = .ok (.iastore, 1) := by decide +kernel
theorem dX8_choose_179 : decode cX8_choose 179 = .ok (.return_, 1) := by decide +kernel
theorem dX8_premise_0 : decode cX8_premise 0 = .ok (.aload_n 0, 1) := by decide +kernel
theorem dX8_premise_1 : decode cX8_premise 1 = .ok (.getfield 39, 3) := by decide +kernel
theorem dX8_premise_4 : decode cX8_premise 4 = .ok (.aload_n 0, 1) := by decide +kernel
theorem dX8_premise_5 : decode cX8_premise 5 = .ok (.getfield 109, 3) := by decide +kernel
theorem dX8_premise_8 : decode cX8_premise 8 = .ok (.iaload, 1) := by decide +kernel
theorem dX8_premise_9 : decode cX8_premise 9 = .ok (.istore 4, 2) := by decide +kernel
theorem dX8_premise_11 : decode cX8_premise 11 = .ok (.aload_n 0, 1) := by decide +kernel
theorem dX8_premise_12 : decode cX8_premise 12 = .ok (.getfield 13, 3) := by decide +kernel
theorem dX8_premise_15 : decode cX8_premise 15 = .ok (.iload_n 2, 1) := by decide +kernel
theorem dX8_premise_16 : decode cX8_premise 16 = .ok (.iaload, 1) := by decide +kernel
theorem dX8_premise_17 : decode cX8_premise 17 = .ok (.istore 5, 2) := by decide +kernel
theorem dX8_premise_19 : decode cX8_premise 19 = .ok (.aload_n 0, 1) := by decide +kernel
theorem dX8_premise_20 : decode cX8_premise 20 = .ok (.getfield 16, 3) := by decide +kernel
theorem dX8_premise_23 : decode cX8_premise 23 = .ok (.iload_n 2, 1) := by decide +kernel
theorem dX8_premise_24 : decode cX8_premise 24 = .ok (.iaload, 1) := by decide +kernel
theorem dX8_premise_25 : decode cX8_premise 25 = .ok (.istore 6, 2) := by decide +kernel
theorem dX8_premise_27 : decode cX8_premise 27 = .ok (.aload_n 0, 1) := by decide +kernel
theorem dX8_premise_28 : decode cX8_premise 28 = .ok (.getfield 109, 3) := by decide +kernel
theorem dX8_premise_31 : decode cX8_premise 31 = .ok (.iconst 1, 1) := by decide +kernel
theorem dX8_premise_32 : decode cX8_premise 32 = .ok (.iadd, 1) := by decide +kernel
theorem dX8_premise_33 : decode cX8_premise 33 = .ok (.istore 7, 2) := by decide +kernel
theorem dX8_premise_35 : decode cX8_premise 35 = .ok (.aload_n 0, 1) := by decide +kernel
theorem dX8_premise_36 : decode cX8_premise 36 = .ok (.iload_n 1, 1) := by decide +kernel
theorem dX8_premise_37 : decode cX8_premise 37 = .ok (.iconst 3, 1) := by decide +kernel
theorem dX8_premise_38 : decode cX8_premise 38 = .ok (.if_icmp .ne 27, 3) := by decide +kernel
theorem dX8_premise_41 : decode cX8_premise 41 = .ok (.iload_n 3, 1) := by decide +kernel
theorem dX8_premise_42 : decode cX8_premise 42 = .ok (.ifCond .ne 13, 3) := by decide +kernel
theorem dX8_premise_45 : decode cX8_premise 45 = .ok (.aload_n 0, 1) := by decide +kernel
theorem dX8_premise_46 : decode cX8_premise 46 = .ok (.getfield 13, 3) := by decide +kernel
theorem dX8_premise_49 : decode cX8_premise 49 = .ok (.iload 4, 2) := by decide +kernel
theorem dX8_premise_51 : decode cX8_premise 51 = .ok (.iaload, 1) := by decide +kernel
theorem dX8_premise_52 : decode cX8_premise 52 = .ok (.goto 30, 3) := by decide +kernel
theorem dX8_premise_55 : decode cX8_premise 55 = .ok (.aload_n 0, 1) := by decide +kernel
theorem dX8_premise_56 : decode cX8_premise 56 = .ok (.getfield 16, 3) := by decide +kernel
theorem dX8_premise_59 : decode cX8_premise 59 = .ok (.iload 4, 2) := by decide +kernel
theorem dX8_premise_61 : decode cX8_premise 61 = .ok (.iaload, 1) := by decide +kernel
theorem dX8_premise_62 : decode cX8_premise 62 = .ok (.goto 20, 3) := by decide +kernel
theorem dX8_premise_65 : decode cX8_premise 65 = .ok (.iload_n 1, 1) := by decide +kernel
theorem dX8_premise_66 : decode cX8_premise 66 = .ok (.iconst 4, 1) := by decide +kernel
theorem dX8_premise_67 : decode cX8_premise 67 = .ok (.if_icmp .ne 13, 3) := by decide +kernel
theorem dX8_premise_70 : decode cX8_premise 70 = .ok (.aload_n 0, 1) := by decide +kernel
theorem dX8_premise_71 : decode cX8_premise 71 = .ok (.getfield 16, 3) := by decide +kernel
theorem dX8_premise_74 : decode cX8_premise 74 = .ok (.iload 4, 2) := by decide +kernel
theorem dX8_premise_76 : decode cX8_premise 76 = .ok (.iaload, 1) := by decide +kernel
theorem dX8_premise_77 : decode cX8_premise 77 = .ok (.goto 5, 3) := by decide +kernel
theorem dX8_premise_80 : decode cX8_premise 80 = .ok (.iload 4, 2) := by decide +kernel
theorem dX8_premise_82 : decode cX8_premise 82 = .ok (.invokevirtual 133, 3) := by decide +kernel
theorem dX8_premise_85 : decode cX8_premise 85 = .ok (.iload_n 1, 1) := by decide +kernel
theorem dX8_premise_86 : decode cX8_premise 86 = .ok (.iconst 4, 1) := by decide +kernel
theorem dX8_premise_87 : decode cX8_premise 87 = .ok (.if_icmp .ne 17, 3) := by decide +kernel
theorem dX8_premise_90 : decode cX8_premise 90 = .ok (.aload_n 0, 1) := by decide +kernel
theorem dX8_premise_91 : decode cX8_premise 91 = .ok (.iload 7, 2) := by decide +kernel
theorem dX8_premise_93 : decode cX8_premise 93 = .ok (.aload_n 0, 1) := by decide +kernel
theorem dX8_premise_94 : decode cX8_premise 94 = .ok (.getfield 13, 3) := by decide +kernel
theorem dX8_premise_97 : decode cX8_premise 97 = .ok (.iload 4, 2) := by decide +kernel
theorem dX8_premise_99 : decode cX8_premise 99 = .ok (.iaload, 1) := by decide +kernel
theorem dX8_premise_100 : decode cX8_premise 100 = .ok (.iconst 1, 1) := by decide +kernel
theorem dX8_premise_101 : decode cX8_premise 101 = .ok (.invokevirtual 137, 3) := by decide +kernel
theorem dX8_premise_104 : decode cX8_premise 104 = .ok (.iload_n 1, 1) := by decide +kernel
theorem dX8_premise_105 : decode cX8_premise 105 = .ok (.iconst 4, 1) := by decide +kernel
theorem dX8_premise_106 : decode cX8_premise 106 = .ok (.if_icmp .le 11, 3) := by decide +kernel
theorem dX8_premise_109 : decode cX8_premise 109 = .ok (.aload_n 0, 1) := by decide +kernel
theorem dX8_premise_110 : decode cX8_premise 110 = .ok (.iload 7, 2) := by decide +kernel
theorem dX8_premise_112 : decode cX8_premise 112 = .ok (.iload_n 2, 1) := by decide +kernel
theorem dX8_premise_113 : decode cX8_premise 113 = .ok (.iconst 0, 1) := by decide +kernel
theorem dX8_premise_114 : decode cX8_premise 114 = .ok (.invokevirtual 137, 3) := by decide +kernel
theorem dX8_premise_117 : decode cX8_premise 117 = .ok (.iload_n 1, 1) := by decide +kernel
theorem dX8_premise_118 : decode cX8_premise 118 = .ok (.iconst 5, 1) := by decide +kernel
theorem dX8_premise_119 : decode cX8_premise 119 = .ok (.if_icmp .ne 24, 3) := by decide +kernel
theorem dX8_premise_122 : decode cX8_premise 122 = .ok (.aload_n 0, 1) := by decide +kernel
theorem dX8_premise_123 : decode cX8_premise 123 = .ok (.iload 7, 2) := by decide +kernel
theorem dX8_premise_125 : decode cX8_premise 125 = .ok (.iload 5, 2) := by decide +kernel
theorem dX8_premise_127 : decode cX8_premise 127 = .ok (.iconst 1, 1) := by decide +kernel
theorem dX8_premise_128 : decode cX8_premise 128 = .ok (.invokevirtual 137, 3) := by decide +kernel
theorem dX8_premise_131 : decode cX8_premise 131 = .ok (.aload_n 0, 1) := by decide +kernel
theorem dX8_premise_132 : decode cX8_premise 132 = .ok (.iload 7, 2) := by decide +kernel
theorem dX8_premise_134 : decode cX8_premise 134 = .ok (.iload 6, 2) := by decide +kernel
theorem dX8_premise_136 : decode cX8_premise 136 = .ok (.iconst 1, 1) := by decide +kernel
theorem dX8_premise_137 : decode cX8_premise 137 = .ok (.invokevirtual 137, 3) := by decide +kernel
theorem dX8_premise_140 : decode cX8_premise 140 = .ok (.goto 138, 3) := by decide +kernel
theorem dX8_premise_143 : decode cX8_premise 143 = .ok (.iload_n 1, 1) := by decide +kernel
theorem dX8_premise_144 : decode cX8_premise 144 = .ok (.bipush 6, 2) := by decide +kernel
theorem dX8_premise_146 : decode cX8_premise 146 = .ok (.if_icmp .ne 24, 3) := by decide +kernel
theorem dX8_premise_149 : decode cX8_premise 149 = .ok (.aload_n 0, 1) := by decide +kernel
theorem dX8_premise_150 : decode cX8_premise 150 = .ok (.iload 7, 2) := by decide +kernel
theorem dX8_premise_152 : decode cX8_premise 152 = .ok (.iload_n 3, 1) := by decide +kernel
theorem dX8_premise_153 : decode cX8_premise 153 = .ok (.ifCond .ne 8, 3) := by decide +kernel
theorem dX8_premise_156 : decode cX8_premise 156 = .ok (.iload 5, 2) := by decide +kernel
theorem dX8_premise_158 : decode cX8_premise 158 = .ok (.goto 5, 3) := by decide +kernel
theorem dX8_premise_161 : decode cX8_premise 161 = .ok (.iload 6, 2) := by decide +kernel
theorem dX8_premise_163 : decode cX8_premise 163 = .ok (.iconst 1, 1) := by decide +kernel
theorem dX8_premise_164 : decode cX8_premise 164 = .ok (.invokevirtual 137, 3) := by decide +kernel
theorem dX8_premise_167 : decode cX8_premise 167 = .ok (.goto 111, 3) := by decide +kernel
theorem dX8_premise_170 : decode cX8_premise 170 = .ok (.iload_n 1, 1) := by decide +kernel
theorem dX8_premise_171 : decode cX8_premise 171 = .ok (.bipush 7, 2) := by decide +kernel
theorem dX8_premise_173 : decode cX8_premise 173 = .ok (.if_icmp .ne 15, 3) := by decide +kernel
theorem dX8_premise_176 : decode cX8_premise 176 = .ok (.aload_n 0, 1) := by decide +kernel
theorem dX8_premise_177 : decode cX8_premise 177 = .ok (.iload 7, 2) := by decide +kernel
theorem dX8_premise_179 : decode cX8_premise 179 = .ok (.iload 6, 2) := by decide +kernel
theorem dX8_premise_181 : decode cX8_premise 181 = .ok (.iconst 1, 1) := by decide +kernel
theorem dX8_premise_182 : decode cX8_premise 182 = .ok (.invokevirtual 137, 3) := by decide +kernel
theorem dX8_premise_185 : decode cX8_premise 185 = .ok (.goto 93, 3) := by decide +kernel
theorem dX8_premise_188 : decode cX8_premise 188 = .ok (.iload_n 1, 1) := by decide +kernel
theorem dX8_premise_189 : decode cX8_premise 189 = .ok (.bipush 9, 2) := by decide +kernel
theorem dX8_premise_191 : decode cX8_premise 191 = .ok (.if_icmp .ne 41, 3) := by decide +kernel
theorem dX8_premise_194 : decode cX8_premise 194 = .ok (.aload_n 0, 1) := by decide +kernel
theorem dX8_premise_195 : decode cX8_premise 195 = .ok (.aload_n 0, 1) := by decide +kernel
theorem dX8_premise_196 : decode cX8_premise 196 = .ok (.getfield 16, 3) := by decide +kernel
theorem dX8_premise_199 : decode cX8_premise 199 = .ok (.iload 5, 2) := by decide +kernel
theorem dX8_premise_201 : decode cX8_premise 201 = .ok (.iaload, 1) := by decide +kernel
theorem dX8_premise_202 : decode cX8_premise 202 = .ok (.iload 6, 2) := by decide +kernel
theorem dX8_premise_204 : decode cX8_premise 204 = .ok (.invokevirtual 141, 3) := by decide +kernel
theorem dX8_premise_207 : decode cX8_premise 207 = .ok (.istore 8, 2) := by decide +kernel
theorem dX8_premise_209 : decode cX8_premise 209 = .ok (.aload_n 0, 1) := by decide +kernel
theorem dX8_premise_210 : decode cX8_premise 210 = .ok (.iload 7, 2) := by decide +kernel
theorem dX8_premise_212 : decode cX8_premise 212 = .ok (.aload_n 0, 1) := by decide +kernel
theorem dX8_premise_213 : decode cX8_premise 213 = .ok (.aload_n 0, 1) := by decide +kernel
theorem dX8_premise_214 : decode cX8_premise 214 = .ok (.getfield 13, 3) := by decide +kernel
theorem dX8_premise_217 : decode cX8_premise 217 = .ok (.iload 5, 2) := by decide +kernel
theorem dX8_premise_219 : decode cX8_premise 219 = .ok (.iaload, 1) := by decide +kernel
theorem dX8_premise_220 : decode cX8_premise 220 = .ok (.iload 8, 2) := by decide +kernel
theorem dX8_premise_222 : decode cX8_premise 222 = .ok (.invokevirtual 141, 3) := by decide +kernel
theorem dX8_premise_225 : decode cX8_premise 225 = .ok (.iconst 1, 1) := by decide +kernel
theorem dX8_premise_226 : decode cX8_premise 226 = .ok (.invokevirtual 137, 3) := by decide +kernel
theorem dX8_premise_229 : decode cX8_premise 229 = .ok (.goto 49, 3) := by decide +kernel
theorem dX8_premise_232 : decode cX8_premise 232 = .ok (.iload_n 1, 1) := by decide +kernel
theorem dX8_premise_233 : decode cX8_premise 233 = .ok (.bipush 10, 2) := by decide +kernel
theorem dX8_premise_235 : decode cX8_premise 235 = .ok (.if_icmp .ne 43, 3) := by decide +kernel
theorem dX8_premise_238 : decode cX8_premise 238 = .ok (.aload_n 0, 1) := by decide +kernel
theorem dX8_premise_239 : decode cX8_premise 239 = .ok (.iload 7, 2) := by decide +kernel
theorem dX8_premise_241 : decode cX8_premise 241 = .ok (.aload_n 0, 1) := by decide +kernel
theorem dX8_premise_242 : decode cX8_premise 242 = .ok (.aload_n 0, 1) := by decide +kernel
theorem dX8_premise_243 : decode cX8_premise 243 = .ok (.getfield 13, 3) := by decide +kernel
theorem dX8_premise_246 : decode cX8_premise 246 = .ok (.iload 5, 2) := by decide +kernel
theorem dX8_premise_248 : decode cX8_premise 248 = .ok (.iaload, 1) := by decide +kernel
theorem dX8_premise_249 : decode cX8_premise 249 = .ok (.iload 6, 2) := by decide +kernel
theorem dX8_premise_251 : decode cX8_premise 251 = .ok (.invokevirtual 141, 3) := by decide +kernel
theorem dX8_premise_254 : decode cX8_premise 254 = .ok (.iconst 1, 1) := by decide +kernel
theorem dX8_premise_255 : decode cX8_premise 255 = .ok (.invokevirtual 137, 3) := by decide +kernel
theorem dX8_premise_258 : decode cX8_premise 258 = .ok (.aload_n 0, 1) := by decide +kernel
theorem dX8_premise_259 : decode cX8_premise 259 = .ok (.iload 7, 2) := by decide +kernel
theorem dX8_premise_261 : decode cX8_premise 261 = .ok (.aload_n 0, 1) := by decide +kernel
theorem dX8_premise_262 : decode cX8_premise 262 = .ok (.aload_n 0, 1) := by decide +kernel
theorem dX8_premise_263 : decode cX8_premise 263 = .ok (.getfield 16, 3) := by decide +kernel
theorem dX8_premise_266 : decode cX8_premise 266 = .ok (.iload 5, 2) := by decide +kernel
theorem dX8_premise_268 : decode cX8_premise 268 = .ok (.iaload, 1) := by decide +kernel
theorem dX8_premise_269 : decode cX8_premise 269 = .ok (.iload 6, 2) := by decide +kernel
theorem dX8_premise_271 : decode cX8_premise 271 = .ok (.invokevirtual 141, 3) := by decide +kernel
theorem dX8_premise_274 : decode cX8_premise 274 = .ok (.iconst 1, 1) := by decide +kernel
theorem dX8_premise_275 : decode cX8_premise 275 = .ok (.invokevirtual 137, 3) := by decide +kernel
theorem dX8_premise_278 : decode cX8_premise 278 = .ok (.return_, 1) := by decide +kernel
theorem dX8_turn_0 : decode cX8_turn 0 = .ok (.aload_n 0, 1) := by decide +kernel
theorem dX8_turn_1 : decode cX8_turn 1 = .ok (.getfield 42, 3) := by decide +kernel
theorem dX8_turn_4 : decode cX8_turn 4 = .ok (.aload_n 0, 1) := by decide +kernel
theorem dX8_turn_5 : decode cX8_turn 5 = .ok (.getfield 109, 3) := by decide +kernel
theorem dX8_turn_8 : decode cX8_turn 8 = .ok (.iaload, 1) := by decide +kernel
theorem dX8_turn_9 : decode cX8_turn 9 = .ok (.istore_n 2, 1) := by decide +kernel
theorem dX8_turn_10 : decode cX8_turn 10 = .ok (.aload_n 0, 1) := by decide +kernel
theorem dX8_turn_11 : decode cX8_turn 11 = .ok (.getfield 45, 3) := by decide +kernel
theorem dX8_turn_14 : decode cX8_turn 14 = .ok (.aload_n 0, 1) := by decide +kernel
theorem dX8_turn_15 : decode cX8_turn 15 = .ok (.getfield 109, 3) := by decide +kernel
theorem dX8_turn_18 : decode cX8_turn 18 = .ok (.iaload, 1) := by decide +kernel
theorem dX8_turn_19 : decode cX8_turn 19 = .ok (.istore_n 3, 1) := by decide +kernel
theorem dX8_turn_20 : decode cX8_turn 20 = .ok (.iload_n 3, 1) := by decide +kernel
theorem dX8_turn_21 : decode cX8_turn 21 = .ok (.ifCond .ne 7, 3) := by decide +kernel
theorem dX8_turn_24 : decode cX8_turn 24 = .ok (.aload_n 0, 1) := by decide +kernel
theorem dX8_turn_25 : decode cX8_turn 25 = .ok (.invokevirtual 145, 3) := by decide +kernel
theorem dX8_turn_28 : decode cX8_turn 28 = .ok (.aload_n 0, 1) := by decide +kernel
theorem dX8_turn_29 : decode cX8_turn 29 = .ok (.getfield 51, 3) := by decide +kernel
theorem dX8_turn_32 : decode cX8_turn 32 = .ok (.iload_n 2, 1) := by decide +kernel
theorem dX8_turn_33 : decode cX8_turn 33 = .ok (.iaload, 1) := by decide +kernel
theorem dX8_turn_34 : decode cX8_turn 34 = .ok (.istore 4, 2) := by decide +kernel
theorem dX8_turn_36 : decode cX8_turn 36 = .ok (.iload 4, 2) := by decide +kernel
theorem dX8_turn_38 : decode cX8_turn 38 = .ok (.bipush 11, 2) := by decide +kernel
theorem dX8_turn_40 : decode cX8_turn 40 = .ok (.if_icmp .ne 11, 3) := by decide +kernel
theorem dX8_turn_43 : decode cX8_turn 43 = .ok (.aload_n 0, 1) := by decide +kernel
theorem dX8_turn_44 : decode cX8_turn 44 = .ok (.iload_n 2, 1) := by decide +kernel
theorem dX8_turn_45 : decode cX8_turn 45 = .ok (.iload_n 3, 1) := by decide +kernel
theorem dX8_turn_46 : decode cX8_turn 46 = .ok (.iload_n 1, 1) := by decide +kernel
theorem dX8_turn_47 : decode cX8_turn 47 = .ok (.invokevirtual 148, 3) := by decide +kernel
theorem dX8_turn_50 : decode cX8_turn 50 = .ok (.return_, 1) := by decide +kernel
theorem dX8_turn_51 : decode cX8_turn 51 = .ok (.iload_n 3, 1) := by decide +kernel
theorem dX8_turn_52 : decode cX8_turn 52 = .ok (.ifCond .le 10, 3) := by decide +kernel
theorem dX8_turn_55 : decode cX8_turn 55 = .ok (.aload_n 0, 1) := by decide +kernel
theorem dX8_turn_56 : decode cX8_turn 56 = .ok (.getfield 115, 3) := by decide +kernel
theorem dX8_turn_59 : decode cX8_turn 59 = .ok (.ifCond .eq 9, 3) := by decide +kernel
theorem dX8_turn_62 : decode cX8_turn 62 = .ok (.iload 4, 2) := by decide +kernel
theorem dX8_turn_64 : decode cX8_turn 64 = .ok (.iconst 3, 1) := by decide +kernel
theorem dX8_turn_65 : decode cX8_turn 65 = .ok (.if_icmp .ge 19, 3) := by decide +kernel
theorem dX8_turn_68 : decode cX8_turn 68 = .ok (.aload_n 0, 1) := by decide +kernel
theorem dX8_turn_69 : decode cX8_turn 69 = .ok (.iload 4, 2) := by decide +kernel
theorem dX8_turn_71 : decode cX8_turn 71 = .ok (.iconst 3, 1) := by decide +kernel
theorem dX8_turn_72 : decode cX8_turn 72 = .ok (.if_icmp .ge 7, 3) := by decide +kernel
theorem dX8_turn_75 : decode cX8_turn 75 = .ok (.iconst 1, 1) := by decide +kernel
theorem dX8_turn_76 : decode cX8_turn 76 = .ok (.goto 4, 3) := by decide +kernel
theorem dX8_turn_79 : decode cX8_turn 79 = .ok (.iconst 0, 1) := by decide +kernel
theorem dX8_turn_80 : decode cX8_turn 80 = .ok (.invokevirtual 151, 3) := by decide +kernel
theorem dX8_turn_83 : decode cX8_turn 83 = .ok (.return_, 1) := by decide +kernel
theorem dX8_turn_84 : decode cX8_turn 84 = .ok (.iload_n 3, 1) := by decide +kernel
theorem dX8_turn_85 : decode cX8_turn 85 = .ok (.iconst 1, 1) := by decide +kernel
theorem dX8_turn_86 : decode cX8_turn 86 = .ok (.if_icmp .ne 13, 3) := by decide +kernel
theorem dX8_turn_89 : decode cX8_turn 89 = .ok (.aload_n 0, 1) := by decide +kernel
theorem dX8_turn_90 : decode cX8_turn 90 = .ok (.getfield 60, 3) := by decide +kernel
theorem dX8_turn_93 : decode cX8_turn 93 = .ok (.iload_n 2, 1) := by decide +kernel
theorem dX8_turn_94 : decode cX8_turn 94 = .ok (.aload_n 0, 1) := by decide +kernel
theorem dX8_turn_95 : decode cX8_turn 95 = .ok (.getfield 115, 3) := by decide +kernel
theorem dX8_turn_98 : decode cX8_turn 98 = .ok (.iastore, 1) := by decide +kernel
theorem dX8_turn_99 : decode cX8_turn 99 = .ok (.iload_n 3, 1) := by decide +kernel
theorem dX8_turn_100 : decode cX8_turn 100 = .ok (.iconst 2, 1) := by decide +kernel
theorem dX8_turn_101 : decode cX8_turn 101 = .ok (.if_icmp .ne 13, 3) := by decide +kernel
theorem dX8_turn_104 : decode cX8_turn 104 = .ok (.aload_n 0, 1) := by decide +kernel
theorem dX8_turn_105 : decode cX8_turn 105 = .ok (.getfield 63, 3) := by decide +kernel
theorem dX8_turn_108 : decode cX8_turn 108 = .ok (.iload_n 2, 1) := by decide +kernel
theorem dX8_turn_109 : decode cX8_turn 109 = .ok (.aload_n 0, 1) := by decide +kernel
theorem dX8_turn_110 : decode cX8_turn 110 = .ok (.getfield 115, 3) := by decide +kernel
theorem dX8_turn_113 : decode cX8_turn 113 = .ok (.iastore, 1) := by decide +kernel
theorem dX8_turn_114 : decode cX8_turn 114 = .ok (.iload 4, 2) := by decide +kernel
theorem dX8_turn_116 : decode cX8_turn 116 = .ok (.iconst 3, 1) := by decide +kernel
theorem dX8_turn_117 : decode cX8_turn 117 = .ok (.if_icmp .eq 10, 3) := by decide +kernel
theorem dX8_turn_120 : decode cX8_turn 120 = .ok (.iload 4, 2) := by decide +kernel
theorem dX8_turn_122 : decode cX8_turn 122 = .ok (.bipush 6, 2) := by decide +kernel
theorem dX8_turn_124 : decode cX8_turn 124 = .ok (.if_icmp .ne 7, 3) := by decide +kernel
theorem dX8_turn_127 : decode cX8_turn 127 = .ok (.iconst 2, 1) := by decide +kernel
theorem dX8_turn_128 : decode cX8_turn 128 = .ok (.goto 4, 3) := by decide +kernel
theorem dX8_turn_131 : decode cX8_turn 131 = .ok (.iconst 1, 1) := by decide +kernel
theorem dX8_turn_132 : decode cX8_turn 132 = .ok (.istore 5, 2) := by decide +kernel
theorem dX8_turn_134 : decode cX8_turn 134 = .ok (.iload_n 3, 1) := by decide +kernel
theorem dX8_turn_135 : decode cX8_turn 135 = .ok (.iload 5, 2) := by decide +kernel
theorem dX8_turn_137 : decode cX8_turn 137 = .ok (.if_icmp .ne 9, 3) := by decide +kernel
theorem dX8_turn_140 : decode cX8_turn 140 = .ok (.aload_n 0, 1) := by decide +kernel
theorem dX8_turn_141 : decode cX8_turn 141 = .ok (.iconst 1, 1) := by decide +kernel
theorem dX8_turn_142 : decode cX8_turn 142 = .ok (.invokevirtual 151, 3) := by decide +kernel
theorem dX8_turn_145 : decode cX8_turn 145 = .ok (.return_, 1) := by decide +kernel
theorem dX8_turn_146 : decode cX8_turn 146 = .ok (.aload_n 0, 1) := by decide +kernel
theorem dX8_turn_147 : decode cX8_turn 147 = .ok (.getfield 45, 3) := by decide +kernel
theorem dX8_turn_150 : decode cX8_turn 150 = .ok (.aload_n 0, 1) := by decide +kernel
theorem dX8_turn_151 : decode cX8_turn 151 = .ok (.getfield 109, 3) := by decide +kernel
theorem dX8_turn_154 : decode cX8_turn 154 = .ok (.dup2, 1) := by decide +kernel
theorem dX8_turn_155 : decode cX8_turn 155 = .ok (.iaload, 1) := by decide +kernel
theorem dX8_turn_156 : decode cX8_turn 156 = .ok (.iconst 1, 1) := by decide +kernel
theorem dX8_turn_157 : decode cX8_turn 157 = .ok (.iadd, 1) := by decide +kernel
theorem dX8_turn_158 : decode cX8_turn 158 = .ok (.iastore, 1) := by decide +kernel
theorem dX8_turn_159 : decode cX8_turn 159 = .ok (.aload_n 0, 1) := by decide +kernel
theorem dX8_turn_160 : decode cX8_turn 160 = .ok (.iload 4, 2) := by decide +kernel
theorem dX8_turn_162 : decode cX8_turn 162 = .ok (.aload_n 0, 1) := by decide +kernel
theorem dX8_turn_163 : decode cX8_turn 163 = .ok (.getfield 54, 3) := by decide +kernel
theorem dX8_turn_166 : decode cX8_turn 166 = .ok (.iload_n 2, 1) := by decide +kernel
theorem dX8_turn_167 : decode cX8_turn 167 = .ok (.iaload, 1) := by decide +kernel
theorem dX8_turn_168 : decode cX8_turn 168 = .ok (.iload_n 3, 1) := by decide +kernel
theorem dX8_turn_169 : decode cX8_turn 169 = .ok (.invokevirtual 155, 3) := by decide +kernel
theorem dX8_turn_172 : decode cX8_turn 172 = .ok (.aload_n 0, 1) := by decide +kernel
theorem dX8_turn_173 : decode cX8_turn 173 = .ok (.iload_n 1, 1) := by decide +kernel
theorem dX8_turn_174 : decode cX8_turn 174 = .ok (.invokevirtual 158, 3) := by decide +kernel
theorem dX8_turn_177 : decode cX8_turn 177 = .ok (.return_, 1) := by decide +kernel
theorem dX8_choices_0 : decode cX8_choices 0 = .ok (.iload_n 2, 1) := by decide +kernel
theorem dX8_choices_1 : decode cX8_choices 1 = .ok (.ifCond .le 172, 3) := by decide +kernel
theorem dX8_choices_4 : decode cX8_choices 4 = .ok (.aload_n 0, 1) := by decide +kernel
theorem dX8_choices_5 : decode cX8_choices 5 = .ok (.getfield 115, 3) := by decide +kernel
theorem dX8_choices_8 : decode cX8_choices 8 = .ok (.ifCond .eq 165, 3) := by decide +kernel
theorem dX8_choices_11 : decode cX8_choices 11 = .ok (.iload_n 2, 1) := by decide +kernel
theorem dX8_choices_12 : decode cX8_choices 12 = .ok (.iconst 2, 1) := by decide +kernel
theorem dX8_choices_13 : decode cX8_choices 13 = .ok (.if_icmp .ne 7, 3) := by decide +kernel
theorem dX8_choices_16 : decode cX8_choices 16 = .ok (.iconst 1, 1) := by decide +kernel
theorem dX8_choices_17 : decode cX8_choices 17 = .ok (.goto 4, 3) := by decide +kernel
theorem dX8_choices_20 : decode cX8_choices 20 = .ok (.iconst 0, 1) := by decide +kernel
theorem dX8_choices_21 : decode cX8_choices 21 = .ok (.istore 4, 2) := by decide +kernel
theorem dX8_choices_23 : decode cX8_choices 23 = .ok (.aload_n 0, 1) := by decide +kernel
theorem dX8_choices_24 : decode cX8_choices 24 = .ok (.getfield 48, 3) := by decide +kernel
theorem dX8_choices_27 : decode cX8_choices 27 = .ok (.aload_n 0, 1) := by decide +kernel
theorem dX8_choices_28 : decode cX8_choices 28 = .ok (.getfield 109, 3) := by decide +kernel
theorem dX8_choices_31 : decode cX8_choices 31 = .ok (.iaload, 1) := by decide +kernel
theorem dX8_choices_32 : decode cX8_choices 32 = .ok (.ifCond .lt 8, 3) := by decide +kernel
theorem dX8_choices_35 : decode cX8_choices 35 = .ok (.iload 4, 2) := by decide +kernel
theorem dX8_choices_37 : decode cX8_choices 37 = .ok (.ifCond .eq 52, 3) := by decide +kernel
theorem dX8_choices_40 : decode cX8_choices 40 = .ok (.aload_n 0, 1) := by decide +kernel
theorem dX8_choices_41 : decode cX8_choices 41 = .ok (.getfield 54, 3) := by decide +kernel
theorem dX8_choices_44 : decode cX8_choices 44 = .ok (.iload_n 1, 1) := by decide +kernel
theorem dX8_choices_45 : decode cX8_choices 45 = .ok (.aload_n 0, 1) := by decide +kernel
theorem dX8_choices_46 : decode cX8_choices 46 = .ok (.getfield 48, 3) := by decide +kernel
theorem dX8_choices_49 : decode cX8_choices 49 = .ok (.aload_n 0, 1) := by decide +kernel
theorem dX8_choices_50 : decode cX8_choices 50 = .ok (.getfield 109, 3) := by decide +kernel
theorem dX8_choices_53 : decode cX8_choices 53 = .ok (.iaload, 1) := by decide +kernel
theorem dX8_choices_54 : decode cX8_choices 54 = .ok (.iastore, 1) := by decide +kernel
theorem dX8_choices_55 : decode cX8_choices 55 = .ok (.iload 4, 2) := by decide +kernel
theorem dX8_choices_57 : decode cX8_choices 57 = .ok (.ifCond .eq 16, 3) := by decide +kernel
theorem dX8_choices_60 : decode cX8_choices 60 = .ok (.aload_n 0, 1) := by decide +kernel
theorem dX8_choices_61 : decode cX8_choices 61 = .ok (.getfield 63, 3) := by decide +kernel
theorem dX8_choices_64 : decode cX8_choices 64 = .ok (.iload_n 1, 1) := by decide +kernel
theorem dX8_choices_65 : decode cX8_choices 65 = .ok (.aload_n 0, 1) := by decide +kernel
theorem dX8_choices_66 : decode cX8_choices 66 = .ok (.getfield 115, 3) := by decide +kernel
theorem dX8_choices_69 : decode cX8_choices 69 = .ok (.iastore, 1) := by decide +kernel
theorem dX8_choices_70 : decode cX8_choices 70 = .ok (.goto 13, 3) := by decide +kernel
theorem dX8_choices_73 : decode cX8_choices 73 = .ok (.aload_n 0, 1) := by decide +kernel
theorem dX8_choices_74 : decode cX8_choices 74 = .ok (.getfield 60, 3) := by decide +kernel
theorem dX8_choices_77 : decode cX8_choices 77 = .ok (.iload_n 1, 1) := by decide +kernel
theorem dX8_choices_78 : decode cX8_choices 78 = .ok (.aload_n 0, 1) := by decide +kernel
theorem dX8_choices_79 : decode cX8_choices 79 = .ok (.getfield 115, 3) := by decide +kernel
theorem dX8_choices_82 : decode cX8_choices 82 = .ok (.iastore, 1) := by decide +kernel
theorem dX8_choices_83 : decode cX8_choices 83 = .ok (.aload_n 0, 1) := by decide +kernel
theorem dX8_choices_84 : decode cX8_choices 84 = .ok (.iconst 1, 1) := by decide +kernel
theorem dX8_choices_85 : decode cX8_choices 85 = .ok (.invokevirtual 151, 3) := by decide +kernel
theorem dX8_choices_88 : decode cX8_choices 88 = .ok (.return_, 1) := by decide +kernel
theorem dX8_choices_89 : decode cX8_choices 89 = .ok (.aload_n 0, 1) := by decide +kernel
theorem dX8_choices_90 : decode cX8_choices 90 = .ok (.getfield 60, 3) := by decide +kernel
theorem dX8_choices_93 : decode cX8_choices 93 = .ok (.iload_n 1, 1) := by decide +kernel
theorem dX8_choices_94 : decode cX8_choices 94 = .ok (.aload_n 0, 1) := by decide +kernel
theorem dX8_choices_95 : decode cX8_choices 95 = .ok (.getfield 115, 3) := by decide +kernel
theorem dX8_choices_98 : decode cX8_choices 98 = .ok (.iastore, 1) := by decide +kernel
theorem dX8_choices_99 : decode cX8_choices 99 = .ok (.aload_n 0, 1) := by decide +kernel
theorem dX8_choices_100 : decode cX8_choices 100 = .ok (.getfield 45, 3) := by decide +kernel
theorem dX8_choices_103 : decode cX8_choices 103 = .ok (.aload_n 0, 1) := by decide +kernel
theorem dX8_choices_104 : decode cX8_choices 104 = .ok (.getfield 109, 3) := by decide +kernel
theorem dX8_choices_107 : decode cX8_choices 107 = .ok (.iconst 2, 1) := by decide +kernel
theorem dX8_choices_108 : decode cX8_choices 108 = .ok (.iastore, 1) := by decide +kernel
theorem dX8_choices_109 : decode cX8_choices 109 = .ok (.aload_n 0, 1) := by decide +kernel
theorem dX8_choices_110 : decode cX8_choices 110 = .ok (.aload_n 0, 1) := by decide +kernel
theorem dX8_choices_111 : decode cX8_choices 111 = .ok (.getfield 39, 3) := by decide +kernel
theorem dX8_choices_114 : decode cX8_choices 114 = .ok (.aload_n 0, 1) := by decide +kernel
theorem dX8_choices_115 : decode cX8_choices 115 = .ok (.getfield 109, 3) := by decide +kernel
theorem dX8_choices_118 : decode cX8_choices 118 = .ok (.iaload, 1) := by decide +kernel
theorem dX8_choices_119 : decode cX8_choices 119 = .ok (.invokevirtual 133, 3) := by decide +kernel
theorem dX8_choices_122 : decode cX8_choices 122 = .ok (.aload_n 0, 1) := by decide +kernel
theorem dX8_choices_123 : decode cX8_choices 123 = .ok (.aload_n 0, 1) := by decide +kernel
theorem dX8_choices_124 : decode cX8_choices 124 = .ok (.getfield 109, 3) := by decide +kernel
theorem dX8_choices_127 : decode cX8_choices 127 = .ok (.iconst 1, 1) := by decide +kernel
theorem dX8_choices_128 : decode cX8_choices 128 = .ok (.iadd, 1) := by decide +kernel
theorem dX8_choices_129 : decode cX8_choices 129 = .ok (.aload_n 0, 1) := by decide +kernel
theorem dX8_choices_130 : decode cX8_choices 130 = .ok (.getfield 48, 3) := by decide +kernel
theorem dX8_choices_133 : decode cX8_choices 133 = .ok (.aload_n 0, 1) := by decide +kernel
theorem dX8_choices_134 : decode cX8_choices 134 = .ok (.getfield 109, 3) := by decide +kernel
theorem dX8_choices_137 : decode cX8_choices 137 = .ok (.iaload, 1) := by decide +kernel
theorem dX8_choices_138 : decode cX8_choices 138 = .ok (.iconst 0, 1) := by decide +kernel
theorem dX8_choices_139 : decode cX8_choices 139 = .ok (.invokevirtual 137, 3) := by decide +kernel
theorem dX8_choices_142 : decode cX8_choices 142 = .ok (.aload_n 0, 1) := by decide +kernel
theorem dX8_choices_143 : decode cX8_choices 143 = .ok (.aload_n 0, 1) := by decide +kernel
theorem dX8_choices_144 : decode cX8_choices 144 = .ok (.getfield 109, 3) := by decide +kernel
theorem dX8_choices_147 : decode cX8_choices 147 = .ok (.iconst 1, 1) := by decide +kernel
theorem dX8_choices_148 : decode cX8_choices 148 = .ok (.iadd, 1) := by decide +kernel
theorem dX8_choices_149 : decode cX8_choices 149 = .ok (.aload_n 0, 1) := by decide +kernel
theorem dX8_choices_150 : decode cX8_choices 150 = .ok (.getfield 16, 3) := by decide +kernel
theorem dX8_choices_153 : decode cX8_choices 153 = .ok (.aload_n 0, 1) := by decide +kernel
theorem dX8_choices_154 : decode cX8_choices 154 = .ok (.getfield 48, 3) := by decide +kernel
theorem dX8_choices_157 : decode cX8_choices 157 = .ok (.aload_n 0, 1) := by decide +kernel
theorem dX8_choices_158 : decode cX8_choices 158 = .ok (.getfield 109, 3) := by decide +kernel
theorem dX8_choices_161 : decode cX8_choices 161 = .ok (.iaload, 1) := by decide +kernel
theorem dX8_choices_162 : decode cX8_choices 162 = .ok (.iaload, 1) := by decide +kernel
theorem dX8_choices_163 : decode cX8_choices 163 = .ok (.iconst 1, 1) := by decide +kernel
theorem dX8_choices_164 : decode cX8_choices 164 = .ok (.invokevirtual 137, 3) := by decide +kernel
theorem dX8_choices_167 : decode cX8_choices 167 = .ok (.aload_n 0, 1) := by decide +kernel
theorem dX8_choices_168 : decode cX8_choices 168 = .ok (.iload_n 3, 1) := by decide +kernel
theorem dX8_choices_169 : decode cX8_choices 169 = .ok (.invokevirtual 158, 3) := by decide +kernel
theorem dX8_choices_172 : decode cX8_choices 172 = .ok (.return_, 1) := by decide +kernel
theorem dX8_choices_173 : decode cX8_choices 173 = .ok (.aload_n 0, 1) := by decide +kernel
theorem dX8_choices_174 : decode cX8_choices 174 = .ok (.getfield 45, 3) := by decide +kernel
theorem dX8_choices_177 : decode cX8_choices 177 = .ok (.aload_n 0, 1) := by decide +kernel
theorem dX8_choices_178 : decode cX8_choices 178 = .ok (.getfield 109, 3) := by decide +kernel
theorem dX8_choices_181 : decode cX8_choices 181 = .ok (.iconst 1, 1) := by decide +kernel
theorem dX8_choices_182 : decode cX8_choices 182 = .ok (.iastore, 1) := by decide +kernel
theorem dX8_choices_183 : decode cX8_choices 183 = .ok (.aload_n 0, 1) := by decide +kernel
theorem dX8_choices_184 : decode cX8_choices 184 = .ok (.aload_n 0, 1) := by decide +kernel
theorem dX8_choices_185 : decode cX8_choices 185 = .ok (.getfield 39, 3) := by decide +kernel
theorem dX8_choices_188 : decode cX8_choices 188 = .ok (.aload_n 0, 1) := by decide +kernel
theorem dX8_choices_189 : decode cX8_choices 189 = .ok (.getfield 109, 3) := by decide +kernel
theorem dX8_choices_192 : decode cX8_choices 192 = .ok (.iaload, 1) := by decide +kernel
theorem dX8_choices_193 : decode cX8_choices 193 = .ok (.iconst 3, 1) := by decide +kernel
theorem dX8_choices_194 : decode cX8_choices 194 = .ok (.invokevirtual 122, 3) := by decide +kernel
theorem dX8_choices_197 : decode cX8_choices 197 = .ok (.istore 4, 2) := by decide +kernel
theorem dX8_choices_199 : decode cX8_choices 199 = .ok (.iload 4, 2) := by decide +kernel
theorem dX8_choices_201 : decode cX8_choices 201 = .ok (.ifCond .eq 96, 3) := by decide +kernel
theorem dX8_choices_204 : decode cX8_choices 204 = .ok (.aload_n 0, 1) := by decide +kernel
theorem dX8_choices_205 : decode cX8_choices 205 = .ok (.getfield 48, 3) := by decide +kernel
theorem dX8_choices_208 : decode cX8_choices 208 = .ok (.aload_n 0, 1) := by decide +kernel
theorem dX8_choices_209 : decode cX8_choices 209 = .ok (.getfield 109, 3) := by decide +kernel
theorem dX8_choices_212 : decode cX8_choices 212 = .ok (.iaload, 1) := by decide +kernel
theorem dX8_choices_213 : decode cX8_choices 213 = .ok (.bipush (-2), 2) := by decide +kernel
theorem dX8_choices_215 : decode cX8_choices 215 = .ok (.if_icmp .le 82, 3) := by decide +kernel
theorem dX8_choices_218 : decode cX8_choices 218 = .ok (.aload_n 0, 1) := by decide +kernel
theorem dX8_choices_219 : decode cX8_choices 219 = .ok (.getfield 48, 3) := by decide +kernel
theorem dX8_choices_222 : decode cX8_choices 222 = .ok (.aload_n 0, 1) := by decide +kernel
theorem dX8_choices_223 : decode cX8_choices 223 = .ok (.getfield 109, 3) := by decide +kernel
theorem dX8_choices_226 : decode cX8_choices 226 = .ok (.iaload, 1) := by decide +kernel
theorem dX8_choices_227 : decode cX8_choices 227 = .ok (.ifCond .gt 70, 3) := by decide +kernel
theorem dX8_choices_230 : decode cX8_choices 230 = .ok (.aload_n 0, 1) := by decide +kernel
theorem dX8_choices_231 : decode cX8_choices 231 = .ok (.getfield 48, 3) := by decide +kernel
theorem dX8_choices_234 : decode cX8_choices 234 = .ok (.aload_n 0, 1) := by decide +kernel
theorem dX8_choices_235 : decode cX8_choices 235 = .ok (.getfield 109, 3) := by decide +kernel
theorem dX8_choices_238 : decode cX8_choices 238 = .ok (.dup2, 1) := by decide +kernel
theorem dX8_choices_239 : decode cX8_choices 239 = .ok (.iaload, 1) := by decide +kernel
theorem dX8_choices_240 : decode cX8_choices 240 = .ok (.iconst 1, 1) := by decide +kernel
theorem dX8_choices_241 : decode cX8_choices 241 = .ok (.isub, 1) := by decide +kernel
theorem dX8_choices_242 : decode cX8_choices 242 = .ok (.iastore, 1) := by decide +kernel
theorem dX8_choices_243 : decode cX8_choices 243 = .ok (.aload_n 0, 1) := by decide +kernel
theorem dX8_choices_244 : decode cX8_choices 244 = .ok (.aload_n 0, 1) := by decide +kernel
theorem dX8_choices_245 : decode cX8_choices 245 = .ok (.getfield 48, 3) := by decide +kernel
theorem dX8_choices_248 : decode cX8_choices 248 = .ok (.aload_n 0, 1) := by decide +kernel
theorem dX8_choices_249 : decode cX8_choices 249 = .ok (.getfield 109, 3) := by decide +kernel
theorem dX8_choices_252 : decode cX8_choices 252 = .ok (.iaload, 1) := by decide +kernel
theorem dX8_choices_253 : decode cX8_choices 253 = .ok (.iconst (-1), 1) := by decide +kernel
theorem dX8_choices_254 : decode cX8_choices 254 = .ok (.if_icmp .ne 20, 3) := by decide +kernel
theorem dX8_choices_257 : decode cX8_choices 257 = .ok (.aload_n 0, 1) := by decide +kernel
theorem dX8_choices_258 : decode cX8_choices 258 = .ok (.getfield 13, 3) := by decide +kernel
theorem dX8_choices_261 : decode cX8_choices 261 = .ok (.aload_n 0, 1) := by decide +kernel
theorem dX8_choices_262 : decode cX8_choices 262 = .ok (.getfield 39, 3) := by decide +kernel
theorem dX8_choices_265 : decode cX8_choices 265 = .ok (.aload_n 0, 1) := by decide +kernel
theorem dX8_choices_266 : decode cX8_choices 266 = .ok (.getfield 109, 3) := by decide +kernel
theorem dX8_choices_269 : decode cX8_choices 269 = .ok (.iaload, 1) := by decide +kernel
theorem dX8_choices_270 : decode cX8_choices 270 = .ok (.iaload, 1) := by decide +kernel
theorem dX8_choices_271 : decode cX8_choices 271 = .ok (.goto 17, 3) := by decide +kernel
theorem dX8_choices_274 : decode cX8_choices 274 = .ok (.aload_n 0, 1) := by decide +kernel
theorem dX8_choices_275 : decode cX8_choices 275 = .ok (.getfield 16, 3) := by decide +kernel
theorem dX8_choices_278 : decode cX8_choices 278 = .ok (.aload_n 0, 1) := by decide +kernel
theorem dX8_choices_279 : decode cX8_choices 279 = .ok (.getfield 39, 3) := by decide +kernel
theorem dX8_choices_282 : decode cX8_choices 282 = .ok (.aload_n 0, 1) := by decide +kernel
theorem dX8_choices_283 : decode cX8_choices 283 = .ok (.getfield 109, 3) := by decide +kernel
theorem dX8_choices_286 : decode cX8_choices 286 = .ok (.iaload, 1) := by decide +kernel
theorem dX8_choices_287 : decode cX8_choices 287 = .ok (.iaload, 1) := by decide +kernel
theorem dX8_choices_288 : decode cX8_choices 288 = .ok (.invokevirtual 133, 3) := by decide +kernel
theorem dX8_choices_291 : decode cX8_choices 291 = .ok (.aload_n 0, 1) := by decide +kernel
theorem dX8_choices_292 : decode cX8_choices 292 = .ok (.iload_n 3, 1) := by decide +kernel
theorem dX8_choices_293 : decode cX8_choices 293 = .ok (.invokevirtual 158, 3) := by decide +kernel
theorem dX8_choices_296 : decode cX8_choices 296 = .ok (.return_, 1) := by decide +kernel
theorem dX8_choices_297 : decode cX8_choices 297 = .ok (.aload_n 0, 1) := by decide +kernel
theorem dX8_choices_298 : decode cX8_choices 298 = .ok (.getfield 48, 3) := by decide +kernel
theorem dX8_choices_301 : decode cX8_choices 301 = .ok (.aload_n 0, 1) := by decide +kernel
theorem dX8_choices_302 : decode cX8_choices 302 = .ok (.getfield 109, 3) := by decide +kernel
theorem dX8_choices_305 : decode cX8_choices 305 = .ok (.iaload, 1) := by decide +kernel
theorem dX8_choices_306 : decode cX8_choices 306 = .ok (.ifCond .ge 7, 3) := by decide +kernel
theorem dX8_choices_309 : decode cX8_choices 309 = .ok (.iconst 1, 1) := by decide +kernel
theorem dX8_choices_310 : decode cX8_choices 310 = .ok (.goto 14, 3) := by decide +kernel
theorem dX8_choices_313 : decode cX8_choices 313 = .ok (.aload_n 0, 1) := by decide +kernel
theorem dX8_choices_314 : decode cX8_choices 314 = .ok (.getfield 48, 3) := by decide +kernel
theorem dX8_choices_317 : decode cX8_choices 317 = .ok (.aload_n 0, 1) := by decide +kernel
theorem dX8_choices_318 : decode cX8_choices 318 = .ok (.getfield 109, 3) := by decide +kernel
theorem dX8_choices_321 : decode cX8_choices 321 = .ok (.iaload, 1) := by decide +kernel
theorem dX8_choices_322 : decode cX8_choices 322 = .ok (.iconst 1, 1) := by decide +kernel
theorem dX8_choices_323 : decode cX8_choices 323 = .ok (.iadd, 1) := by decide +kernel
theorem dX8_choices_324 : decode cX8_choices 324 = .ok (.istore 5, 2) := by decide +kernel
theorem dX8_choices_326 : decode cX8_choices 326 = .ok (.iload 5, 2) := by decide +kernel
theorem dX8_choices_328 : decode cX8_choices 328 = .ok (.aload_n 0, 1) := by decide +kernel
theorem dX8_choices_329 : decode cX8_choices 329 = .ok (.getfield 88, 3) := by decide +kernel
theorem dX8_choices_332 : decode cX8_choices 332 = .ok (.if_icmp .gt 48, 3) := by decide +kernel
theorem dX8_choices_335 : decode cX8_choices 335 = .ok (.aload_n 0, 1) := by decide +kernel
theorem dX8_choices_336 : decode cX8_choices 336 = .ok (.aload_n 0, 1) := by decide +kernel
theorem dX8_choices_337 : decode cX8_choices 337 = .ok (.getfield 109, 3) := by decide +kernel
theorem dX8_choices_340 : decode cX8_choices 340 = .ok (.iload 5, 2) := by decide +kernel
theorem dX8_choices_342 : decode cX8_choices 342 = .ok (.invokevirtual 118, 3) := by decide +kernel
theorem dX8_choices_345 : decode cX8_choices 345 = .ok (.ifCond .eq 29, 3) := by decide +kernel
theorem dX8_choices_348 : decode cX8_choices 348 = .ok (.aload_n 0, 1) := by decide +kernel
theorem dX8_choices_349 : decode cX8_choices 349 = .ok (.getfield 7, 3) := by decide +kernel
theorem dX8_choices_352 : decode cX8_choices 352 = .ok (.iload 5, 2) := by decide +kernel
theorem dX8_choices_354 : decode cX8_choices 354 = .ok (.iaload, 1) := by decide +kernel
theorem dX8_choices_355 : decode cX8_choices 355 = .ok (.iconst 4, 1) := by decide +kernel
theorem dX8_choices_356 : decode cX8_choices 356 = .ok (.if_icmp .ne 18, 3) := by decide +kernel
theorem dX8_choices_359 : decode cX8_choices 359 = .ok (.aload_n 0, 1) := by decide +kernel
theorem dX8_choices_360 : decode cX8_choices 360 = .ok (.aload_n 0, 1) := by decide +kernel
theorem dX8_choices_361 : decode cX8_choices 361 = .ok (.getfield 13, 3) := by decide +kernel
theorem dX8_choices_364 : decode cX8_choices 364 = .ok (.iload 5, 2) := by decide +kernel
theorem dX8_choices_366 : decode cX8_choices 366 = .ok (.iaload, 1) := by decide +kernel
theorem dX8_choices_367 : decode cX8_choices 367 = .ok (.iconst 4, 1) := by decide +kernel
theorem dX8_choices_368 : decode cX8_choices 368 = .ok (.invokevirtual 122, 3) := by decide +kernel
theorem dX8_choices_371 : decode cX8_choices 371 = .ok (.ifCond .ne 9, 3) := by decide +kernel
theorem dX8_choices_374 : decode cX8_choices 374 = .ok (.iinc 5 1, 3) := by decide +kernel
theorem dX8_choices_377 : decode cX8_choices 377 = .ok (.goto (-51), 3) := by decide +kernel
theorem dX8_choices_380 : decode cX8_choices 380 = .ok (.iload 5, 2) := by decide +kernel
theorem dX8_choices_382 : decode cX8_choices 382 = .ok (.aload_n 0, 1) := by decide +kernel
theorem dX8_choices_383 : decode cX8_choices 383 = .ok (.getfield 88, 3) := by decide +kernel
theorem dX8_choices_386 : decode cX8_choices 386 = .ok (.if_icmp .le 9, 3) := by decide +kernel
theorem dX8_choices_389 : decode cX8_choices 389 = .ok (.aload_n 0, 1) := by decide +kernel
theorem dX8_choices_390 : decode cX8_choices 390 = .ok (.iconst 0, 1) := by decide +kernel
theorem dX8_choices_391 : decode cX8_choices 391 = .ok (.invokevirtual 151, 3) := by decide +kernel
theorem dX8_choices_394 : decode cX8_choices 394 = .ok (.return_, 1) := by decide +kernel
theorem dX8_choices_395 : decode cX8_choices 395 = .ok (.aload_n 0, 1) := by decide +kernel
theorem dX8_choices_396 : decode cX8_choices 396 = .ok (.getfield 48, 3) := by decide +kernel
theorem dX8_choices_399 : decode cX8_choices 399 = .ok (.aload_n 0, 1) := by decide +kernel
theorem dX8_choices_400 : decode cX8_choices 400 = .ok (.getfield 109, 3) := by decide +kernel
theorem dX8_choices_403 : decode cX8_choices 403 = .ok (.iload 5, 2) := by decide +kernel
theorem dX8_choices_405 : decode cX8_choices 405 = .ok (.iastore, 1) := by decide +kernel
theorem dX8_choices_406 : decode cX8_choices 406 = .ok (.aload_n 0, 1) := by decide +kernel
theorem dX8_choices_407 : decode cX8_choices 407 = .ok (.getfield 13, 3) := by decide +kernel
theorem dX8_choices_410 : decode cX8_choices 410 = .ok (.iload 5, 2) := by decide +kernel
theorem dX8_choices_412 : decode cX8_choices 412 = .ok (.iaload, 1) := by decide +kernel
theorem dX8_choices_413 : decode cX8_choices 413 = .ok (.istore 6, 2) := by decide +kernel
theorem dX8_choices_415 : decode cX8_choices 415 = .ok (.aload_n 0, 1) := by decide +kernel
theorem dX8_choices_416 : decode cX8_choices 416 = .ok (.aload_n 0, 1) := by decide +kernel
theorem dX8_choices_417 : decode cX8_choices 417 = .ok (.getfield 16, 3) := by decide +kernel
theorem dX8_choices_420 : decode cX8_choices 420 = .ok (.iload 6, 2) := by decide +kernel
theorem dX8_choices_422 : decode cX8_choices 422 = .ok (.iaload, 1) := by decide +kernel
theorem dX8_choices_423 : decode cX8_choices 423 = .ok (.aload_n 0, 1) := by decide +kernel
theorem dX8_choices_424 : decode cX8_choices 424 = .ok (.getfield 16, 3) := by decide +kernel
theorem dX8_choices_427 : decode cX8_choices 427 = .ok (.iload 5, 2) := by decide +kernel
theorem dX8_choices_429 : decode cX8_choices 429 = .ok (.iaload, 1) := by decide +kernel
theorem dX8_choices_430 : decode cX8_choices 430 = .ok (.invokevirtual 141, 3) := by decide +kernel
theorem dX8_choices_433 : decode cX8_choices 433 = .ok (.istore 7, 2) := by decide +kernel
theorem dX8_choices_435 : decode cX8_choices 435 = .ok (.aload_n 0, 1) := by decide +kernel
theorem dX8_choices_436 : decode cX8_choices 436 = .ok (.iload 6, 2) := by decide +kernel
theorem dX8_choices_438 : decode cX8_choices 438 = .ok (.invokevirtual 133, 3) := by decide +kernel
theorem dX8_choices_441 : decode cX8_choices 441 = .ok (.aload_n 0, 1) := by decide +kernel
theorem dX8_choices_442 : decode cX8_choices 442 = .ok (.aload_n 0, 1) := by decide +kernel
theorem dX8_choices_443 : decode cX8_choices 443 = .ok (.getfield 109, 3) := by decide +kernel
theorem dX8_choices_446 : decode cX8_choices 446 = .ok (.iconst 1, 1) := by decide +kernel
theorem dX8_choices_447 : decode cX8_choices 447 = .ok (.iadd, 1) := by decide +kernel
theorem dX8_choices_448 : decode cX8_choices 448 = .ok (.iload 5, 2) := by decide +kernel
theorem dX8_choices_450 : decode cX8_choices 450 = .ok (.iconst 0, 1) := by decide +kernel
theorem dX8_choices_451 : decode cX8_choices 451 = .ok (.invokevirtual 137, 3) := by decide +kernel
theorem dX8_choices_454 : decode cX8_choices 454 = .ok (.aload_n 0, 1) := by decide +kernel
theorem dX8_choices_455 : decode cX8_choices 455 = .ok (.aload_n 0, 1) := by decide +kernel
theorem dX8_choices_456 : decode cX8_choices 456 = .ok (.getfield 109, 3) := by decide +kernel
theorem dX8_choices_459 : decode cX8_choices 459 = .ok (.iconst 1, 1) := by decide +kernel
theorem dX8_choices_460 : decode cX8_choices 460 = .ok (.iadd, 1) := by decide +kernel
theorem dX8_choices_461 : decode cX8_choices 461 = .ok (.iload 7, 2) := by decide +kernel
theorem dX8_choices_463 : decode cX8_choices 463 = .ok (.iconst 1, 1) := by decide +kernel
theorem dX8_choices_464 : decode cX8_choices 464 = .ok (.invokevirtual 137, 3) := by decide +kernel
theorem dX8_choices_467 : decode cX8_choices 467 = .ok (.aload_n 0, 1) := by decide +kernel
theorem dX8_choices_468 : decode cX8_choices 468 = .ok (.iload_n 3, 1) := by decide +kernel
theorem dX8_choices_469 : decode cX8_choices 469 = .ok (.invokevirtual 158, 3) := by decide +kernel
theorem dX8_choices_472 : decode cX8_choices 472 = .ok (.return_, 1) := by decide +kernel
theorem dX8_prove_0 : decode cX8_prove 0 = .ok (.aload_n 0, 1) := by decide +kernel
theorem dX8_prove_1 : decode cX8_prove 1 = .ok (.iload_n 1, 1) := by decide +kernel
theorem dX8_prove_2 : decode cX8_prove 2 = .ok (.invokevirtual 99, 3) := by decide +kernel
theorem dX8_prove_5 : decode cX8_prove 5 = .ok (.ifCond .eq 14, 3) := by decide +kernel
theorem dX8_prove_8 : decode cX8_prove 8 = .ok (.iload_n 2, 1) := by decide +kernel
theorem dX8_prove_9 : decode cX8_prove 9 = .ok (.ifCond .lt 10, 3) := by decide +kernel
theorem dX8_prove_12 : decode cX8_prove 12 = .ok (.iload_n 2, 1) := by decide +kernel
theorem dX8_prove_13 : decode cX8_prove 13 = .ok (.sipush 3000, 3) := by decide +kernel
theorem dX8_prove_16 : decode cX8_prove 16 = .ok (.if_icmp .le 5, 3) := by decide +kernel
theorem dX8_prove_19 : decode cX8_prove 19 = .ok (.iconst (-1), 1) := by decide +kernel
theorem dX8_prove_20 : decode cX8_prove 20 = .ok (.ireturn, 1) := by decide +kernel
theorem dX8_prove_21 : decode cX8_prove 21 = .ok (.aload_n 0, 1) := by decide +kernel
theorem dX8_prove_22 : decode cX8_prove 22 = .ok (.iconst 0, 1) := by decide +kernel
theorem dX8_prove_23 : decode cX8_prove 23 = .ok (.putfield 106, 3) := by decide +kernel
theorem dX8_prove_26 : decode cX8_prove 26 = .ok (.aload_n 0, 1) := by decide +kernel
theorem dX8_prove_27 : decode cX8_prove 27 = .ok (.iconst 0, 1) := by decide +kernel
theorem dX8_prove_28 : decode cX8_prove 28 = .ok (.putfield 112, 3) := by decide +kernel
theorem dX8_prove_31 : decode cX8_prove 31 = .ok (.aload_n 0, 1) := by decide +kernel
theorem dX8_prove_32 : decode cX8_prove 32 = .ok (.iconst 0, 1) := by decide +kernel
theorem dX8_prove_33 : decode cX8_prove 33 = .ok (.putfield 109, 3) := by decide +kernel
theorem dX8_prove_36 : decode cX8_prove 36 = .ok (.aload_n 0, 1) := by decide +kernel
theorem dX8_prove_37 : decode cX8_prove 37 = .ok (.iconst 0, 1) := by decide +kernel
theorem dX8_prove_38 : decode cX8_prove 38 = .ok (.putfield 115, 3) := by decide +kernel
theorem dX8_prove_41 : decode cX8_prove 41 = .ok (.iconst 0, 1) := by decide +kernel
theorem dX8_prove_42 : decode cX8_prove 42 = .ok (.istore_n 3, 1) := by decide +kernel
theorem dX8_prove_43 : decode cX8_prove 43 = .ok (.iload_n 3, 1) := by decide +kernel
theorem dX8_prove_44 : decode cX8_prove 44 = .ok (.sipush 600, 3) := by decide +kernel
theorem dX8_prove_47 : decode cX8_prove 47 = .ok (.if_icmp .ge 16, 3) := by decide +kernel
theorem dX8_prove_50 : decode cX8_prove 50 = .ok (.aload_n 0, 1) := by decide +kernel
theorem dX8_prove_51 : decode cX8_prove 51 = .ok (.getfield 35, 3) := by decide +kernel
theorem dX8_prove_54 : decode cX8_prove 54 = .ok (.iload_n 3, 1) := by decide +kernel
theorem dX8_prove_55 : decode cX8_prove 55 = .ok (.iconst 0, 1) := by decide +kernel
theorem dX8_prove_56 : decode cX8_prove 56 = .ok (.bastore, 1) := by decide +kernel
theorem dX8_prove_57 : decode cX8_prove 57 = .ok (.iinc 3 1, 3) := by decide +kernel
theorem dX8_prove_60 : decode cX8_prove 60 = .ok (.goto (-17), 3) := by decide +kernel
theorem dX8_prove_63 : decode cX8_prove 63 = .ok (.aload_n 0, 1) := by decide +kernel
theorem dX8_prove_64 : decode cX8_prove 64 = .ok (.iload_n 1, 1) := by decide +kernel
theorem dX8_prove_65 : decode cX8_prove 65 = .ok (.invokevirtual 133, 3) := by decide +kernel
theorem dX8_prove_68 : decode cX8_prove 68 = .ok (.aload_n 0, 1) := by decide +kernel
theorem dX8_prove_69 : decode cX8_prove 69 = .ok (.iload_n 2, 1) := by decide +kernel
theorem dX8_prove_70 : decode cX8_prove 70 = .ok (.invokevirtual 158, 3) := by decide +kernel
theorem dX8_prove_73 : decode cX8_prove 73 = .ok (.aload_n 0, 1) := by decide +kernel
theorem dX8_prove_74 : decode cX8_prove 74 = .ok (.getfield 109, 3) := by decide +kernel
theorem dX8_prove_77 : decode cX8_prove 77 = .ok (.ifCond .le 18, 3) := by decide +kernel
theorem dX8_prove_80 : decode cX8_prove 80 = .ok (.aload_n 0, 1) := by decide +kernel
theorem dX8_prove_81 : decode cX8_prove 81 = .ok (.getfield 106, 3) := by decide +kernel
theorem dX8_prove_84 : decode cX8_prove 84 = .ok (.ifCond .ne 11, 3) := by decide +kernel
theorem dX8_prove_87 : decode cX8_prove 87 = .ok (.aload_n 0, 1) := by decide +kernel
theorem dX8_prove_88 : decode cX8_prove 88 = .ok (.iload_n 2, 1) := by decide +kernel
theorem dX8_prove_89 : decode cX8_prove 89 = .ok (.invokevirtual 161, 3) := by decide +kernel
theorem dX8_prove_92 : decode cX8_prove 92 = .ok (.goto (-19), 3) := by decide +kernel
theorem dX8_prove_95 : decode cX8_prove 95 = .ok (.aload_n 0, 1) := by decide +kernel
theorem dX8_prove_96 : decode cX8_prove 96 = .ok (.getfield 106, 3) := by decide +kernel
theorem dX8_prove_99 : decode cX8_prove 99 = .ok (.bipush (-4), 2) := by decide +kernel
theorem dX8_prove_101 : decode cX8_prove 101 = .ok (.if_icmp .ne 8, 3) := by decide +kernel
theorem dX8_prove_104 : decode cX8_prove 104 = .ok (.aload_n 0, 1) := by decide +kernel
theorem dX8_prove_105 : decode cX8_prove 105 = .ok (.iload_n 2, 1) := by decide +kernel
theorem dX8_prove_106 : decode cX8_prove 106 = .ok (.putfield 112, 3) := by decide +kernel
theorem dX8_prove_109 : decode cX8_prove 109 = .ok (.aload_n 0, 1) := by decide +kernel
theorem dX8_prove_110 : decode cX8_prove 110 = .ok (.getfield 106, 3) := by decide +kernel
theorem dX8_prove_113 : decode cX8_prove 113 = .ok (.ifCond .eq 8, 3) := by decide +kernel
theorem dX8_prove_116 : decode cX8_prove 116 = .ok (.aload_n 0, 1) := by decide +kernel
theorem dX8_prove_117 : decode cX8_prove 117 = .ok (.getfield 106, 3) := by decide +kernel
theorem dX8_prove_120 : decode cX8_prove 120 = .ok (.ireturn, 1) := by decide +kernel
theorem dX8_prove_121 : decode cX8_prove 121 = .ok (.aload_n 0, 1) := by decide +kernel
theorem dX8_prove_122 : decode cX8_prove 122 = .ok (.getfield 115, 3) := by decide +kernel
theorem dX8_prove_125 : decode cX8_prove 125 = .ok (.ifCond .ne 8, 3) := by decide +kernel
theorem dX8_prove_128 : decode cX8_prove 128 = .ok (.bipush (-2), 2) := by decide +kernel
theorem dX8_prove_130 : decode cX8_prove 130 = .ok (.goto 11, 3) := by decide +kernel
theorem dX8_prove_133 : decode cX8_prove 133 = .ok (.aload_n 0, 1) := by decide +kernel
theorem dX8_prove_134 : decode cX8_prove 134 = .ok (.aload_n 0, 1) := by decide +kernel
theorem dX8_prove_135 : decode cX8_prove 135 = .ok (.getfield 115, 3) := by decide +kernel
theorem dX8_prove_138 : decode cX8_prove 138 = .ok (.invokevirtual 164, 3) := by decide +kernel
theorem dX8_prove_141 : decode cX8_prove 141 = .ok (.ireturn, 1) := by decide +kernel
theorem dX8_used_0 : decode cX8_used 0 = .ok (.aload_n 0, 1) := by decide +kernel
theorem dX8_used_1 : decode cX8_used 1 = .ok (.getfield 112, 3) := by decide +kernel
theorem dX8_used_4 : decode cX8_used 4 = .ok (.ireturn, 1) := by decide +kernel
theorem dX8_width_0 : decode cX8_width 0 = .ok (.iload_n 0, 1) := by decide +kernel
theorem dX8_width_1 : decode cX8_width 1 = .ok (.ifCond .ne 7, 3) := by decide +kernel
theorem dX8_width_4 : decode cX8_width 4 = .ok (.iconst 0, 1) := by decide +kernel
theorem dX8_width_5 : decode cX8_width 5 = .ok (.goto 28, 3) := by decide +kernel
theorem dX8_width_8 : decode cX8_width 8 = .ok (.iload_n 0, 1) := by decide +kernel
theorem dX8_width_9 : decode cX8_width 9 = .ok (.iconst 2, 1) := by decide +kernel
theorem dX8_width_10 : decode cX8_width 10 = .ok (.if_icmp .eq 8, 3) := by decide +kernel
theorem dX8_width_13 : decode cX8_width 13 = .ok (.iload_n 0, 1) := by decide +kernel
theorem dX8_width_14 : decode cX8_width 14 = .ok (.iconst 3, 1) := by decide +kernel
theorem dX8_width_15 : decode cX8_width 15 = .ok (.if_icmp .ne 7, 3) := by decide +kernel
theorem dX8_width_18 : decode cX8_width 18 = .ok (.iconst 2, 1) := by decide +kernel
theorem dX8_width_19 : decode cX8_width 19 = .ok (.goto 14, 3) := by decide +kernel
theorem dX8_width_22 : decode cX8_width 22 = .ok (.iload_n 0, 1) := by decide +kernel
theorem dX8_width_23 : decode cX8_width 23 = .ok (.bipush 8, 2) := by decide +kernel
theorem dX8_width_25 : decode cX8_width 25 = .ok (.if_icmp .ne 7, 3) := by decide +kernel
theorem dX8_width_28 : decode cX8_width 28 = .ok (.iconst 3, 1) := by decide +kernel
theorem dX8_width_29 : decode cX8_width 29 = .ok (.goto 4, 3) := by decide +kernel
theorem dX8_width_32 : decode cX8_width 32 = .ok (.iconst 1, 1) := by decide +kernel
theorem dX8_width_33 : decode cX8_width 33 = .ok (.ireturn, 1) := by decide +kernel
theorem dX8_keep_0 : decode cX8_keep 0 = .ok (.iconst 1, 1) := by decide +kernel
theorem dX8_keep_1 : decode cX8_keep 1 = .ok (.istore 6, 2) := by decide +kernel
theorem dX8_keep_3 : decode cX8_keep 3 = .ok (.iload 6, 2) := by decide +kernel
theorem dX8_keep_5 : decode cX8_keep 5 = .ok (.aload_n 0, 1) := by decide +kernel
theorem dX8_keep_6 : decode cX8_keep 6 = .ok (.getfield 103, 3) := by decide +kernel
theorem dX8_keep_9 : decode cX8_keep 9 = .ok (.if_icmp .gt 66, 3) := by decide +kernel
theorem dX8_keep_12 : decode cX8_keep 12 = .ok (.aload_n 0, 1) := by decide +kernel
theorem dX8_keep_13 : decode cX8_keep 13 = .ok (.getfield 19, 3) := by decide +kernel
theorem dX8_keep_16 : decode cX8_keep 16 = .ok (.iload 6, 2) := by decide +kernel
theorem dX8_keep_18 : decode cX8_keep 18 = .ok (.iaload, 1) := by decide +kernel
theorem dX8_keep_19 : decode cX8_keep 19 = .ok (.iload_n 1, 1) := by decide +kernel
theorem dX8_keep_20 : decode cX8_keep 20 = .ok (.if_icmp .ne 49, 3) := by decide +kernel
theorem dX8_keep_23 : decode cX8_keep 23 = .ok (.aload_n 0, 1) := by decide +kernel
theorem dX8_keep_24 : decode cX8_keep 24 = .ok (.getfield 22, 3) := by decide +kernel
theorem dX8_keep_27 : decode cX8_keep 27 = .ok (.iload 6, 2) := by decide +kernel
theorem dX8_keep_29 : decode cX8_keep 29 = .ok (.iaload, 1) := by decide +kernel
theorem dX8_keep_30 : decode cX8_keep 30 = .ok (.iload_n 2, 1) := by decide +kernel
theorem dX8_keep_31 : decode cX8_keep 31 = .ok (.if_icmp .ne 38, 3) := by decide +kernel
theorem dX8_keep_34 : decode cX8_keep 34 = .ok (.aload_n 0, 1) := by decide +kernel
theorem dX8_keep_35 : decode cX8_keep 35 = .ok (.getfield 25, 3) := by decide +kernel
theorem dX8_keep_38 : decode cX8_keep 38 = .ok (.iload 6, 2) := by decide +kernel
theorem dX8_keep_40 : decode cX8_keep 40 = .ok (.iaload, 1) := by decide +kernel
theorem dX8_keep_41 : decode cX8_keep 41 = .ok (.iload_n 3, 1) := by decide +kernel
theorem dX8_keep_42 : decode cX8_keep 42 = .ok (.if_icmp .ne 27, 3) := by decide +kernel
theorem dX8_keep_45 : decode cX8_keep 45 = .ok (.aload_n 0, 1) := by decide +kernel
theorem dX8_keep_46 : decode cX8_keep 46 = .ok (.getfield 28, 3) := by decide +kernel
theorem dX8_keep_49 : decode cX8_keep 49 = .ok (.iload 6, 2) := by decide +kernel
theorem dX8_keep_51 : decode cX8_keep 51 = .ok (.iaload, 1) := by decide +kernel
theorem dX8_keep_52 : decode cX8_keep 52 = .ok (.iload 4, 2) := by decide +kernel
theorem dX8_keep_54 : decode cX8_keep 54 = .ok (.if_icmp .ne 15, 3) := by decide +kernel
theorem dX8_keep_57 : decode cX8_keep 57 = .ok (.aload_n 0, 1) := by decide +kernel
theorem dX8_keep_58 : decode cX8_keep 58 = .ok (.getfield 31, 3) := by decide +kernel
theorem dX8_keep_61 : decode cX8_keep 61 = .ok (.iload 6, 2) := by decide +kernel
theorem dX8_keep_63 : decode cX8_keep 63 = .ok (.iaload, 1) := by decide +kernel
theorem dX8_keep_64 : decode cX8_keep 64 = .ok (.iload 5, 2) := by decide +kernel
theorem dX8_keep_66 : decode cX8_keep 66 = .ok (.if_icmp .eq 9, 3) := by decide +kernel
theorem dX8_keep_69 : decode cX8_keep 69 = .ok (.iinc 6 1, 3) := by decide +kernel
theorem dX8_keep_72 : decode cX8_keep 72 = .ok (.goto (-69), 3) := by decide +kernel
theorem dX8_keep_75 : decode cX8_keep 75 = .ok (.iload 6, 2) := by decide +kernel
theorem dX8_keep_77 : decode cX8_keep 77 = .ok (.aload_n 0, 1) := by decide +kernel
theorem dX8_keep_78 : decode cX8_keep 78 = .ok (.getfield 103, 3) := by decide +kernel
theorem dX8_keep_81 : decode cX8_keep 81 = .ok (.if_icmp .gt 6, 3) := by decide +kernel
theorem dX8_keep_84 : decode cX8_keep 84 = .ok (.iload 6, 2) := by decide +kernel
theorem dX8_keep_86 : decode cX8_keep 86 = .ok (.ireturn, 1) := by decide +kernel
theorem dX8_keep_87 : decode cX8_keep 87 = .ok (.aload_n 0, 1) := by decide +kernel
theorem dX8_keep_88 : decode cX8_keep 88 = .ok (.getfield 103, 3) := by decide +kernel
theorem dX8_keep_91 : decode cX8_keep 91 = .ok (.sipush 8000, 3) := by decide +kernel
theorem dX8_keep_94 : decode cX8_keep 94 = .ok (.if_icmp .ne 6, 3) := by decide +kernel
theorem dX8_keep_97 : decode cX8_keep 97 = .ok (.bipush (-3), 2) := by decide +kernel
theorem dX8_keep_99 : decode cX8_keep 99 = .ok (.ireturn, 1) := by decide +kernel
theorem dX8_keep_100 : decode cX8_keep 100 = .ok (.aload_n 0, 1) := by decide +kernel
theorem dX8_keep_101 : decode cX8_keep 101 = .ok (.dup, 1) := by decide +kernel
theorem dX8_keep_102 : decode cX8_keep 102 = .ok (.getfield 103, 3) := by decide +kernel
theorem dX8_keep_105 : decode cX8_keep 105 = .ok (.iconst 1, 1) := by decide +kernel
theorem dX8_keep_106 : decode cX8_keep 106 = .ok (.iadd, 1) := by decide +kernel
theorem dX8_keep_107 : decode cX8_keep 107 = .ok (.putfield 103, 3) := by decide +kernel
theorem dX8_keep_110 : decode cX8_keep 110 = .ok (.aload_n 0, 1) := by decide +kernel
theorem dX8_keep_111 : decode cX8_keep 111 = .ok (.getfield 19, 3) := by decide +kernel
theorem dX8_keep_114 : decode cX8_keep 114 = .ok (.iload 6, 2) := by decide +kernel
theorem dX8_keep_116 : decode cX8_keep 116 = .ok (.iload_n 1, 1) := by decide +kernel
theorem dX8_keep_117 : decode cX8_keep 117 = .ok (.iastore, 1) := by decide +kernel
theorem dX8_keep_118 : decode cX8_keep 118 = .ok (.aload_n 0, 1) := by decide +kernel
theorem dX8_keep_119 : decode cX8_keep 119 = .ok (.getfield 22, 3) := by decide +kernel
theorem dX8_keep_122 : decode cX8_keep 122 = .ok (.iload 6, 2) := by decide +kernel
theorem dX8_keep_124 : decode cX8_keep 124 = .ok (.iload_n 2, 1) := by decide +kernel
theorem dX8_keep_125 : decode cX8_keep 125 = .ok (.iastore, 1) := by decide +kernel
theorem dX8_keep_126 : decode cX8_keep 126 = .ok (.aload_n 0, 1) := by decide +kernel
theorem dX8_keep_127 : decode cX8_keep 127 = .ok (.getfield 25, 3) := by decide +kernel
theorem dX8_keep_130 : decode cX8_keep 130 = .ok (.iload 6, 2) := by decide +kernel
theorem dX8_keep_132 : decode cX8_keep 132 = .ok (.iload_n 3, 1) := by decide +kernel
theorem dX8_keep_133 : decode cX8_keep 133 = .ok (.iastore, 1) := by decide +kernel
theorem dX8_keep_134 : decode cX8_keep 134 = .ok (.aload_n 0, 1) := by decide +kernel
theorem dX8_keep_135 : decode cX8_keep 135 = .ok (.getfield 28, 3) := by decide +kernel
theorem dX8_keep_138 : decode cX8_keep 138 = .ok (.iload 6, 2) := by decide +kernel
theorem dX8_keep_140 : decode cX8_keep 140 = .ok (.iload 4, 2) := by decide +kernel
theorem dX8_keep_142 : decode cX8_keep 142 = .ok (.iastore, 1) := by decide +kernel
theorem dX8_keep_143 : decode cX8_keep 143 = .ok (.aload_n 0, 1) := by decide +kernel
theorem dX8_keep_144 : decode cX8_keep 144 = .ok (.getfield 31, 3) := by decide +kernel
theorem dX8_keep_147 : decode cX8_keep 147 = .ok (.iload 6, 2) := by decide +kernel
theorem dX8_keep_149 : decode cX8_keep 149 = .ok (.iload 5, 2) := by decide +kernel
theorem dX8_keep_151 : decode cX8_keep 151 = .ok (.iastore, 1) := by decide +kernel
theorem dX8_keep_152 : decode cX8_keep 152 = .ok (.iload 6, 2) := by decide +kernel
theorem dX8_keep_154 : decode cX8_keep 154 = .ok (.ireturn, 1) := by decide +kernel
theorem dX8_put_0 : decode cX8_put 0 = .ok (.aload_n 0, 1) := by decide +kernel
theorem dX8_put_1 : decode cX8_put 1 = .ok (.getfield 106, 3) := by decide +kernel
theorem dX8_put_4 : decode cX8_put 4 = .ok (.ifCond .eq 5, 3) := by decide +kernel
theorem dX8_put_7 : decode cX8_put 7 = .ok (.iconst 0, 1) := by decide +kernel
theorem dX8_put_8 : decode cX8_put 8 = .ok (.ireturn, 1) := by decide +kernel
theorem dX8_put_9 : decode cX8_put 9 = .ok (.aload_n 0, 1) := by decide +kernel
theorem dX8_put_10 : decode cX8_put 10 = .ok (.iload_n 1, 1) := by decide +kernel
theorem dX8_put_11 : decode cX8_put 11 = .ok (.iload_n 2, 1) := by decide +kernel
theorem dX8_put_12 : decode cX8_put 12 = .ok (.iload_n 3, 1) := by decide +kernel
theorem dX8_put_13 : decode cX8_put 13 = .ok (.iload 4, 2) := by decide +kernel
theorem dX8_put_15 : decode cX8_put 15 = .ok (.iload 5, 2) := by decide +kernel
theorem dX8_put_17 : decode cX8_put 17 = .ok (.invokevirtual 167, 3) := by decide +kernel
theorem dX8_put_20 : decode cX8_put 20 = .ok (.istore 6, 2) := by decide +kernel
theorem dX8_put_22 : decode cX8_put 22 = .ok (.iload 6, 2) := by decide +kernel
theorem dX8_put_24 : decode cX8_put 24 = .ok (.bipush (-3), 2) := by decide +kernel
theorem dX8_put_26 : decode cX8_put 26 = .ok (.if_icmp .ne 9, 3) := by decide +kernel
theorem dX8_put_29 : decode cX8_put 29 = .ok (.aload_n 0, 1) := by decide +kernel
theorem dX8_put_30 : decode cX8_put 30 = .ok (.bipush (-3), 2) := by decide +kernel
theorem dX8_put_32 : decode cX8_put 32 = .ok (.putfield 106, 3) := by decide +kernel
theorem dX8_put_35 : decode cX8_put 35 = .ok (.iload 6, 2) := by decide +kernel
theorem dX8_put_37 : decode cX8_put 37 = .ok (.bipush (-3), 2) := by decide +kernel
theorem dX8_put_39 : decode cX8_put 39 = .ok (.if_icmp .ne 7, 3) := by decide +kernel
theorem dX8_put_42 : decode cX8_put 42 = .ok (.iconst 0, 1) := by decide +kernel
theorem dX8_put_43 : decode cX8_put 43 = .ok (.goto 5, 3) := by decide +kernel
theorem dX8_put_46 : decode cX8_put 46 = .ok (.iload 6, 2) := by decide +kernel
theorem dX8_put_48 : decode cX8_put 48 = .ok (.ireturn, 1) := by decide +kernel
theorem dX8_v_0 : decode cX8_v 0 = .ok (.aload_n 0, 1) := by decide +kernel
theorem dX8_v_1 : decode cX8_v 1 = .ok (.iconst 0, 1) := by decide +kernel
theorem dX8_v_2 : decode cX8_v 2 = .ok (.iload_n 1, 1) := by decide +kernel
theorem dX8_v_3 : decode cX8_v 3 = .ok (.iconst 0, 1) := by decide +kernel
theorem dX8_v_4 : decode cX8_v 4 = .ok (.iconst 0, 1) := by decide +kernel
theorem dX8_v_5 : decode cX8_v 5 = .ok (.iconst 0, 1) := by decide +kernel
theorem dX8_v_6 : decode cX8_v 6 = .ok (.invokevirtual 171, 3) := by decide +kernel
theorem dX8_v_9 : decode cX8_v 9 = .ok (.ireturn, 1) := by decide +kernel
theorem dX8_l_0 : decode cX8_l 0 = .ok (.aload_n 0, 1) := by decide +kernel
theorem dX8_l_1 : decode cX8_l 1 = .ok (.iconst 1, 1) := by decide +kernel
theorem dX8_l_2 : decode cX8_l 2 = .ok (.aload_n 0, 1) := by decide +kernel
theorem dX8_l_3 : decode cX8_l 3 = .ok (.iload_n 1, 1) := by decide +kernel
theorem dX8_l_4 : decode cX8_l 4 = .ok (.aload_n 0, 1) := by decide +kernel
theorem dX8_l_5 : decode cX8_l 5 = .ok (.getfield 22, 3) := by decide +kernel
theorem dX8_l_8 : decode cX8_l 8 = .ok (.iload_n 2, 1) := by decide +kernel
theorem dX8_l_9 : decode cX8_l 9 = .ok (.iaload, 1) := by decide +kernel
theorem dX8_l_10 : decode cX8_l 10 = .ok (.invokevirtual 141, 3) := by decide +kernel
theorem dX8_l_13 : decode cX8_l 13 = .ok (.iload_n 2, 1) := by decide +kernel
theorem dX8_l_14 : decode cX8_l 14 = .ok (.iconst 0, 1) := by decide +kernel
theorem dX8_l_15 : decode cX8_l 15 = .ok (.iconst 0, 1) := by decide +kernel
theorem dX8_l_16 : decode cX8_l 16 = .ok (.invokevirtual 171, 3) := by decide +kernel
theorem dX8_l_19 : decode cX8_l 19 = .ok (.ireturn, 1) := by decide +kernel
theorem dX8_a_0 : decode cX8_a 0 = .ok (.aload_n 0, 1) := by decide +kernel
theorem dX8_a_1 : decode cX8_a 1 = .ok (.iconst 2, 1) := by decide +kernel
theorem dX8_a_2 : decode cX8_a 2 = .ok (.aload_n 0, 1) := by decide +kernel
theorem dX8_a_3 : decode cX8_a 3 = .ok (.getfield 16, 3) := by decide +kernel
theorem dX8_a_6 : decode cX8_a 6 = .ok (.aload_n 0, 1) := by decide +kernel
theorem dX8_a_7 : decode cX8_a 7 = .ok (.getfield 22, 3) := by decide +kernel
theorem dX8_a_10 : decode cX8_a 10 = .ok (.iload_n 1, 1) := by decide +kernel
theorem dX8_a_11 : decode cX8_a 11 = .ok (.iaload, 1) := by decide +kernel
theorem dX8_a_12 : decode cX8_a 12 = .ok (.iaload, 1) := by decide +kernel
theorem dX8_a_13 : decode cX8_a 13 = .ok (.iload_n 1, 1) := by decide +kernel
theorem dX8_a_14 : decode cX8_a 14 = .ok (.iload_n 2, 1) := by decide +kernel
theorem dX8_a_15 : decode cX8_a 15 = .ok (.iconst 0, 1) := by decide +kernel
theorem dX8_a_16 : decode cX8_a 16 = .ok (.invokevirtual 171, 3) := by decide +kernel
theorem dX8_a_19 : decode cX8_a 19 = .ok (.ireturn, 1) := by decide +kernel
theorem dX8_lay_0 : decode cX8_lay 0 = .ok (.iconst 1, 1) := by decide +kernel
theorem dX8_lay_1 : decode cX8_lay 1 = .ok (.istore_n 2, 1) := by decide +kernel
theorem dX8_lay_2 : decode cX8_lay 2 = .ok (.aload_n 0, 1) := by decide +kernel
theorem dX8_lay_3 : decode cX8_lay 3 = .ok (.getfield 66, 3) := by decide +kernel
theorem dX8_lay_6 : decode cX8_lay 6 = .ok (.iconst 1, 1) := by decide +kernel
theorem dX8_lay_7 : decode cX8_lay 7 = .ok (.iload_n 1, 1) := by decide +kernel
theorem dX8_lay_8 : decode cX8_lay 8 = .ok (.iastore, 1) := by decide +kernel
theorem dX8_lay_9 : decode cX8_lay 9 = .ok (.aload_n 0, 1) := by decide +kernel
theorem dX8_lay_10 : decode cX8_lay 10 = .ok (.getfield 69, 3) := by decide +kernel
theorem dX8_lay_13 : decode cX8_lay 13 = .ok (.iconst 1, 1) := by decide +kernel
theorem dX8_lay_14 : decode cX8_lay 14 = .ok (.iconst 0, 1) := by decide +kernel
theorem dX8_lay_15 : decode cX8_lay 15 = .ok (.iastore, 1) := by decide +kernel
theorem dX8_lay_16 : decode cX8_lay 16 = .ok (.iconst 0, 1) := by decide +kernel
theorem dX8_lay_17 : decode cX8_lay 17 = .ok (.istore_n 3, 1) := by decide +kernel
theorem dX8_lay_18 : decode cX8_lay 18 = .ok (.iload_n 2, 1) := by decide +kernel
theorem dX8_lay_19 : decode cX8_lay 19 = .ok (.ifCond .le 329, 3) := by decide +kernel
theorem dX8_lay_22 : decode cX8_lay 22 = .ok (.aload_n 0, 1) := by decide +kernel
theorem dX8_lay_23 : decode cX8_lay 23 = .ok (.getfield 106, 3) := by decide +kernel
theorem dX8_lay_26 : decode cX8_lay 26 = .ok (.ifCond .ne 322, 3) := by decide +kernel
theorem dX8_lay_29 : decode cX8_lay 29 = .ok (.aload_n 0, 1) := by decide +kernel
theorem dX8_lay_30 : decode cX8_lay 30 = .ok (.getfield 66, 3) := by decide +kernel
theorem dX8_lay_33 : decode cX8_lay 33 = .ok (.iload_n 2, 1) := by decide +kernel
theorem dX8_lay_34 : decode cX8_lay 34 = .ok (.iaload, 1) := by decide +kernel
theorem dX8_lay_35 : decode cX8_lay 35 = .ok (.istore 4, 2) := by decide +kernel
theorem dX8_lay_37 : decode cX8_lay 37 = .ok (.aload_n 0, 1) := by decide +kernel
theorem dX8_lay_38 : decode cX8_lay 38 = .ok (.getfield 69, 3) := by decide +kernel
theorem dX8_lay_41 : decode cX8_lay 41 = .ok (.iload_n 2, 1) := by decide +kernel
theorem dX8_lay_42 : decode cX8_lay 42 = .ok (.iaload, 1) := by decide +kernel
theorem dX8_lay_43 : decode cX8_lay 43 = .ok (.istore 5, 2) := by decide +kernel
theorem dX8_lay_45 : decode cX8_lay 45 = .ok (.aload_n 0, 1) := by decide +kernel
theorem dX8_lay_46 : decode cX8_lay 46 = .ok (.getfield 69, 3) := by decide +kernel
theorem dX8_lay_49 : decode cX8_lay 49 = .ok (.iload_n 2, 1) := by decide +kernel
theorem dX8_lay_50 : decode cX8_lay 50 = .ok (.dup2, 1) := by decide +kernel
theorem dX8_lay_51 : decode cX8_lay 51 = .ok (.iaload, 1) := by decide +kernel
theorem dX8_lay_52 : decode cX8_lay 52 = .ok (.iconst 1, 1) := by decide +kernel
theorem dX8_lay_53 : decode cX8_lay 53 = .ok (.iadd, 1) := by decide +kernel
theorem dX8_lay_54 : decode cX8_lay 54 = .ok (.iastore, 1) := by decide +kernel
theorem dX8_lay_55 : decode cX8_lay 55 = .ok (.iconst 0, 1) := by decide +kernel
theorem dX8_lay_56 : decode cX8_lay 56 = .ok (.istore 6, 2) := by decide +kernel
theorem dX8_lay_58 : decode cX8_lay 58 = .ok (.aload_n 0, 1) := by decide +kernel
theorem dX8_lay_59 : decode cX8_lay 59 = .ok (.getfield 51, 3) := by decide +kernel
theorem dX8_lay_62 : decode cX8_lay 62 = .ok (.iload 4, 2) := by decide +kernel
theorem dX8_lay_64 : decode cX8_lay 64 = .ok (.iaload, 1) := by decide +kernel
theorem dX8_lay_65 : decode cX8_lay 65 = .ok (.bipush 11, 2) := by decide +kernel
theorem dX8_lay_67 : decode cX8_lay 67 = .ok (.if_icmp .ne 127, 3) := by decide +kernel
theorem dX8_lay_70 : decode cX8_lay 70 = .ok (.aload_n 0, 1) := by decide +kernel
theorem dX8_lay_71 : decode cX8_lay 71 = .ok (.getfield 54, 3) := by decide +kernel
theorem dX8_lay_74 : decode cX8_lay 74 = .ok (.iload 4, 2) := by decide +kernel
theorem dX8_lay_76 : decode cX8_lay 76 = .ok (.iaload, 1) := by decide +kernel
theorem dX8_lay_77 : decode cX8_lay 77 = .ok (.ifCond .ge 7, 3) := by decide +kernel
theorem dX8_lay_80 : decode cX8_lay 80 = .ok (.iconst 1, 1) := by decide +kernel
theorem dX8_lay_81 : decode cX8_lay 81 = .ok (.goto 4, 3) := by decide +kernel
theorem dX8_lay_84 : decode cX8_lay 84 = .ok (.iconst 0, 1) := by decide +kernel
theorem dX8_lay_85 : decode cX8_lay 85 = .ok (.istore 7, 2) := by decide +kernel
theorem dX8_lay_87 : decode cX8_lay 87 = .ok (.iload 5, 2) := by decide +kernel
theorem dX8_lay_89 : decode cX8_lay 89 = .ok (.ifCond .ne 28, 3) := by decide +kernel
theorem dX8_lay_92 : decode cX8_lay 92 = .ok (.iload 7, 2) := by decide +kernel
theorem dX8_lay_94 : decode cX8_lay 94 = .ok (.ifCond .eq 13, 3) := by decide +kernel
theorem dX8_lay_97 : decode cX8_lay 97 = .ok (.aload_n 0, 1) := by decide +kernel
theorem dX8_lay_98 : decode cX8_lay 98 = .ok (.getfield 60, 3) := by decide +kernel
theorem dX8_lay_101 : decode cX8_lay 101 = .ok (.iload 4, 2) := by decide +kernel
theorem dX8_lay_103 : decode cX8_lay 103 = .ok (.iaload, 1) := by decide +kernel
theorem dX8_lay_104 : decode cX8_lay 104 = .ok (.goto 35, 3) := by decide +kernel
theorem dX8_lay_107 : decode cX8_lay 107 = .ok (.aload_n 0, 1) := by decide +kernel
theorem dX8_lay_108 : decode cX8_lay 108 = .ok (.getfield 63, 3) := by decide +kernel
theorem dX8_lay_111 : decode cX8_lay 111 = .ok (.iload 4, 2) := by decide +kernel
theorem dX8_lay_113 : decode cX8_lay 113 = .ok (.iaload, 1) := by decide +kernel
theorem dX8_lay_114 : decode cX8_lay 114 = .ok (.goto 25, 3) := by decide +kernel
theorem dX8_lay_117 : decode cX8_lay 117 = .ok (.iload 5, 2) := by decide +kernel
theorem dX8_lay_119 : decode cX8_lay 119 = .ok (.iconst 1, 1) := by decide +kernel
theorem dX8_lay_120 : decode cX8_lay 120 = .ok (.if_icmp .ne 18, 3) := by decide +kernel
theorem dX8_lay_123 : decode cX8_lay 123 = .ok (.iload 7, 2) := by decide +kernel
theorem dX8_lay_125 : decode cX8_lay 125 = .ok (.ifCond .ne 13, 3) := by decide +kernel
theorem dX8_lay_128 : decode cX8_lay 128 = .ok (.aload_n 0, 1) := by decide +kernel
theorem dX8_lay_129 : decode cX8_lay 129 = .ok (.getfield 60, 3) := by decide +kernel
theorem dX8_lay_132 : decode cX8_lay 132 = .ok (.iload 4, 2) := by decide +kernel
theorem dX8_lay_134 : decode cX8_lay 134 = .ok (.iaload, 1) := by decide +kernel
theorem dX8_lay_135 : decode cX8_lay 135 = .ok (.goto 4, 3) := by decide +kernel
theorem dX8_lay_138 : decode cX8_lay 138 = .ok (.iconst 0, 1) := by decide +kernel
theorem dX8_lay_139 : decode cX8_lay 139 = .ok (.istore 6, 2) := by decide +kernel
theorem dX8_lay_141 : decode cX8_lay 141 = .ok (.iload 5, 2) := by decide +kernel
theorem dX8_lay_143 : decode cX8_lay 143 = .ok (.iconst 1, 1) := by decide +kernel
theorem dX8_lay_144 : decode cX8_lay 144 = .ok (.if_icmp .ne 47, 3) := by decide +kernel
theorem dX8_lay_147 : decode cX8_lay 147 = .ok (.iload 7, 2) := by decide +kernel
theorem dX8_lay_149 : decode cX8_lay 149 = .ok (.ifCond .ne 42, 3) := by decide +kernel
theorem dX8_lay_152 : decode cX8_lay 152 = .ok (.aload_n 0, 1) := by decide +kernel
theorem dX8_lay_153 : decode cX8_lay 153 = .ok (.getfield 54, 3) := by decide +kernel
theorem dX8_lay_156 : decode cX8_lay 156 = .ok (.iload 4, 2) := by decide +kernel
theorem dX8_lay_158 : decode cX8_lay 158 = .ok (.iaload, 1) := by decide +kernel
theorem dX8_lay_159 : decode cX8_lay 159 = .ok (.istore 8, 2) := by decide +kernel
theorem dX8_lay_161 : decode cX8_lay 161 = .ok (.aload_n 0, 1) := by decide +kernel
theorem dX8_lay_162 : decode cX8_lay 162 = .ok (.getfield 75, 3) := by decide +kernel
theorem dX8_lay_165 : decode cX8_lay 165 = .ok (.iload_n 2, 1) := by decide +kernel
theorem dX8_lay_166 : decode cX8_lay 166 = .ok (.aload_n 0, 1) := by decide +kernel
theorem dX8_lay_167 : decode cX8_lay 167 = .ok (.aload_n 0, 1) := by decide +kernel
theorem dX8_lay_168 : decode cX8_lay 168 = .ok (.getfield 16, 3) := by decide +kernel
theorem dX8_lay_171 : decode cX8_lay 171 = .ok (.iload 8, 2) := by decide +kernel
theorem dX8_lay_173 : decode cX8_lay 173 = .ok (.iaload, 1) := by decide +kernel
theorem dX8_lay_174 : decode cX8_lay 174 = .ok (.iload_n 3, 1) := by decide +kernel
theorem dX8_lay_175 : decode cX8_lay 175 = .ok (.invokevirtual 174, 3) := by decide +kernel
theorem dX8_lay_178 : decode cX8_lay 178 = .ok (.iastore, 1) := by decide +kernel
theorem dX8_lay_179 : decode cX8_lay 179 = .ok (.aload_n 0, 1) := by decide +kernel
theorem dX8_lay_180 : decode cX8_lay 180 = .ok (.getfield 72, 3) := by decide +kernel
theorem dX8_lay_183 : decode cX8_lay 183 = .ok (.iload_n 2, 1) := by decide +kernel
theorem dX8_lay_184 : decode cX8_lay 184 = .ok (.aload_n 0, 1) := by decide +kernel
theorem dX8_lay_185 : decode cX8_lay 185 = .ok (.iload 8, 2) := by decide +kernel
theorem dX8_lay_187 : decode cX8_lay 187 = .ok (.invokevirtual 177, 3) := by decide +kernel
theorem dX8_lay_190 : decode cX8_lay 190 = .ok (.iastore, 1) := by decide +kernel
theorem dX8_lay_191 : decode cX8_lay 191 = .ok (.goto 105, 3) := by decide +kernel
theorem dX8_lay_194 : decode cX8_lay 194 = .ok (.aload_n 0, 1) := by decide +kernel
theorem dX8_lay_195 : decode cX8_lay 195 = .ok (.getfield 51, 3) := by decide +kernel
theorem dX8_lay_198 : decode cX8_lay 198 = .ok (.iload 4, 2) := by decide +kernel
theorem dX8_lay_200 : decode cX8_lay 200 = .ok (.iaload, 1) := by decide +kernel
theorem dX8_lay_201 : decode cX8_lay 201 = .ok (.iconst 2, 1) := by decide +kernel
theorem dX8_lay_202 : decode cX8_lay 202 = .ok (.if_icmp .le 94, 3) := by decide +kernel
theorem dX8_lay_205 : decode cX8_lay 205 = .ok (.iload 5, 2) := by decide +kernel
theorem dX8_lay_207 : decode cX8_lay 207 = .ok (.ifCond .ne 32, 3) := by decide +kernel
theorem dX8_lay_210 : decode cX8_lay 210 = .ok (.aload_n 0, 1) := by decide +kernel
theorem dX8_lay_211 : decode cX8_lay 211 = .ok (.getfield 51, 3) := by decide +kernel
theorem dX8_lay_214 : decode cX8_lay 214 = .ok (.iload 4, 2) := by decide +kernel
theorem dX8_lay_216 : decode cX8_lay 216 = .ok (.iaload, 1) := by decide +kernel
theorem dX8_lay_217 : decode cX8_lay 217 = .ok (.bipush 6, 2) := by decide +kernel
theorem dX8_lay_219 : decode cX8_lay 219 = .ok (.if_icmp .ne 20, 3) := by decide +kernel
theorem dX8_lay_222 : decode cX8_lay 222 = .ok (.aload_n 0, 1) := by decide +kernel
