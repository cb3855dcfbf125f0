theorem dL_below_0 : decode cL_below 0 = .ok (.iload_n 0, 1) := by decide +kernel
theorem dL_below_1 : decode cL_below 1 = .ok (.ldc 7, 2) := by decide +kernel
theorem dL_below_3 : decode cL_below 3 = .ok (.iand, 1) := by decide +kernel
theorem dL_below_4 : decode cL_below 4 = .ok (.iload_n 1, 1) := by decide +kernel
theorem dL_below_5 : decode cL_below 5 = .ok (.irem, 1) := by decide +kernel
theorem dL_below_6 : decode cL_below 6 = .ok (.ireturn, 1) := by decide +kernel
theorem dL_cell_0 : decode cL_cell 0 = .ok (.iload_n 1, 1) := by decide +kernel
theorem dL_cell_1 : decode cL_cell 1 = .ok (.aload_n 0, 1) := by decide +kernel
theorem dL_cell_2 : decode cL_cell 2 = .ok (.arraylength, 1) := by decide +kernel
theorem dL_cell_3 : decode cL_cell 3 = .ok (.if_icmp .ge 9, 3) := by decide +kernel
theorem dL_cell_6 : decode cL_cell 6 = .ok (.aload_n 0, 1) := by decide +kernel
theorem dL_cell_7 : decode cL_cell 7 = .ok (.iload_n 1, 1) := by decide +kernel
theorem dL_cell_8 : decode cL_cell 8 = .ok (.iaload, 1) := by decide +kernel
theorem dL_cell_9 : decode cL_cell 9 = .ok (.goto 9, 3) := by decide +kernel
theorem dL_cell_12 : decode cL_cell 12 = .ok (.ldc 8, 2) := by decide +kernel
theorem dL_cell_14 : decode cL_cell 14 = .ok (.iload_n 1, 1) := by decide +kernel
theorem dL_cell_15 : decode cL_cell 15 = .ok (.iconst 3, 1) := by decide +kernel
theorem dL_cell_16 : decode cL_cell 16 = .ok (.iadd, 1) := by decide +kernel
theorem dL_cell_17 : decode cL_cell 17 = .ok (.imul, 1) := by decide +kernel
theorem dL_cell_18 : decode cL_cell 18 = .ok (.ireturn, 1) := by decide +kernel
theorem dL_made_0 : decode cL_made 0 = .ok (.iconst 2, 1) := by decide +kernel
theorem dL_made_1 : decode cL_made 1 = .ok (.aload_n 1, 1) := by decide +kernel
theorem dL_made_2 : decode cL_made 2 = .ok (.iconst 0, 1) := by decide +kernel
theorem dL_made_3 : decode cL_made 3 = .ok (.invokestatic 9, 3) := by decide +kernel
theorem dL_made_6 : decode cL_made 6 = .ok (.iconst 5, 1) := by decide +kernel
theorem dL_made_7 : decode cL_made 7 = .ok (.invokestatic 15, 3) := by decide +kernel
theorem dL_made_10 : decode cL_made 10 = .ok (.iadd, 1) := by decide +kernel
theorem dL_made_11 : decode cL_made 11 = .ok (.istore_n 3, 1) := by decide +kernel
theorem dL_made_12 : decode cL_made 12 = .ok (.iconst 0, 1) := by decide +kernel
theorem dL_made_13 : decode cL_made 13 = .ok (.istore 4, 2) := by decide +kernel
theorem dL_made_15 : decode cL_made 15 = .ok (.iload 4, 2) := by decide +kernel
theorem dL_made_17 : decode cL_made 17 = .ok (.iload_n 3, 1) := by decide +kernel
theorem dL_made_18 : decode cL_made 18 = .ok (.if_icmp .ge 184, 3) := by decide +kernel
theorem dL_made_21 : decode cL_made 21 = .ok (.aload_n 1, 1) := by decide +kernel
theorem dL_made_22 : decode cL_made 22 = .ok (.iconst 1, 1) := by decide +kernel
theorem dL_made_23 : decode cL_made 23 = .ok (.iload 4, 2) := by decide +kernel
theorem dL_made_25 : decode cL_made 25 = .ok (.iadd, 1) := by decide +kernel
theorem dL_made_26 : decode cL_made 26 = .ok (.invokestatic 9, 3) := by decide +kernel
theorem dL_made_29 : decode cL_made 29 = .ok (.istore 5, 2) := by decide +kernel
theorem dL_made_31 : decode cL_made 31 = .ok (.aload_n 0, 1) := by decide +kernel
theorem dL_made_32 : decode cL_made 32 = .ok (.iload 5, 2) := by decide +kernel
theorem dL_made_34 : decode cL_made 34 = .ok (.bipush 6, 2) := by decide +kernel
theorem dL_made_36 : decode cL_made 36 = .ok (.invokestatic 15, 3) := by decide +kernel
theorem dL_made_39 : decode cL_made 39 = .ok (.iload_n 2, 1) := by decide +kernel
theorem dL_made_40 : decode cL_made 40 = .ok (.iadd, 1) := by decide +kernel
theorem dL_made_41 : decode cL_made 41 = .ok (.iload 5, 2) := by decide +kernel
theorem dL_made_43 : decode cL_made 43 = .ok (.iconst 3, 1) := by decide +kernel
theorem dL_made_44 : decode cL_made 44 = .ok (.ishr, 1) := by decide +kernel
theorem dL_made_45 : decode cL_made 45 = .ok (.iconst 3, 1) := by decide +kernel
theorem dL_made_46 : decode cL_made 46 = .ok (.invokestatic 15, 3) := by decide +kernel
theorem dL_made_49 : decode cL_made 49 = .ok (.iconst 1, 1) := by decide +kernel
theorem dL_made_50 : decode cL_made 50 = .ok (.iload 5, 2) := by decide +kernel
theorem dL_made_52 : decode cL_made 52 = .ok (.iconst 5, 1) := by decide +kernel
theorem dL_made_53 : decode cL_made 53 = .ok (.ishr, 1) := by decide +kernel
theorem dL_made_54 : decode cL_made 54 = .ok (.iconst 3, 1) := by decide +kernel
theorem dL_made_55 : decode cL_made 55 = .ok (.invokestatic 15, 3) := by decide +kernel
theorem dL_made_58 : decode cL_made 58 = .ok (.iadd, 1) := by decide +kernel
theorem dL_made_59 : decode cL_made 59 = .ok (.invokevirtual 19, 3) := by decide +kernel
theorem dL_made_62 : decode cL_made 62 = .ok (.pop, 1) := by decide +kernel
theorem dL_made_63 : decode cL_made 63 = .ok (.iconst 0, 1) := by decide +kernel
theorem dL_made_64 : decode cL_made 64 = .ok (.istore 6, 2) := by decide +kernel
theorem dL_made_66 : decode cL_made 66 = .ok (.iload 6, 2) := by decide +kernel
theorem dL_made_68 : decode cL_made 68 = .ok (.iload 5, 2) := by decide +kernel
theorem dL_made_70 : decode cL_made 70 = .ok (.bipush 7, 2) := by decide +kernel
theorem dL_made_72 : decode cL_made 72 = .ok (.ishr, 1) := by decide +kernel
theorem dL_made_73 : decode cL_made 73 = .ok (.bipush 6, 2) := by decide +kernel
theorem dL_made_75 : decode cL_made 75 = .ok (.invokestatic 15, 3) := by decide +kernel
theorem dL_made_78 : decode cL_made 78 = .ok (.if_icmp .ge 99, 3) := by decide +kernel
theorem dL_made_81 : decode cL_made 81 = .ok (.aload_n 1, 1) := by decide +kernel
theorem dL_made_82 : decode cL_made 82 = .ok (.bipush 8, 2) := by decide +kernel
theorem dL_made_84 : decode cL_made 84 = .ok (.iconst 5, 1) := by decide +kernel
theorem dL_made_85 : decode cL_made 85 = .ok (.iload 4, 2) := by decide +kernel
theorem dL_made_87 : decode cL_made 87 = .ok (.imul, 1) := by decide +kernel
theorem dL_made_88 : decode cL_made 88 = .ok (.iload 6, 2) := by decide +kernel
theorem dL_made_90 : decode cL_made 90 = .ok (.iadd, 1) := by decide +kernel
theorem dL_made_91 : decode cL_made 91 = .ok (.bipush 14, 2) := by decide +kernel
theorem dL_made_93 : decode cL_made 93 = .ok (.irem, 1) := by decide +kernel
theorem dL_made_94 : decode cL_made 94 = .ok (.iadd, 1) := by decide +kernel
theorem dL_made_95 : decode cL_made 95 = .ok (.invokestatic 9, 3) := by decide +kernel
theorem dL_made_98 : decode cL_made 98 = .ok (.iload 4, 2) := by decide +kernel
theorem dL_made_100 : decode cL_made 100 = .ok (.iload 6, 2) := by decide +kernel
theorem dL_made_102 : decode cL_made 102 = .ok (.iadd, 1) := by decide +kernel
theorem dL_made_103 : decode cL_made 103 = .ok (.iconst 4, 1) := by decide +kernel
theorem dL_made_104 : decode cL_made 104 = .ok (.irem, 1) := by decide +kernel
theorem dL_made_105 : decode cL_made 105 = .ok (.iconst 3, 1) := by decide +kernel
theorem dL_made_106 : decode cL_made 106 = .ok (.imul, 1) := by decide +kernel
theorem dL_made_107 : decode cL_made 107 = .ok (.ishr, 1) := by decide +kernel
theorem dL_made_108 : decode cL_made 108 = .ok (.istore 7, 2) := by decide +kernel
theorem dL_made_110 : decode cL_made 110 = .ok (.iload 7, 2) := by decide +kernel
theorem dL_made_112 : decode cL_made 112 = .ok (.bipush 9, 2) := by decide +kernel
theorem dL_made_114 : decode cL_made 114 = .ok (.invokestatic 15, 3) := by decide +kernel
theorem dL_made_117 : decode cL_made 117 = .ok (.bipush 6, 2) := by decide +kernel
theorem dL_made_119 : decode cL_made 119 = .ok (.if_icmp .le 7, 3) := by decide +kernel
theorem dL_made_122 : decode cL_made 122 = .ok (.iconst 0, 1) := by decide +kernel
theorem dL_made_123 : decode cL_made 123 = .ok (.goto 10, 3) := by decide +kernel
theorem dL_made_126 : decode cL_made 126 = .ok (.iload 7, 2) := by decide +kernel
theorem dL_made_128 : decode cL_made 128 = .ok (.bipush 9, 2) := by decide +kernel
theorem dL_made_130 : decode cL_made 130 = .ok (.invokestatic 15, 3) := by decide +kernel
theorem dL_made_133 : decode cL_made 133 = .ok (.istore 8, 2) := by decide +kernel
theorem dL_made_135 : decode cL_made 135 = .ok (.aload_n 0, 1) := by decide +kernel
theorem dL_made_136 : decode cL_made 136 = .ok (.iload 4, 2) := by decide +kernel
theorem dL_made_138 : decode cL_made 138 = .ok (.iload 8, 2) := by decide +kernel
theorem dL_made_140 : decode cL_made 140 = .ok (.iload 8, 2) := by decide +kernel
theorem dL_made_142 : decode cL_made 142 = .ok (.iconst 2, 1) := by decide +kernel
theorem dL_made_143 : decode cL_made 143 = .ok (.if_icmp .ge 16, 3) := by decide +kernel
theorem dL_made_146 : decode cL_made 146 = .ok (.iconst 1, 1) := by decide +kernel
theorem dL_made_147 : decode cL_made 147 = .ok (.iload 7, 2) := by decide +kernel
theorem dL_made_149 : decode cL_made 149 = .ok (.iconst 4, 1) := by decide +kernel
theorem dL_made_150 : decode cL_made 150 = .ok (.ishr, 1) := by decide +kernel
theorem dL_made_151 : decode cL_made 151 = .ok (.iconst 4, 1) := by decide +kernel
theorem dL_made_152 : decode cL_made 152 = .ok (.invokestatic 15, 3) := by decide +kernel
theorem dL_made_155 : decode cL_made 155 = .ok (.iadd, 1) := by decide +kernel
theorem dL_made_156 : decode cL_made 156 = .ok (.goto 11, 3) := by decide +kernel
theorem dL_made_159 : decode cL_made 159 = .ok (.iload 7, 2) := by decide +kernel
theorem dL_made_161 : decode cL_made 161 = .ok (.iconst 4, 1) := by decide +kernel
theorem dL_made_162 : decode cL_made 162 = .ok (.ishr, 1) := by decide +kernel
theorem dL_made_163 : decode cL_made 163 = .ok (.iconst 3, 1) := by decide +kernel
theorem dL_made_164 : decode cL_made 164 = .ok (.invokestatic 15, 3) := by decide +kernel
theorem dL_made_167 : decode cL_made 167 = .ok (.invokevirtual 25, 3) := by decide +kernel
theorem dL_made_170 : decode cL_made 170 = .ok (.pop, 1) := by decide +kernel
theorem dL_made_171 : decode cL_made 171 = .ok (.iinc 6 1, 3) := by decide +kernel
theorem dL_made_174 : decode cL_made 174 = .ok (.goto (-108), 3) := by decide +kernel
theorem dL_made_177 : decode cL_made 177 = .ok (.aload_n 0, 1) := by decide +kernel
theorem dL_made_178 : decode cL_made 178 = .ok (.iload 4, 2) := by decide +kernel
theorem dL_made_180 : decode cL_made 180 = .ok (.iconst 0, 1) := by decide +kernel
theorem dL_made_181 : decode cL_made 181 = .ok (.iconst 1, 1) := by decide +kernel
theorem dL_made_182 : decode cL_made 182 = .ok (.iload 5, 2) := by decide +kernel
theorem dL_made_184 : decode cL_made 184 = .ok (.bipush 9, 2) := by decide +kernel
theorem dL_made_186 : decode cL_made 186 = .ok (.ishr, 1) := by decide +kernel
theorem dL_made_187 : decode cL_made 187 = .ok (.iconst 4, 1) := by decide +kernel
theorem dL_made_188 : decode cL_made 188 = .ok (.invokestatic 15, 3) := by decide +kernel
theorem dL_made_191 : decode cL_made 191 = .ok (.iadd, 1) := by decide +kernel
theorem dL_made_192 : decode cL_made 192 = .ok (.invokevirtual 25, 3) := by decide +kernel
theorem dL_made_195 : decode cL_made 195 = .ok (.pop, 1) := by decide +kernel
theorem dL_made_196 : decode cL_made 196 = .ok (.iinc 4 1, 3) := by decide +kernel
theorem dL_made_199 : decode cL_made 199 = .ok (.goto (-184), 3) := by decide +kernel
theorem dL_made_202 : decode cL_made 202 = .ok (.iload_n 3, 1) := by decide +kernel
theorem dL_made_203 : decode cL_made 203 = .ok (.ireturn, 1) := by decide +kernel
theorem dL_set_0 : decode cL_set 0 = .ok (.aload_n 0, 1) := by decide +kernel
theorem dL_set_1 : decode cL_set 1 = .ok (.iconst 1, 1) := by decide +kernel
theorem dL_set_2 : decode cL_set 2 = .ok (.iload_n 1, 1) := by decide +kernel
theorem dL_set_3 : decode cL_set 3 = .ok (.iconst 3, 1) := by decide +kernel
theorem dL_set_4 : decode cL_set 4 = .ok (.invokestatic 15, 3) := by decide +kernel
theorem dL_set_7 : decode cL_set 7 = .ok (.iadd, 1) := by decide +kernel
theorem dL_set_8 : decode cL_set 8 = .ok (.invokevirtual 28, 3) := by decide +kernel
theorem dL_set_11 : decode cL_set 11 = .ok (.pop, 1) := by decide +kernel
theorem dL_set_12 : decode cL_set 12 = .ok (.aload_n 0, 1) := by decide +kernel
theorem dL_set_13 : decode cL_set 13 = .ok (.iload_n 1, 1) := by decide +kernel
theorem dL_set_14 : decode cL_set 14 = .ok (.iconst 2, 1) := by decide +kernel
theorem dL_set_15 : decode cL_set 15 = .ok (.ishr, 1) := by decide +kernel
theorem dL_set_16 : decode cL_set 16 = .ok (.iconst 3, 1) := by decide +kernel
theorem dL_set_17 : decode cL_set 17 = .ok (.invokestatic 15, 3) := by decide +kernel
theorem dL_set_20 : decode cL_set 20 = .ok (.iconst 1, 1) := by decide +kernel
theorem dL_set_21 : decode cL_set 21 = .ok (.iload_n 1, 1) := by decide +kernel
theorem dL_set_22 : decode cL_set 22 = .ok (.iconst 4, 1) := by decide +kernel
theorem dL_set_23 : decode cL_set 23 = .ok (.ishr, 1) := by decide +kernel
theorem dL_set_24 : decode cL_set 24 = .ok (.iconst 4, 1) := by decide +kernel
theorem dL_set_25 : decode cL_set 25 = .ok (.invokestatic 15, 3) := by decide +kernel
theorem dL_set_28 : decode cL_set 28 = .ok (.iadd, 1) := by decide +kernel
theorem dL_set_29 : decode cL_set 29 = .ok (.iload_n 1, 1) := by decide +kernel
theorem dL_set_30 : decode cL_set 30 = .ok (.bipush 6, 2) := by decide +kernel
theorem dL_set_32 : decode cL_set 32 = .ok (.ishr, 1) := by decide +kernel
theorem dL_set_33 : decode cL_set 33 = .ok (.iconst 3, 1) := by decide +kernel
theorem dL_set_34 : decode cL_set 34 = .ok (.invokestatic 15, 3) := by decide +kernel
theorem dL_set_37 : decode cL_set 37 = .ok (.bipush 6, 2) := by decide +kernel
theorem dL_set_39 : decode cL_set 39 = .ok (.imul, 1) := by decide +kernel
theorem dL_set_40 : decode cL_set 40 = .ok (.invokevirtual 32, 3) := by decide +kernel
theorem dL_set_43 : decode cL_set 43 = .ok (.pop, 1) := by decide +kernel
theorem dL_set_44 : decode cL_set 44 = .ok (.aload_n 0, 1) := by decide +kernel
theorem dL_set_45 : decode cL_set 45 = .ok (.iconst 3, 1) := by decide +kernel
theorem dL_set_46 : decode cL_set 46 = .ok (.iload_n 1, 1) := by decide +kernel
theorem dL_set_47 : decode cL_set 47 = .ok (.bipush 7, 2) := by decide +kernel
theorem dL_set_49 : decode cL_set 49 = .ok (.ishr, 1) := by decide +kernel
theorem dL_set_50 : decode cL_set 50 = .ok (.bipush 8, 2) := by decide +kernel
theorem dL_set_52 : decode cL_set 52 = .ok (.invokestatic 15, 3) := by decide +kernel
theorem dL_set_55 : decode cL_set 55 = .ok (.iadd, 1) := by decide +kernel
theorem dL_set_56 : decode cL_set 56 = .ok (.invokevirtual 35, 3) := by decide +kernel
theorem dL_set_59 : decode cL_set 59 = .ok (.pop, 1) := by decide +kernel
theorem dL_set_60 : decode cL_set 60 = .ok (.aload_n 0, 1) := by decide +kernel
theorem dL_set_61 : decode cL_set 61 = .ok (.iload_n 1, 1) := by decide +kernel
theorem dL_set_62 : decode cL_set 62 = .ok (.bipush 8, 2) := by decide +kernel
theorem dL_set_64 : decode cL_set 64 = .ok (.ishr, 1) := by decide +kernel
theorem dL_set_65 : decode cL_set 65 = .ok (.iconst 3, 1) := by decide +kernel
theorem dL_set_66 : decode cL_set 66 = .ok (.invokestatic 15, 3) := by decide +kernel
theorem dL_set_69 : decode cL_set 69 = .ok (.iload_n 1, 1) := by decide +kernel
theorem dL_set_70 : decode cL_set 70 = .ok (.bipush 9, 2) := by decide +kernel
theorem dL_set_72 : decode cL_set 72 = .ok (.ishr, 1) := by decide +kernel
theorem dL_set_73 : decode cL_set 73 = .ok (.iconst 4, 1) := by decide +kernel
theorem dL_set_74 : decode cL_set 74 = .ok (.invokestatic 15, 3) := by decide +kernel
theorem dL_set_77 : decode cL_set 77 = .ok (.invokevirtual 38, 3) := by decide +kernel
theorem dL_set_80 : decode cL_set 80 = .ok (.pop, 1) := by decide +kernel
theorem dL_set_81 : decode cL_set 81 = .ok (.return_, 1) := by decide +kernel
theorem dL_law_0 : decode cL_law 0 = .ok (.new 20, 3) := by decide +kernel
theorem dL_law_3 : decode cL_law 3 = .ok (.dup, 1) := by decide +kernel
theorem dL_law_4 : decode cL_law 4 = .ok (.invokespecial 41, 3) := by decide +kernel
theorem dL_law_7 : decode cL_law 7 = .ok (.astore_n 1, 1) := by decide +kernel
theorem dL_law_8 : decode cL_law 8 = .ok (.aload_n 1, 1) := by decide +kernel
theorem dL_law_9 : decode cL_law 9 = .ok (.aload_n 0, 1) := by decide +kernel
theorem dL_law_10 : decode cL_law 10 = .ok (.iconst 0, 1) := by decide +kernel
theorem dL_law_11 : decode cL_law 11 = .ok (.invokestatic 42, 3) := by decide +kernel
theorem dL_law_14 : decode cL_law 14 = .ok (.istore_n 2, 1) := by decide +kernel
theorem dL_law_15 : decode cL_law 15 = .ok (.iconst 0, 1) := by decide +kernel
theorem dL_law_16 : decode cL_law 16 = .ok (.istore_n 3, 1) := by decide +kernel
theorem dL_law_17 : decode cL_law 17 = .ok (.iload_n 3, 1) := by decide +kernel
theorem dL_law_18 : decode cL_law 18 = .ok (.bipush 40, 2) := by decide +kernel
theorem dL_law_20 : decode cL_law 20 = .ok (.if_icmp .ge 77, 3) := by decide +kernel
theorem dL_law_23 : decode cL_law 23 = .ok (.aload_n 1, 1) := by decide +kernel
theorem dL_law_24 : decode cL_law 24 = .ok (.iload_n 2, 1) := by decide +kernel
theorem dL_law_25 : decode cL_law 25 = .ok (.aload_n 0, 1) := by decide +kernel
theorem dL_law_26 : decode cL_law 26 = .ok (.iload_n 3, 1) := by decide +kernel
theorem dL_law_27 : decode cL_law 27 = .ok (.bipush 36, 2) := by decide +kernel
theorem dL_law_29 : decode cL_law 29 = .ok (.irem, 1) := by decide +kernel
theorem dL_law_30 : decode cL_law 30 = .ok (.invokestatic 9, 3) := by decide +kernel
theorem dL_law_33 : decode cL_law 33 = .ok (.iload_n 3, 1) := by decide +kernel
theorem dL_law_34 : decode cL_law 34 = .ok (.bipush 36, 2) := by decide +kernel
theorem dL_law_36 : decode cL_law 36 = .ok (.idiv, 1) := by decide +kernel
theorem dL_law_37 : decode cL_law 37 = .ok (.bipush 11, 2) := by decide +kernel
theorem dL_law_39 : decode cL_law 39 = .ok (.imul, 1) := by decide +kernel
theorem dL_law_40 : decode cL_law 40 = .ok (.ishr, 1) := by decide +kernel
theorem dL_law_41 : decode cL_law 41 = .ok (.invokestatic 46, 3) := by decide +kernel
theorem dL_law_44 : decode cL_law 44 = .ok (.ifCond .ne 5, 3) := by decide +kernel
theorem dL_law_47 : decode cL_law 47 = .ok (.iconst 0, 1) := by decide +kernel
theorem dL_law_48 : decode cL_law 48 = .ok (.ireturn, 1) := by decide +kernel
theorem dL_law_49 : decode cL_law 49 = .ok (.iload_n 3, 1) := by decide +kernel
theorem dL_law_50 : decode cL_law 50 = .ok (.iconst 5, 1) := by decide +kernel
theorem dL_law_51 : decode cL_law 51 = .ok (.irem, 1) := by decide +kernel
theorem dL_law_52 : decode cL_law 52 = .ok (.iconst 4, 1) := by decide +kernel
theorem dL_law_53 : decode cL_law 53 = .ok (.if_icmp .eq 6, 3) := by decide +kernel
theorem dL_law_56 : decode cL_law 56 = .ok (.goto 35, 3) := by decide +kernel
theorem dL_law_59 : decode cL_law 59 = .ok (.aload_n 1, 1) := by decide +kernel
theorem dL_law_60 : decode cL_law 60 = .ok (.invokevirtual 50, 3) := by decide +kernel
theorem dL_law_63 : decode cL_law 63 = .ok (.lstore 4, 2) := by decide +kernel
theorem dL_law_65 : decode cL_law 65 = .ok (.aload_n 1, 1) := by decide +kernel
theorem dL_law_66 : decode cL_law 66 = .ok (.invokestatic 54, 3) := by decide +kernel
theorem dL_law_69 : decode cL_law 69 = .ok (.ifCond .eq 20, 3) := by decide +kernel
theorem dL_law_72 : decode cL_law 72 = .ok (.aload_n 1, 1) := by decide +kernel
theorem dL_law_73 : decode cL_law 73 = .ok (.invokestatic 58, 3) := by decide +kernel
theorem dL_law_76 : decode cL_law 76 = .ok (.ifCond .eq 13, 3) := by decide +kernel
theorem dL_law_79 : decode cL_law 79 = .ok (.aload_n 1, 1) := by decide +kernel
theorem dL_law_80 : decode cL_law 80 = .ok (.invokevirtual 50, 3) := by decide +kernel
theorem dL_law_83 : decode cL_law 83 = .ok (.lload 4, 2) := by decide +kernel
theorem dL_law_85 : decode cL_law 85 = .ok (.lcmp, 1) := by decide +kernel
theorem dL_law_86 : decode cL_law 86 = .ok (.ifCond .eq 5, 3) := by decide +kernel
theorem dL_law_89 : decode cL_law 89 = .ok (.iconst 0, 1) := by decide +kernel
theorem dL_law_90 : decode cL_law 90 = .ok (.ireturn, 1) := by decide +kernel
theorem dL_law_91 : decode cL_law 91 = .ok (.iinc 3 1, 3) := by decide +kernel
theorem dL_law_94 : decode cL_law 94 = .ok (.goto (-77), 3) := by decide +kernel
theorem dL_law_97 : decode cL_law 97 = .ok (.iconst 1, 1) := by decide +kernel
theorem dL_law_98 : decode cL_law 98 = .ok (.ireturn, 1) := by decide +kernel
theorem dL_act_0 : decode cL_act 0 = .ok (.iload_n 2, 1) := by decide +kernel
theorem dL_act_1 : decode cL_act 1 = .ok (.iconst 4, 1) := by decide +kernel
theorem dL_act_2 : decode cL_act 2 = .ok (.ishr, 1) := by decide +kernel
theorem dL_act_3 : decode cL_act 3 = .ok (.iload_n 1, 1) := by decide +kernel
theorem dL_act_4 : decode cL_act 4 = .ok (.invokestatic 15, 3) := by decide +kernel
theorem dL_act_7 : decode cL_act 7 = .ok (.istore_n 3, 1) := by decide +kernel
theorem dL_act_8 : decode cL_act 8 = .ok (.aload_n 0, 1) := by decide +kernel
theorem dL_act_9 : decode cL_act 9 = .ok (.invokevirtual 61, 3) := by decide +kernel
theorem dL_act_12 : decode cL_act 12 = .ok (.istore 4, 2) := by decide +kernel
theorem dL_act_14 : decode cL_act 14 = .ok (.aload_n 0, 1) := by decide +kernel
theorem dL_act_15 : decode cL_act 15 = .ok (.invokevirtual 65, 3) := by decide +kernel
theorem dL_act_18 : decode cL_act 18 = .ok (.istore 5, 2) := by decide +kernel
theorem dL_act_20 : decode cL_act 20 = .ok (.iload_n 2, 1) := by decide +kernel
theorem dL_act_21 : decode cL_act 21 = .ok (.bipush 12, 2) := by decide +kernel
theorem dL_act_23 : decode cL_act 23 = .ok (.invokestatic 15, 3) := by decide +kernel
theorem dL_act_26 : decode cL_act 26 = .ok (.tableswitch 220 0 6 #[42, 42, 42, 70, 80, 131, 202], 42) := by decide +kernel
theorem dL_act_68 : decode cL_act 68 = .ok (.aload_n 0, 1) := by decide +kernel
theorem dL_act_69 : decode cL_act 69 = .ok (.iload_n 3, 1) := by decide +kernel
theorem dL_act_70 : decode cL_act 70 = .ok (.invokevirtual 68, 3) := by decide +kernel
theorem dL_act_73 : decode cL_act 73 = .ok (.aload_n 0, 1) := by decide +kernel
theorem dL_act_74 : decode cL_act 74 = .ok (.iload_n 3, 1) := by decide +kernel
theorem dL_act_75 : decode cL_act 75 = .ok (.invokevirtual 71, 3) := by decide +kernel
theorem dL_act_78 : decode cL_act 78 = .ok (.if_icmp .ne 16, 3) := by decide +kernel
theorem dL_act_81 : decode cL_act 81 = .ok (.aload_n 0, 1) := by decide +kernel
theorem dL_act_82 : decode cL_act 82 = .ok (.iload_n 3, 1) := by decide +kernel
theorem dL_act_83 : decode cL_act 83 = .ok (.invokevirtual 74, 3) := by decide +kernel
theorem dL_act_86 : decode cL_act 86 = .ok (.iconst 1, 1) := by decide +kernel
theorem dL_act_87 : decode cL_act 87 = .ok (.if_icmp .ne 7, 3) := by decide +kernel
theorem dL_act_90 : decode cL_act 90 = .ok (.iconst 1, 1) := by decide +kernel
theorem dL_act_91 : decode cL_act 91 = .ok (.goto 4, 3) := by decide +kernel
theorem dL_act_94 : decode cL_act 94 = .ok (.iconst 0, 1) := by decide +kernel
theorem dL_act_95 : decode cL_act 95 = .ok (.ireturn, 1) := by decide +kernel
theorem dL_act_96 : decode cL_act 96 = .ok (.aload_n 0, 1) := by decide +kernel
theorem dL_act_97 : decode cL_act 97 = .ok (.iload_n 2, 1) := by decide +kernel
theorem dL_act_98 : decode cL_act 98 = .ok (.iconst 3, 1) := by decide +kernel
theorem dL_act_99 : decode cL_act 99 = .ok (.ishr, 1) := by decide +kernel
theorem dL_act_100 : decode cL_act 100 = .ok (.invokestatic 77, 3) := by decide +kernel
theorem dL_act_103 : decode cL_act 103 = .ok (.goto 223, 3) := by decide +kernel
theorem dL_act_106 : decode cL_act 106 = .ok (.iload_n 2, 1) := by decide +kernel
theorem dL_act_107 : decode cL_act 107 = .ok (.bipush 6, 2) := by decide +kernel
theorem dL_act_109 : decode cL_act 109 = .ok (.ishr, 1) := by decide +kernel
theorem dL_act_110 : decode cL_act 110 = .ok (.iconst 3, 1) := by decide +kernel
theorem dL_act_111 : decode cL_act 111 = .ok (.invokestatic 15, 3) := by decide +kernel
theorem dL_act_114 : decode cL_act 114 = .ok (.ifCond .le 6, 3) := by decide +kernel
theorem dL_act_117 : decode cL_act 117 = .ok (.goto 209, 3) := by decide +kernel
theorem dL_act_120 : decode cL_act 120 = .ok (.aload_n 0, 1) := by decide +kernel
theorem dL_act_121 : decode cL_act 121 = .ok (.iload_n 3, 1) := by decide +kernel
theorem dL_act_122 : decode cL_act 122 = .ok (.invokevirtual 81, 3) := by decide +kernel
theorem dL_act_125 : decode cL_act 125 = .ok (.bipush 6, 2) := by decide +kernel
theorem dL_act_127 : decode cL_act 127 = .ok (.if_icmp .ge 28, 3) := by decide +kernel
theorem dL_act_130 : decode cL_act 130 = .ok (.aload_n 0, 1) := by decide +kernel
theorem dL_act_131 : decode cL_act 131 = .ok (.iload_n 3, 1) := by decide +kernel
theorem dL_act_132 : decode cL_act 132 = .ok (.invokevirtual 74, 3) := by decide +kernel
theorem dL_act_135 : decode cL_act 135 = .ok (.bipush 6, 2) := by decide +kernel
theorem dL_act_137 : decode cL_act 137 = .ok (.if_icmp .ne 18, 3) := by decide +kernel
theorem dL_act_140 : decode cL_act 140 = .ok (.aload_n 0, 1) := by decide +kernel
theorem dL_act_141 : decode cL_act 141 = .ok (.iload_n 3, 1) := by decide +kernel
theorem dL_act_142 : decode cL_act 142 = .ok (.iconst 4, 1) := by decide +kernel
theorem dL_act_143 : decode cL_act 143 = .ok (.invokevirtual 84, 3) := by decide +kernel
theorem dL_act_146 : decode cL_act 146 = .ok (.iload 4, 2) := by decide +kernel
theorem dL_act_148 : decode cL_act 148 = .ok (.if_icmp .ne 7, 3) := by decide +kernel
theorem dL_act_151 : decode cL_act 151 = .ok (.iconst 1, 1) := by decide +kernel
theorem dL_act_152 : decode cL_act 152 = .ok (.goto 4, 3) := by decide +kernel
theorem dL_act_155 : decode cL_act 155 = .ok (.iconst 0, 1) := by decide +kernel
theorem dL_act_156 : decode cL_act 156 = .ok (.ireturn, 1) := by decide +kernel
theorem dL_act_157 : decode cL_act 157 = .ok (.aload_n 0, 1) := by decide +kernel
theorem dL_act_158 : decode cL_act 158 = .ok (.iload_n 2, 1) := by decide +kernel
theorem dL_act_159 : decode cL_act 159 = .ok (.bipush 6, 2) := by decide +kernel
theorem dL_act_161 : decode cL_act 161 = .ok (.ishr, 1) := by decide +kernel
theorem dL_act_162 : decode cL_act 162 = .ok (.bipush 6, 2) := by decide +kernel
theorem dL_act_164 : decode cL_act 164 = .ok (.invokestatic 15, 3) := by decide +kernel
theorem dL_act_167 : decode cL_act 167 = .ok (.invokevirtual 87, 3) := by decide +kernel
theorem dL_act_170 : decode cL_act 170 = .ok (.istore 6, 2) := by decide +kernel
theorem dL_act_172 : decode cL_act 172 = .ok (.aload_n 0, 1) := by decide +kernel
theorem dL_act_173 : decode cL_act 173 = .ok (.iload_n 2, 1) := by decide +kernel
theorem dL_act_174 : decode cL_act 174 = .ok (.bipush 6, 2) := by decide +kernel
theorem dL_act_176 : decode cL_act 176 = .ok (.ishr, 1) := by decide +kernel
theorem dL_act_177 : decode cL_act 177 = .ok (.bipush 6, 2) := by decide +kernel
theorem dL_act_179 : decode cL_act 179 = .ok (.invokestatic 15, 3) := by decide +kernel
theorem dL_act_182 : decode cL_act 182 = .ok (.invokevirtual 90, 3) := by decide +kernel
theorem dL_act_185 : decode cL_act 185 = .ok (.istore 7, 2) := by decide +kernel
theorem dL_act_187 : decode cL_act 187 = .ok (.aload_n 0, 1) := by decide +kernel
theorem dL_act_188 : decode cL_act 188 = .ok (.iload_n 2, 1) := by decide +kernel
theorem dL_act_189 : decode cL_act 189 = .ok (.bipush 6, 2) := by decide +kernel
theorem dL_act_191 : decode cL_act 191 = .ok (.ishr, 1) := by decide +kernel
theorem dL_act_192 : decode cL_act 192 = .ok (.bipush 6, 2) := by decide +kernel
theorem dL_act_194 : decode cL_act 194 = .ok (.invokestatic 15, 3) := by decide +kernel
theorem dL_act_197 : decode cL_act 197 = .ok (.invokevirtual 93, 3) := by decide +kernel
theorem dL_act_200 : decode cL_act 200 = .ok (.iload 7, 2) := by decide +kernel
theorem dL_act_202 : decode cL_act 202 = .ok (.ifCond .ne 15, 3) := by decide +kernel
theorem dL_act_205 : decode cL_act 205 = .ok (.bipush 99, 2) := by decide +kernel
theorem dL_act_207 : decode cL_act 207 = .ok (.iload 6, 2) := by decide +kernel
theorem dL_act_209 : decode cL_act 209 = .ok (.iconst 1, 1) := by decide +kernel
theorem dL_act_210 : decode cL_act 210 = .ok (.iadd, 1) := by decide +kernel
theorem dL_act_211 : decode cL_act 211 = .ok (.invokestatic 96, 3) := by decide +kernel
theorem dL_act_214 : decode cL_act 214 = .ok (.goto 5, 3) := by decide +kernel
theorem dL_act_217 : decode cL_act 217 = .ok (.iload 6, 2) := by decide +kernel
theorem dL_act_219 : decode cL_act 219 = .ok (.if_icmp .ne 7, 3) := by decide +kernel
theorem dL_act_222 : decode cL_act 222 = .ok (.iconst 1, 1) := by decide +kernel
theorem dL_act_223 : decode cL_act 223 = .ok (.goto 4, 3) := by decide +kernel
theorem dL_act_226 : decode cL_act 226 = .ok (.iconst 0, 1) := by decide +kernel
theorem dL_act_227 : decode cL_act 227 = .ok (.ireturn, 1) := by decide +kernel
theorem dL_act_228 : decode cL_act 228 = .ok (.aload_n 0, 1) := by decide +kernel
theorem dL_act_229 : decode cL_act 229 = .ok (.iload_n 3, 1) := by decide +kernel
theorem dL_act_230 : decode cL_act 230 = .ok (.iload_n 2, 1) := by decide +kernel
theorem dL_act_231 : decode cL_act 231 = .ok (.bipush 6, 2) := by decide +kernel
theorem dL_act_233 : decode cL_act 233 = .ok (.ishr, 1) := by decide +kernel
theorem dL_act_234 : decode cL_act 234 = .ok (.bipush 8, 2) := by decide +kernel
theorem dL_act_236 : decode cL_act 236 = .ok (.invokestatic 15, 3) := by decide +kernel
theorem dL_act_239 : decode cL_act 239 = .ok (.invokevirtual 101, 3) := by decide +kernel
theorem dL_act_242 : decode cL_act 242 = .ok (.pop, 1) := by decide +kernel
theorem dL_act_243 : decode cL_act 243 = .ok (.goto 83, 3) := by decide +kernel
theorem dL_act_246 : decode cL_act 246 = .ok (.iconst 1, 1) := by decide +kernel
theorem dL_act_247 : decode cL_act 247 = .ok (.iload_n 2, 1) := by decide +kernel
theorem dL_act_248 : decode cL_act 248 = .ok (.iconst 4, 1) := by decide +kernel
theorem dL_act_249 : decode cL_act 249 = .ok (.ishr, 1) := by decide +kernel
theorem dL_act_250 : decode cL_act 250 = .ok (.bipush 6, 2) := by decide +kernel
theorem dL_act_252 : decode cL_act 252 = .ok (.invokestatic 15, 3) := by decide +kernel
theorem dL_act_255 : decode cL_act 255 = .ok (.iadd, 1) := by decide +kernel
theorem dL_act_256 : decode cL_act 256 = .ok (.istore 8, 2) := by decide +kernel
theorem dL_act_258 : decode cL_act 258 = .ok (.aload_n 0, 1) := by decide +kernel
theorem dL_act_259 : decode cL_act 259 = .ok (.iload 8, 2) := by decide +kernel
theorem dL_act_261 : decode cL_act 261 = .ok (.invokevirtual 104, 3) := by decide +kernel
theorem dL_act_264 : decode cL_act 264 = .ok (.istore 9, 2) := by decide +kernel
theorem dL_act_266 : decode cL_act 266 = .ok (.aload_n 0, 1) := by decide +kernel
theorem dL_act_267 : decode cL_act 267 = .ok (.invokestatic 107, 3) := by decide +kernel
theorem dL_act_270 : decode cL_act 270 = .ok (.istore 10, 2) := by decide +kernel
theorem dL_act_272 : decode cL_act 272 = .ok (.aload_n 0, 1) := by decide +kernel
theorem dL_act_273 : decode cL_act 273 = .ok (.iload 8, 2) := by decide +kernel
theorem dL_act_275 : decode cL_act 275 = .ok (.invokevirtual 111, 3) := by decide +kernel
theorem dL_act_278 : decode cL_act 278 = .ok (.iload 4, 2) := by decide +kernel
theorem dL_act_280 : decode cL_act 280 = .ok (.iload 8, 2) := by decide +kernel
theorem dL_act_282 : decode cL_act 282 = .ok (.iadd, 1) := by decide +kernel
theorem dL_act_283 : decode cL_act 283 = .ok (.if_icmp .ne 15, 3) := by decide +kernel
theorem dL_act_286 : decode cL_act 286 = .ok (.aload_n 0, 1) := by decide +kernel
theorem dL_act_287 : decode cL_act 287 = .ok (.invokevirtual 65, 3) := by decide +kernel
theorem dL_act_290 : decode cL_act 290 = .ok (.iload 5, 2) := by decide +kernel
theorem dL_act_292 : decode cL_act 292 = .ok (.iload 9, 2) := by decide +kernel
theorem dL_act_294 : decode cL_act 294 = .ok (.iadd, 1) := by decide +kernel
theorem dL_act_295 : decode cL_act 295 = .ok (.if_icmp .eq 5, 3) := by decide +kernel
theorem dL_act_298 : decode cL_act 298 = .ok (.iconst 0, 1) := by decide +kernel
theorem dL_act_299 : decode cL_act 299 = .ok (.ireturn, 1) := by decide +kernel
theorem dL_act_300 : decode cL_act 300 = .ok (.aload_n 0, 1) := by decide +kernel
theorem dL_act_301 : decode cL_act 301 = .ok (.invokestatic 107, 3) := by decide +kernel
theorem dL_act_304 : decode cL_act 304 = .ok (.iload 10, 2) := by decide +kernel
theorem dL_act_306 : decode cL_act 306 = .ok (.isub, 1) := by decide +kernel
theorem dL_act_307 : decode cL_act 307 = .ok (.iload 9, 2) := by decide +kernel
theorem dL_act_309 : decode cL_act 309 = .ok (.iadd, 1) := by decide +kernel
theorem dL_act_310 : decode cL_act 310 = .ok (.iload 8, 2) := by decide +kernel
theorem dL_act_312 : decode cL_act 312 = .ok (.aload_n 0, 1) := by decide +kernel
theorem dL_act_313 : decode cL_act 313 = .ok (.invokevirtual 114, 3) := by decide +kernel
theorem dL_act_316 : decode cL_act 316 = .ok (.imul, 1) := by decide +kernel
theorem dL_act_317 : decode cL_act 317 = .ok (.if_icmp .ne 7, 3) := by decide +kernel
theorem dL_act_320 : decode cL_act 320 = .ok (.iconst 1, 1) := by decide +kernel
theorem dL_act_321 : decode cL_act 321 = .ok (.goto 4, 3) := by decide +kernel
theorem dL_act_324 : decode cL_act 324 = .ok (.iconst 0, 1) := by decide +kernel
theorem dL_act_325 : decode cL_act 325 = .ok (.ireturn, 1) := by decide +kernel
theorem dL_act_326 : decode cL_act 326 = .ok (.goto 29, 3) := by decide +kernel
theorem dL_act_329 : decode cL_act 329 = .ok (.astore 6, 2) := by decide +kernel
theorem dL_act_331 : decode cL_act 331 = .ok (.aload_n 0, 1) := by decide +kernel
theorem dL_act_332 : decode cL_act 332 = .ok (.invokevirtual 61, 3) := by decide +kernel
theorem dL_act_335 : decode cL_act 335 = .ok (.iload 4, 2) := by decide +kernel
theorem dL_act_337 : decode cL_act 337 = .ok (.if_icmp .ne 16, 3) := by decide +kernel
theorem dL_act_340 : decode cL_act 340 = .ok (.aload_n 0, 1) := by decide +kernel
theorem dL_act_341 : decode cL_act 341 = .ok (.invokevirtual 65, 3) := by decide +kernel
theorem dL_act_344 : decode cL_act 344 = .ok (.iload 5, 2) := by decide +kernel
theorem dL_act_346 : decode cL_act 346 = .ok (.if_icmp .ne 7, 3) := by decide +kernel
theorem dL_act_349 : decode cL_act 349 = .ok (.iconst 1, 1) := by decide +kernel
theorem dL_act_350 : decode cL_act 350 = .ok (.goto 4, 3) := by decide +kernel
theorem dL_act_353 : decode cL_act 353 = .ok (.iconst 0, 1) := by decide +kernel
theorem dL_act_354 : decode cL_act 354 = .ok (.ireturn, 1) := by decide +kernel
theorem dL_act_355 : decode cL_act 355 = .ok (.iconst 1, 1) := by decide +kernel
theorem dL_act_356 : decode cL_act 356 = .ok (.ireturn, 1) := by decide +kernel
theorem dL_ran_0 : decode cL_ran 0 = .ok (.iconst 0, 1) := by decide +kernel
theorem dL_ran_1 : decode cL_ran 1 = .ok (.istore_n 1, 1) := by decide +kernel
theorem dL_ran_2 : decode cL_ran 2 = .ok (.iconst 0, 1) := by decide +kernel
theorem dL_ran_3 : decode cL_ran 3 = .ok (.istore_n 2, 1) := by decide +kernel
theorem dL_ran_4 : decode cL_ran 4 = .ok (.iload_n 2, 1) := by decide +kernel
theorem dL_ran_5 : decode cL_ran 5 = .ok (.aload_n 0, 1) := by decide +kernel
theorem dL_ran_6 : decode cL_ran 6 = .ok (.invokevirtual 119, 3) := by decide +kernel
theorem dL_ran_9 : decode cL_ran 9 = .ok (.if_icmp .ge 18, 3) := by decide +kernel
theorem dL_ran_12 : decode cL_ran 12 = .ok (.iload_n 1, 1) := by decide +kernel
theorem dL_ran_13 : decode cL_ran 13 = .ok (.aload_n 0, 1) := by decide +kernel
theorem dL_ran_14 : decode cL_ran 14 = .ok (.iload_n 2, 1) := by decide +kernel
theorem dL_ran_15 : decode cL_ran 15 = .ok (.iconst 0, 1) := by decide +kernel
theorem dL_ran_16 : decode cL_ran 16 = .ok (.invokevirtual 84, 3) := by decide +kernel
theorem dL_ran_19 : decode cL_ran 19 = .ok (.iadd, 1) := by decide +kernel
theorem dL_ran_20 : decode cL_ran 20 = .ok (.istore_n 1, 1) := by decide +kernel
theorem dL_ran_21 : decode cL_ran 21 = .ok (.iinc 2 1, 3) := by decide +kernel
theorem dL_ran_24 : decode cL_ran 24 = .ok (.goto (-20), 3) := by decide +kernel
theorem dL_ran_27 : decode cL_ran 27 = .ok (.iload_n 1, 1) := by decide +kernel
theorem dL_ran_28 : decode cL_ran 28 = .ok (.ireturn, 1) := by decide +kernel
theorem dL_areTasksRight_0 : decode cL_areTasksRight 0 = .ok (.iconst 0, 1) := by decide +kernel
theorem dL_areTasksRight_1 : decode cL_areTasksRight 1 = .ok (.istore_n 1, 1) := by decide +kernel
theorem dL_areTasksRight_2 : decode cL_areTasksRight 2 = .ok (.iconst 0, 1) := by decide +kernel
theorem dL_areTasksRight_3 : decode cL_areTasksRight 3 = .ok (.istore_n 2, 1) := by decide +kernel
theorem dL_areTasksRight_4 : decode cL_areTasksRight 4 = .ok (.iload_n 2, 1) := by decide +kernel
theorem dL_areTasksRight_5 : decode cL_areTasksRight 5 = .ok (.aload_n 0, 1) := by decide +kernel
theorem dL_areTasksRight_6 : decode cL_areTasksRight 6 = .ok (.invokevirtual 119, 3) := by decide +kernel
theorem dL_areTasksRight_9 : decode cL_areTasksRight 9 = .ok (.if_icmp .ge 326, 3) := by decide +kernel
theorem dL_areTasksRight_12 : decode cL_areTasksRight 12 = .ok (.aload_n 0, 1) := by decide +kernel
theorem dL_areTasksRight_13 : decode cL_areTasksRight 13 = .ok (.iload_n 2, 1) := by decide +kernel
theorem dL_areTasksRight_14 : decode cL_areTasksRight 14 = .ok (.invokevirtual 74, 3) := by decide +kernel
theorem dL_areTasksRight_17 : decode cL_areTasksRight 17 = .ok (.istore_n 3, 1) := by decide +kernel
theorem dL_areTasksRight_18 : decode cL_areTasksRight 18 = .ok (.iconst 0, 1) := by decide +kernel
theorem dL_areTasksRight_19 : decode cL_areTasksRight 19 = .ok (.istore 4, 2) := by decide +kernel
theorem dL_areTasksRight_21 : decode cL_areTasksRight 21 = .ok (.iconst 0, 1) := by decide +kernel
theorem dL_areTasksRight_22 : decode cL_areTasksRight 22 = .ok (.istore 5, 2) := by decide +kernel
theorem dL_areTasksRight_24 : decode cL_areTasksRight 24 = .ok (.iload 5, 2) := by decide +kernel
theorem dL_areTasksRight_26 : decode cL_areTasksRight 26 = .ok (.aload_n 0, 1) := by decide +kernel
theorem dL_areTasksRight_27 : decode cL_areTasksRight 27 = .ok (.invokevirtual 114, 3) := by decide +kernel
theorem dL_areTasksRight_30 : decode cL_areTasksRight 30 = .ok (.if_icmp .ge 29, 3) := by decide +kernel
theorem dL_areTasksRight_33 : decode cL_areTasksRight 33 = .ok (.iload 4, 2) := by decide +kernel
theorem dL_areTasksRight_35 : decode cL_areTasksRight 35 = .ok (.aload_n 0, 1) := by decide +kernel
theorem dL_areTasksRight_36 : decode cL_areTasksRight 36 = .ok (.iload 5, 2) := by decide +kernel
theorem dL_areTasksRight_38 : decode cL_areTasksRight 38 = .ok (.invokevirtual 122, 3) := by decide +kernel
theorem dL_areTasksRight_41 : decode cL_areTasksRight 41 = .ok (.iload_n 2, 1) := by decide +kernel
theorem dL_areTasksRight_42 : decode cL_areTasksRight 42 = .ok (.if_icmp .ne 7, 3) := by decide +kernel
theorem dL_areTasksRight_45 : decode cL_areTasksRight 45 = .ok (.iconst 1, 1) := by decide +kernel
theorem dL_areTasksRight_46 : decode cL_areTasksRight 46 = .ok (.goto 4, 3) := by decide +kernel
theorem dL_areTasksRight_49 : decode cL_areTasksRight 49 = .ok (.iconst 0, 1) := by decide +kernel
theorem dL_areTasksRight_50 : decode cL_areTasksRight 50 = .ok (.iadd, 1) := by decide +kernel
theorem dL_areTasksRight_51 : decode cL_areTasksRight 51 = .ok (.istore 4, 2) := by decide +kernel
theorem dL_areTasksRight_53 : decode cL_areTasksRight 53 = .ok (.iinc 5 1, 3) := by decide +kernel
theorem dL_areTasksRight_56 : decode cL_areTasksRight 56 = .ok (.goto (-32), 3) := by decide +kernel
theorem dL_areTasksRight_59 : decode cL_areTasksRight 59 = .ok (.iconst 0, 1) := by decide +kernel
theorem dL_areTasksRight_60 : decode cL_areTasksRight 60 = .ok (.istore 5, 2) := by decide +kernel
theorem dL_areTasksRight_62 : decode cL_areTasksRight 62 = .ok (.iconst 0, 1) := by decide +kernel
theorem dL_areTasksRight_63 : decode cL_areTasksRight 63 = .ok (.istore 6, 2) := by decide +kernel
theorem dL_areTasksRight_65 : decode cL_areTasksRight 65 = .ok (.iload 6, 2) := by decide +kernel
theorem dL_areTasksRight_67 : decode cL_areTasksRight 67 = .ok (.bipush 6, 2) := by decide +kernel
theorem dL_areTasksRight_69 : decode cL_areTasksRight 69 = .ok (.if_icmp .ge 38, 3) := by decide +kernel
theorem dL_areTasksRight_72 : decode cL_areTasksRight 72 = .ok (.iload 5, 2) := by decide +kernel
theorem dL_areTasksRight_74 : decode cL_areTasksRight 74 = .ok (.aload_n 0, 1) := by decide +kernel
theorem dL_areTasksRight_75 : decode cL_areTasksRight 75 = .ok (.iload 6, 2) := by decide +kernel
theorem dL_areTasksRight_77 : decode cL_areTasksRight 77 = .ok (.invokevirtual 125, 3) := by decide +kernel
theorem dL_areTasksRight_80 : decode cL_areTasksRight 80 = .ok (.iload_n 2, 1) := by decide +kernel
theorem dL_areTasksRight_81 : decode cL_areTasksRight 81 = .ok (.ishr, 1) := by decide +kernel
theorem dL_areTasksRight_82 : decode cL_areTasksRight 82 = .ok (.iconst 1, 1) := by decide +kernel
theorem dL_areTasksRight_83 : decode cL_areTasksRight 83 = .ok (.iand, 1) := by decide +kernel
theorem dL_areTasksRight_84 : decode cL_areTasksRight 84 = .ok (.bipush 8, 2) := by decide +kernel
theorem dL_areTasksRight_86 : decode cL_areTasksRight 86 = .ok (.aload_n 0, 1) := by decide +kernel
theorem dL_areTasksRight_87 : decode cL_areTasksRight 87 = .ok (.iload 6, 2) := by decide +kernel
theorem dL_areTasksRight_89 : decode cL_areTasksRight 89 = .ok (.invokevirtual 90, 3) := by decide +kernel
theorem dL_areTasksRight_92 : decode cL_areTasksRight 92 = .ok (.iload_n 2, 1) := by decide +kernel
theorem dL_areTasksRight_93 : decode cL_areTasksRight 93 = .ok (.ishr, 1) := by decide +kernel
theorem dL_areTasksRight_94 : decode cL_areTasksRight 94 = .ok (.iconst 1, 1) := by decide +kernel
theorem dL_areTasksRight_95 : decode cL_areTasksRight 95 = .ok (.iand, 1) := by decide +kernel
theorem dL_areTasksRight_96 : decode cL_areTasksRight 96 = .ok (.imul, 1) := by decide +kernel
theorem dL_areTasksRight_97 : decode cL_areTasksRight 97 = .ok (.iadd, 1) := by decide +kernel
theorem dL_areTasksRight_98 : decode cL_areTasksRight 98 = .ok (.iadd, 1) := by decide +kernel
theorem dL_areTasksRight_99 : decode cL_areTasksRight 99 = .ok (.istore 5, 2) := by decide +kernel
theorem dL_areTasksRight_101 : decode cL_areTasksRight 101 = .ok (.iinc 6 1, 3) := by decide +kernel
theorem dL_areTasksRight_104 : decode cL_areTasksRight 104 = .ok (.goto (-39), 3) := by decide +kernel
theorem dL_areTasksRight_107 : decode cL_areTasksRight 107 = .ok (.iload 4, 2) := by decide +kernel
theorem dL_areTasksRight_109 : decode cL_areTasksRight 109 = .ok (.iload_n 3, 1) := by decide +kernel
theorem dL_areTasksRight_110 : decode cL_areTasksRight 110 = .ok (.iconst 2, 1) := by decide +kernel
theorem dL_areTasksRight_111 : decode cL_areTasksRight 111 = .ok (.if_icmp .ne 7, 3) := by decide +kernel
theorem dL_areTasksRight_114 : decode cL_areTasksRight 114 = .ok (.iconst 1, 1) := by decide +kernel
theorem dL_areTasksRight_115 : decode cL_areTasksRight 115 = .ok (.goto 4, 3) := by decide +kernel
theorem dL_areTasksRight_118 : decode cL_areTasksRight 118 = .ok (.iconst 0, 1) := by decide +kernel
theorem dL_areTasksRight_119 : decode cL_areTasksRight 119 = .ok (.if_icmp .ne 28, 3) := by decide +kernel
theorem dL_areTasksRight_122 : decode cL_areTasksRight 122 = .ok (.iload 5, 2) := by decide +kernel
theorem dL_areTasksRight_124 : decode cL_areTasksRight 124 = .ok (.iload_n 3, 1) := by decide +kernel
theorem dL_areTasksRight_125 : decode cL_areTasksRight 125 = .ok (.iconst 4, 1) := by decide +kernel
theorem dL_areTasksRight_126 : decode cL_areTasksRight 126 = .ok (.if_icmp .ne 7, 3) := by decide +kernel
theorem dL_areTasksRight_129 : decode cL_areTasksRight 129 = .ok (.iconst 1, 1) := by decide +kernel
theorem dL_areTasksRight_130 : decode cL_areTasksRight 130 = .ok (.goto 14, 3) := by decide +kernel
theorem dL_areTasksRight_133 : decode cL_areTasksRight 133 = .ok (.iload_n 3, 1) := by decide +kernel
theorem dL_areTasksRight_134 : decode cL_areTasksRight 134 = .ok (.iconst 5, 1) := by decide +kernel
theorem dL_areTasksRight_135 : decode cL_areTasksRight 135 = .ok (.if_icmp .ne 8, 3) := by decide +kernel
theorem dL_areTasksRight_138 : decode cL_areTasksRight 138 = .ok (.bipush 8, 2) := by decide +kernel
theorem dL_areTasksRight_140 : decode cL_areTasksRight 140 = .ok (.goto 4, 3) := by decide +kernel
theorem dL_areTasksRight_143 : decode cL_areTasksRight 143 = .ok (.iconst 0, 1) := by decide +kernel
theorem dL_areTasksRight_144 : decode cL_areTasksRight 144 = .ok (.if_icmp .eq 5, 3) := by decide +kernel
theorem dL_areTasksRight_147 : decode cL_areTasksRight 147 = .ok (.iconst 0, 1) := by decide +kernel
theorem dL_areTasksRight_148 : decode cL_areTasksRight 148 = .ok (.ireturn, 1) := by decide +kernel
theorem dL_areTasksRight_149 : decode cL_areTasksRight 149 = .ok (.iload_n 1, 1) := by decide +kernel
theorem dL_areTasksRight_150 : decode cL_areTasksRight 150 = .ok (.iload 4, 2) := by decide +kernel
theorem dL_areTasksRight_152 : decode cL_areTasksRight 152 = .ok (.iadd, 1) := by decide +kernel
theorem dL_areTasksRight_153 : decode cL_areTasksRight 153 = .ok (.istore_n 1, 1) := by decide +kernel
theorem dL_areTasksRight_154 : decode cL_areTasksRight 154 = .ok (.aload_n 0, 1) := by decide +kernel
theorem dL_areTasksRight_155 : decode cL_areTasksRight 155 = .ok (.iload_n 2, 1) := by decide +kernel
theorem dL_areTasksRight_156 : decode cL_areTasksRight 156 = .ok (.invokevirtual 128, 3) := by decide +kernel
theorem dL_areTasksRight_159 : decode cL_areTasksRight 159 = .ok (.aload_n 0, 1) := by decide +kernel
theorem dL_areTasksRight_160 : decode cL_areTasksRight 160 = .ok (.iload_n 2, 1) := by decide +kernel
theorem dL_areTasksRight_161 : decode cL_areTasksRight 161 = .ok (.invokevirtual 131, 3) := by decide +kernel
theorem dL_areTasksRight_164 : decode cL_areTasksRight 164 = .ok (.if_icmp .gt 38, 3) := by decide +kernel
theorem dL_areTasksRight_167 : decode cL_areTasksRight 167 = .ok (.aload_n 0, 1) := by decide +kernel
theorem dL_areTasksRight_168 : decode cL_areTasksRight 168 = .ok (.iload_n 2, 1) := by decide +kernel
theorem dL_areTasksRight_169 : decode cL_areTasksRight 169 = .ok (.invokevirtual 134, 3) := by decide +kernel
theorem dL_areTasksRight_172 : decode cL_areTasksRight 172 = .ok (.ifCond .lt 30, 3) := by decide +kernel
theorem dL_areTasksRight_175 : decode cL_areTasksRight 175 = .ok (.aload_n 0, 1) := by decide +kernel
theorem dL_areTasksRight_176 : decode cL_areTasksRight 176 = .ok (.iload_n 2, 1) := by decide +kernel
theorem dL_areTasksRight_177 : decode cL_areTasksRight 177 = .ok (.invokevirtual 134, 3) := by decide +kernel
theorem dL_areTasksRight_180 : decode cL_areTasksRight 180 = .ok (.iconst 3, 1) := by decide +kernel
theorem dL_areTasksRight_181 : decode cL_areTasksRight 181 = .ok (.if_icmp .gt 21, 3) := by decide +kernel
theorem dL_areTasksRight_184 : decode cL_areTasksRight 184 = .ok (.iload_n 3, 1) := by decide +kernel
theorem dL_areTasksRight_185 : decode cL_areTasksRight 185 = .ok (.ifCond .le 19, 3) := by decide +kernel
theorem dL_areTasksRight_188 : decode cL_areTasksRight 188 = .ok (.iload_n 3, 1) := by decide +kernel
theorem dL_areTasksRight_189 : decode cL_areTasksRight 189 = .ok (.bipush 6, 2) := by decide +kernel
theorem dL_areTasksRight_191 : decode cL_areTasksRight 191 = .ok (.if_icmp .ge 13, 3) := by decide +kernel
theorem dL_areTasksRight_194 : decode cL_areTasksRight 194 = .ok (.aload_n 0, 1) := by decide +kernel
theorem dL_areTasksRight_195 : decode cL_areTasksRight 195 = .ok (.iload_n 2, 1) := by decide +kernel
theorem dL_areTasksRight_196 : decode cL_areTasksRight 196 = .ok (.invokevirtual 71, 3) := by decide +kernel
theorem dL_areTasksRight_199 : decode cL_areTasksRight 199 = .ok (.ifCond .ge 5, 3) := by decide +kernel
theorem dL_areTasksRight_202 : decode cL_areTasksRight 202 = .ok (.iconst 0, 1) := by decide +kernel
theorem dL_areTasksRight_203 : decode cL_areTasksRight 203 = .ok (.ireturn, 1) := by decide +kernel
theorem dL_areTasksRight_204 : decode cL_areTasksRight 204 = .ok (.aload_n 0, 1) := by decide +kernel
theorem dL_areTasksRight_205 : decode cL_areTasksRight 205 = .ok (.iload_n 2, 1) := by decide +kernel
theorem dL_areTasksRight_206 : decode cL_areTasksRight 206 = .ok (.iconst 0, 1) := by decide +kernel
theorem dL_areTasksRight_207 : decode cL_areTasksRight 207 = .ok (.invokevirtual 84, 3) := by decide +kernel
theorem dL_areTasksRight_210 : decode cL_areTasksRight 210 = .ok (.ifCond .le 7, 3) := by decide +kernel
theorem dL_areTasksRight_213 : decode cL_areTasksRight 213 = .ok (.iconst 1, 1) := by decide +kernel
theorem dL_areTasksRight_214 : decode cL_areTasksRight 214 = .ok (.goto 4, 3) := by decide +kernel
theorem dL_areTasksRight_217 : decode cL_areTasksRight 217 = .ok (.iconst 0, 1) := by decide +kernel
theorem dL_areTasksRight_218 : decode cL_areTasksRight 218 = .ok (.aload_n 0, 1) := by decide +kernel
theorem dL_areTasksRight_219 : decode cL_areTasksRight 219 = .ok (.iload_n 2, 1) := by decide +kernel
theorem dL_areTasksRight_220 : decode cL_areTasksRight 220 = .ok (.iconst 3, 1) := by decide +kernel
theorem dL_areTasksRight_221 : decode cL_areTasksRight 221 = .ok (.invokevirtual 84, 3) := by decide +kernel
theorem dL_areTasksRight_224 : decode cL_areTasksRight 224 = .ok (.ifCond .lt 7, 3) := by decide +kernel
theorem dL_areTasksRight_227 : decode cL_areTasksRight 227 = .ok (.iconst 1, 1) := by decide +kernel
theorem dL_areTasksRight_228 : decode cL_areTasksRight 228 = .ok (.goto 4, 3) := by decide +kernel
theorem dL_areTasksRight_231 : decode cL_areTasksRight 231 = .ok (.iconst 0, 1) := by decide +kernel
theorem dL_areTasksRight_232 : decode cL_areTasksRight 232 = .ok (.if_icmp .ne 58, 3) := by decide +kernel
theorem dL_areTasksRight_235 : decode cL_areTasksRight 235 = .ok (.aload_n 0, 1) := by decide +kernel
theorem dL_areTasksRight_236 : decode cL_areTasksRight 236 = .ok (.iload_n 2, 1) := by decide +kernel
theorem dL_areTasksRight_237 : decode cL_areTasksRight 237 = .ok (.iconst 4, 1) := by decide +kernel
theorem dL_areTasksRight_238 : decode cL_areTasksRight 238 = .ok (.invokevirtual 84, 3) := by decide +kernel
theorem dL_areTasksRight_241 : decode cL_areTasksRight 241 = .ok (.ifCond .lt 7, 3) := by decide +kernel
theorem dL_areTasksRight_244 : decode cL_areTasksRight 244 = .ok (.iconst 1, 1) := by decide +kernel
theorem dL_areTasksRight_245 : decode cL_areTasksRight 245 = .ok (.goto 4, 3) := by decide +kernel
theorem dL_areTasksRight_248 : decode cL_areTasksRight 248 = .ok (.iconst 0, 1) := by decide +kernel
theorem dL_areTasksRight_249 : decode cL_areTasksRight 249 = .ok (.iload_n 3, 1) := by decide +kernel
theorem dL_areTasksRight_250 : decode cL_areTasksRight 250 = .ok (.bipush 6, 2) := by decide +kernel
theorem dL_areTasksRight_252 : decode cL_areTasksRight 252 = .ok (.if_icmp .ne 7, 3) := by decide +kernel
theorem dL_areTasksRight_255 : decode cL_areTasksRight 255 = .ok (.iconst 1, 1) := by decide +kernel
theorem dL_areTasksRight_256 : decode cL_areTasksRight 256 = .ok (.goto 4, 3) := by decide +kernel
theorem dL_areTasksRight_259 : decode cL_areTasksRight 259 = .ok (.iconst 0, 1) := by decide +kernel
theorem dL_areTasksRight_260 : decode cL_areTasksRight 260 = .ok (.if_icmp .ne 30, 3) := by decide +kernel
theorem dL_areTasksRight_263 : decode cL_areTasksRight 263 = .ok (.aload_n 0, 1) := by decide +kernel
theorem dL_areTasksRight_264 : decode cL_areTasksRight 264 = .ok (.iload_n 2, 1) := by decide +kernel
theorem dL_areTasksRight_265 : decode cL_areTasksRight 265 = .ok (.iconst 0, 1) := by decide +kernel
theorem dL_areTasksRight_266 : decode cL_areTasksRight 266 = .ok (.invokevirtual 84, 3) := by decide +kernel
theorem dL_areTasksRight_269 : decode cL_areTasksRight 269 = .ok (.aload_n 0, 1) := by decide +kernel
theorem dL_areTasksRight_270 : decode cL_areTasksRight 270 = .ok (.iload_n 2, 1) := by decide +kernel
theorem dL_areTasksRight_271 : decode cL_areTasksRight 271 = .ok (.iconst 1, 1) := by decide +kernel
theorem dL_areTasksRight_272 : decode cL_areTasksRight 272 = .ok (.invokevirtual 84, 3) := by decide +kernel
theorem dL_areTasksRight_275 : decode cL_areTasksRight 275 = .ok (.iadd, 1) := by decide +kernel
theorem dL_areTasksRight_276 : decode cL_areTasksRight 276 = .ok (.aload_n 0, 1) := by decide +kernel
theorem dL_areTasksRight_277 : decode cL_areTasksRight 277 = .ok (.iload_n 2, 1) := by decide +kernel
theorem dL_areTasksRight_278 : decode cL_areTasksRight 278 = .ok (.iconst 2, 1) := by decide +kernel
theorem dL_areTasksRight_279 : decode cL_areTasksRight 279 = .ok (.invokevirtual 84, 3) := by decide +kernel
theorem dL_areTasksRight_282 : decode cL_areTasksRight 282 = .ok (.iadd, 1) := by decide +kernel
theorem dL_areTasksRight_283 : decode cL_areTasksRight 283 = .ok (.aload_n 0, 1) := by decide +kernel
theorem dL_areTasksRight_284 : decode cL_areTasksRight 284 = .ok (.invokevirtual 61, 3) := by decide +kernel
theorem dL_areTasksRight_287 : decode cL_areTasksRight 287 = .ok (.if_icmp .le 5, 3) := by decide +kernel
theorem dL_areTasksRight_290 : decode cL_areTasksRight 290 = .ok (.iconst 0, 1) := by decide +kernel
theorem dL_areTasksRight_291 : decode cL_areTasksRight 291 = .ok (.ireturn, 1) := by decide +kernel
theorem dL_areTasksRight_292 : decode cL_areTasksRight 292 = .ok (.iload_n 3, 1) := by decide +kernel
theorem dL_areTasksRight_293 : decode cL_areTasksRight 293 = .ok (.bipush 6, 2) := by decide +kernel
theorem dL_areTasksRight_295 : decode cL_areTasksRight 295 = .ok (.if_icmp .ne 12, 3) := by decide +kernel
theorem dL_areTasksRight_298 : decode cL_areTasksRight 298 = .ok (.aload_n 0, 1) := by decide +kernel
theorem dL_areTasksRight_299 : decode cL_areTasksRight 299 = .ok (.iload_n 2, 1) := by decide +kernel
theorem dL_areTasksRight_300 : decode cL_areTasksRight 300 = .ok (.iconst 1, 1) := by decide +kernel
theorem dL_areTasksRight_301 : decode cL_areTasksRight 301 = .ok (.invokevirtual 137, 3) := by decide +kernel
theorem dL_areTasksRight_304 : decode cL_areTasksRight 304 = .ok (.ifCond .ne 23, 3) := by decide +kernel
theorem dL_areTasksRight_307 : decode cL_areTasksRight 307 = .ok (.iload_n 3, 1) := by decide +kernel
theorem dL_areTasksRight_308 : decode cL_areTasksRight 308 = .ok (.ifCond .ne 21, 3) := by decide +kernel
theorem dL_areTasksRight_311 : decode cL_areTasksRight 311 = .ok (.aload_n 0, 1) := by decide +kernel
theorem dL_areTasksRight_312 : decode cL_areTasksRight 312 = .ok (.iload_n 2, 1) := by decide +kernel
theorem dL_areTasksRight_313 : decode cL_areTasksRight 313 = .ok (.iconst 0, 1) := by decide +kernel
theorem dL_areTasksRight_314 : decode cL_areTasksRight 314 = .ok (.invokevirtual 84, 3) := by decide +kernel
theorem dL_areTasksRight_317 : decode cL_areTasksRight 317 = .ok (.aload_n 0, 1) := by decide +kernel
theorem dL_areTasksRight_318 : decode cL_areTasksRight 318 = .ok (.iload_n 2, 1) := by decide +kernel
theorem dL_areTasksRight_319 : decode cL_areTasksRight 319 = .ok (.iconst 1, 1) := by decide +kernel
theorem dL_areTasksRight_320 : decode cL_areTasksRight 320 = .ok (.invokevirtual 84, 3) := by decide +kernel
theorem dL_areTasksRight_323 : decode cL_areTasksRight 323 = .ok (.iadd, 1) := by decide +kernel
theorem dL_areTasksRight_324 : decode cL_areTasksRight 324 = .ok (.ifCond .le 5, 3) := by decide +kernel
theorem dL_areTasksRight_327 : decode cL_areTasksRight 327 = .ok (.iconst 0, 1) := by decide +kernel
theorem dL_areTasksRight_328 : decode cL_areTasksRight 328 = .ok (.ireturn, 1) := by decide +kernel
theorem dL_areTasksRight_329 : decode cL_areTasksRight 329 = .ok (.iinc 2 1, 3) := by decide +kernel
theorem dL_areTasksRight_332 : decode cL_areTasksRight 332 = .ok (.goto (-328), 3) := by decide +kernel
theorem dL_areTasksRight_335 : decode cL_areTasksRight 335 = .ok (.iconst 0, 1) := by decide +kernel
theorem dL_areTasksRight_336 : decode cL_areTasksRight 336 = .ok (.istore_n 2, 1) := by decide +kernel
theorem dL_areTasksRight_337 : decode cL_areTasksRight 337 = .ok (.iconst 0, 1) := by decide +kernel
theorem dL_areTasksRight_338 : decode cL_areTasksRight 338 = .ok (.istore_n 3, 1) := by decide +kernel
theorem dL_areTasksRight_339 : decode cL_areTasksRight 339 = .ok (.iload_n 3, 1) := by decide +kernel
theorem dL_areTasksRight_340 : decode cL_areTasksRight 340 = .ok (.aload_n 0, 1) := by decide +kernel
theorem dL_areTasksRight_341 : decode cL_areTasksRight 341 = .ok (.invokevirtual 114, 3) := by decide +kernel
theorem dL_areTasksRight_344 : decode cL_areTasksRight 344 = .ok (.if_icmp .ge 25, 3) := by decide +kernel
theorem dL_areTasksRight_347 : decode cL_areTasksRight 347 = .ok (.iload_n 2, 1) := by decide +kernel
theorem dL_areTasksRight_348 : decode cL_areTasksRight 348 = .ok (.aload_n 0, 1) := by decide +kernel
theorem dL_areTasksRight_349 : decode cL_areTasksRight 349 = .ok (.iload_n 3, 1) := by decide +kernel
theorem dL_areTasksRight_350 : decode cL_areTasksRight 350 = .ok (.invokevirtual 122, 3) := by decide +kernel
theorem dL_areTasksRight_353 : decode cL_areTasksRight 353 = .ok (.ifCond .lt 7, 3) := by decide +kernel
theorem dL_areTasksRight_356 : decode cL_areTasksRight 356 = .ok (.iconst 1, 1) := by decide +kernel
theorem dL_areTasksRight_357 : decode cL_areTasksRight 357 = .ok (.goto 4, 3) := by decide +kernel
theorem dL_areTasksRight_360 : decode cL_areTasksRight 360 = .ok (.iconst 0, 1) := by decide +kernel
theorem dL_areTasksRight_361 : decode cL_areTasksRight 361 = .ok (.iadd, 1) := by decide +kernel
theorem dL_areTasksRight_362 : decode cL_areTasksRight 362 = .ok (.istore_n 2, 1) := by decide +kernel
theorem dL_areTasksRight_363 : decode cL_areTasksRight 363 = .ok (.iinc 3 1, 3) := by decide +kernel
theorem dL_areTasksRight_366 : decode cL_areTasksRight 366 = .ok (.goto (-27), 3) := by decide +kernel
theorem dL_areTasksRight_369 : decode cL_areTasksRight 369 = .ok (.iload_n 2, 1) := by decide +kernel
theorem dL_areTasksRight_370 : decode cL_areTasksRight 370 = .ok (.iload_n 1, 1) := by decide +kernel
theorem dL_areTasksRight_371 : decode cL_areTasksRight 371 = .ok (.if_icmp .ne 7, 3) := by decide +kernel
theorem dL_areTasksRight_374 : decode cL_areTasksRight 374 = .ok (.iconst 1, 1) := by decide +kernel
theorem dL_areTasksRight_375 : decode cL_areTasksRight 375 = .ok (.goto 4, 3) := by decide +kernel
theorem dL_areTasksRight_378 : decode cL_areTasksRight 378 = .ok (.iconst 0, 1) := by decide +kernel
theorem dL_areTasksRight_379 : decode cL_areTasksRight 379 = .ok (.ireturn, 1) := by decide +kernel
theorem dL_arePlacesRight_0 : decode cL_arePlacesRight 0 = .ok (.iconst 0, 1) := by decide +kernel
theorem dL_arePlacesRight_1 : decode cL_arePlacesRight 1 = .ok (.istore_n 1, 1) := by decide +kernel
theorem dL_arePlacesRight_2 : decode cL_arePlacesRight 2 = .ok (.iload_n 1, 1) := by decide +kernel
theorem dL_arePlacesRight_3 : decode cL_arePlacesRight 3 = .ok (.bipush 6, 2) := by decide +kernel
theorem dL_arePlacesRight_5 : decode cL_arePlacesRight 5 = .ok (.if_icmp .ge 138, 3) := by decide +kernel
theorem dL_arePlacesRight_8 : decode cL_arePlacesRight 8 = .ok (.aload_n 0, 1) := by decide +kernel
theorem dL_arePlacesRight_9 : decode cL_arePlacesRight 9 = .ok (.iload_n 1, 1) := by decide +kernel
theorem dL_arePlacesRight_10 : decode cL_arePlacesRight 10 = .ok (.invokevirtual 140, 3) := by decide +kernel
theorem dL_arePlacesRight_13 : decode cL_arePlacesRight 13 = .ok (.istore_n 2, 1) := by decide +kernel
theorem dL_arePlacesRight_14 : decode cL_arePlacesRight 14 = .ok (.iload_n 2, 1) := by decide +kernel
theorem dL_arePlacesRight_15 : decode cL_arePlacesRight 15 = .ok (.ifCond .lt 21, 3) := by decide +kernel
theorem dL_arePlacesRight_18 : decode cL_arePlacesRight 18 = .ok (.aload_n 0, 1) := by decide +kernel
theorem dL_arePlacesRight_19 : decode cL_arePlacesRight 19 = .ok (.iload_n 2, 1) := by decide +kernel
theorem dL_arePlacesRight_20 : decode cL_arePlacesRight 20 = .ok (.invokevirtual 74, 3) := by decide +kernel
theorem dL_arePlacesRight_23 : decode cL_arePlacesRight 23 = .ok (.bipush 6, 2) := by decide +kernel
theorem dL_arePlacesRight_25 : decode cL_arePlacesRight 25 = .ok (.if_icmp .eq 39, 3) := by decide +kernel
theorem dL_arePlacesRight_28 : decode cL_arePlacesRight 28 = .ok (.aload_n 0, 1) := by decide +kernel
theorem dL_arePlacesRight_29 : decode cL_arePlacesRight 29 = .ok (.iload_n 2, 1) := by decide +kernel
theorem dL_arePlacesRight_30 : decode cL_arePlacesRight 30 = .ok (.invokevirtual 74, 3) := by decide +kernel
theorem dL_arePlacesRight_33 : decode cL_arePlacesRight 33 = .ok (.ifCond .eq 31, 3) := by decide +kernel
theorem dL_arePlacesRight_36 : decode cL_arePlacesRight 36 = .ok (.iload_n 2, 1) := by decide +kernel
theorem dL_arePlacesRight_37 : decode cL_arePlacesRight 37 = .ok (.ifCond .ge 11, 3) := by decide +kernel
theorem dL_arePlacesRight_40 : decode cL_arePlacesRight 40 = .ok (.aload_n 0, 1) := by decide +kernel
theorem dL_arePlacesRight_41 : decode cL_arePlacesRight 41 = .ok (.iload_n 1, 1) := by decide +kernel
theorem dL_arePlacesRight_42 : decode cL_arePlacesRight 42 = .ok (.invokevirtual 125, 3) := by decide +kernel
theorem dL_arePlacesRight_45 : decode cL_arePlacesRight 45 = .ok (.ifCond .ne 19, 3) := by decide +kernel
theorem dL_arePlacesRight_48 : decode cL_arePlacesRight 48 = .ok (.iload_n 2, 1) := by decide +kernel
theorem dL_arePlacesRight_49 : decode cL_arePlacesRight 49 = .ok (.ifCond .lt 17, 3) := by decide +kernel
theorem dL_arePlacesRight_52 : decode cL_arePlacesRight 52 = .ok (.aload_n 0, 1) := by decide +kernel
theorem dL_arePlacesRight_53 : decode cL_arePlacesRight 53 = .ok (.iload_n 1, 1) := by decide +kernel
theorem dL_arePlacesRight_54 : decode cL_arePlacesRight 54 = .ok (.invokevirtual 125, 3) := by decide +kernel
theorem dL_arePlacesRight_57 : decode cL_arePlacesRight 57 = .ok (.iload_n 2, 1) := by decide +kernel
theorem dL_arePlacesRight_58 : decode cL_arePlacesRight 58 = .ok (.ishr, 1) := by decide +kernel
theorem dL_arePlacesRight_59 : decode cL_arePlacesRight 59 = .ok (.iconst 1, 1) := by decide +kernel
theorem dL_arePlacesRight_60 : decode cL_arePlacesRight 60 = .ok (.iand, 1) := by decide +kernel
theorem dL_arePlacesRight_61 : decode cL_arePlacesRight 61 = .ok (.ifCond .eq 5, 3) := by decide +kernel
theorem dL_arePlacesRight_64 : decode cL_arePlacesRight 64 = .ok (.iconst 0, 1) := by decide +kernel
theorem dL_arePlacesRight_65 : decode cL_arePlacesRight 65 = .ok (.ireturn, 1) := by decide +kernel
theorem dL_arePlacesRight_66 : decode cL_arePlacesRight 66 = .ok (.aload_n 0, 1) := by decide +kernel
theorem dL_arePlacesRight_67 : decode cL_arePlacesRight 67 = .ok (.iload_n 1, 1) := by decide +kernel
theorem dL_arePlacesRight_68 : decode cL_arePlacesRight 68 = .ok (.invokevirtual 87, 3) := by decide +kernel
theorem dL_arePlacesRight_71 : decode cL_arePlacesRight 71 = .ok (.ifCond .le 11, 3) := by decide +kernel
theorem dL_arePlacesRight_74 : decode cL_arePlacesRight 74 = .ok (.aload_n 0, 1) := by decide +kernel
theorem dL_arePlacesRight_75 : decode cL_arePlacesRight 75 = .ok (.iload_n 1, 1) := by decide +kernel
theorem dL_arePlacesRight_76 : decode cL_arePlacesRight 76 = .ok (.invokevirtual 90, 3) := by decide +kernel
theorem dL_arePlacesRight_79 : decode cL_arePlacesRight 79 = .ok (.ifCond .ne 13, 3) := by decide +kernel
theorem dL_arePlacesRight_82 : decode cL_arePlacesRight 82 = .ok (.aload_n 0, 1) := by decide +kernel
theorem dL_arePlacesRight_83 : decode cL_arePlacesRight 83 = .ok (.iload_n 1, 1) := by decide +kernel
theorem dL_arePlacesRight_84 : decode cL_arePlacesRight 84 = .ok (.invokevirtual 87, 3) := by decide +kernel
theorem dL_arePlacesRight_87 : decode cL_arePlacesRight 87 = .ok (.bipush 99, 2) := by decide +kernel
theorem dL_arePlacesRight_89 : decode cL_arePlacesRight 89 = .ok (.if_icmp .le 5, 3) := by decide +kernel
theorem dL_arePlacesRight_92 : decode cL_arePlacesRight 92 = .ok (.iconst 0, 1) := by decide +kernel
theorem dL_arePlacesRight_93 : decode cL_arePlacesRight 93 = .ok (.ireturn, 1) := by decide +kernel
theorem dL_arePlacesRight_94 : decode cL_arePlacesRight 94 = .ok (.iconst 0, 1) := by decide +kernel
theorem dL_arePlacesRight_95 : decode cL_arePlacesRight 95 = .ok (.istore_n 3, 1) := by decide +kernel
theorem dL_arePlacesRight_96 : decode cL_arePlacesRight 96 = .ok (.iload_n 3, 1) := by decide +kernel
theorem dL_arePlacesRight_97 : decode cL_arePlacesRight 97 = .ok (.aload_n 0, 1) := by decide +kernel
theorem dL_arePlacesRight_98 : decode cL_arePlacesRight 98 = .ok (.invokevirtual 119, 3) := by decide +kernel
theorem dL_arePlacesRight_101 : decode cL_arePlacesRight 101 = .ok (.if_icmp .ge 36, 3) := by decide +kernel
theorem dL_arePlacesRight_104 : decode cL_arePlacesRight 104 = .ok (.aload_n 0, 1) := by decide +kernel
theorem dL_arePlacesRight_105 : decode cL_arePlacesRight 105 = .ok (.iload_n 1, 1) := by decide +kernel
theorem dL_arePlacesRight_106 : decode cL_arePlacesRight 106 = .ok (.invokevirtual 125, 3) := by decide +kernel
theorem dL_arePlacesRight_109 : decode cL_arePlacesRight 109 = .ok (.iload_n 3, 1) := by decide +kernel
theorem dL_arePlacesRight_110 : decode cL_arePlacesRight 110 = .ok (.ishr, 1) := by decide +kernel
theorem dL_arePlacesRight_111 : decode cL_arePlacesRight 111 = .ok (.iconst 1, 1) := by decide +kernel
theorem dL_arePlacesRight_112 : decode cL_arePlacesRight 112 = .ok (.iand, 1) := by decide +kernel
theorem dL_arePlacesRight_113 : decode cL_arePlacesRight 113 = .ok (.ifCond .eq 18, 3) := by decide +kernel
theorem dL_arePlacesRight_116 : decode cL_arePlacesRight 116 = .ok (.aload_n 0, 1) := by decide +kernel
theorem dL_arePlacesRight_117 : decode cL_arePlacesRight 117 = .ok (.iload_n 2, 1) := by decide +kernel
theorem dL_arePlacesRight_118 : decode cL_arePlacesRight 118 = .ok (.invokevirtual 128, 3) := by decide +kernel
theorem dL_arePlacesRight_121 : decode cL_arePlacesRight 121 = .ok (.aload_n 0, 1) := by decide +kernel
theorem dL_arePlacesRight_122 : decode cL_arePlacesRight 122 = .ok (.iload_n 3, 1) := by decide +kernel
theorem dL_arePlacesRight_123 : decode cL_arePlacesRight 123 = .ok (.invokevirtual 128, 3) := by decide +kernel
theorem dL_arePlacesRight_126 : decode cL_arePlacesRight 126 = .ok (.if_icmp .le 5, 3) := by decide +kernel
theorem dL_arePlacesRight_129 : decode cL_arePlacesRight 129 = .ok (.iconst 0, 1) := by decide +kernel
theorem dL_arePlacesRight_130 : decode cL_arePlacesRight 130 = .ok (.ireturn, 1) := by decide +kernel
theorem dL_arePlacesRight_131 : decode cL_arePlacesRight 131 = .ok (.iinc 3 1, 3) := by decide +kernel
theorem dL_arePlacesRight_134 : decode cL_arePlacesRight 134 = .ok (.goto (-38), 3) := by decide +kernel
theorem dL_arePlacesRight_137 : decode cL_arePlacesRight 137 = .ok (.iinc 1 1, 3) := by decide +kernel
theorem dL_arePlacesRight_140 : decode cL_arePlacesRight 140 = .ok (.goto (-138), 3) := by decide +kernel
theorem dL_arePlacesRight_143 : decode cL_arePlacesRight 143 = .ok (.iconst 0, 1) := by decide +kernel
theorem dL_arePlacesRight_144 : decode cL_arePlacesRight 144 = .ok (.istore_n 1, 1) := by decide +kernel
theorem dL_arePlacesRight_145 : decode cL_arePlacesRight 145 = .ok (.iload_n 1, 1) := by decide +kernel
theorem dL_arePlacesRight_146 : decode cL_arePlacesRight 146 = .ok (.aload_n 0, 1) := by decide +kernel
theorem dL_arePlacesRight_147 : decode cL_arePlacesRight 147 = .ok (.invokevirtual 114, 3) := by decide +kernel
theorem dL_arePlacesRight_150 : decode cL_arePlacesRight 150 = .ok (.if_icmp .ge 55, 3) := by decide +kernel
theorem dL_arePlacesRight_153 : decode cL_arePlacesRight 153 = .ok (.aload_n 0, 1) := by decide +kernel
theorem dL_arePlacesRight_154 : decode cL_arePlacesRight 154 = .ok (.invokevirtual 61, 3) := by decide +kernel
theorem dL_arePlacesRight_157 : decode cL_arePlacesRight 157 = .ok (.ifCond .ne 17, 3) := by decide +kernel
theorem dL_arePlacesRight_160 : decode cL_arePlacesRight 160 = .ok (.aload_n 0, 1) := by decide +kernel
theorem dL_arePlacesRight_161 : decode cL_arePlacesRight 161 = .ok (.iload_n 1, 1) := by decide +kernel
theorem dL_arePlacesRight_162 : decode cL_arePlacesRight 162 = .ok (.iconst 1, 1) := by decide +kernel
theorem dL_arePlacesRight_163 : decode cL_arePlacesRight 163 = .ok (.invokevirtual 143, 3) := by decide +kernel
theorem dL_arePlacesRight_166 : decode cL_arePlacesRight 166 = .ok (.bipush (-2), 2) := by decide +kernel
theorem dL_arePlacesRight_168 : decode cL_arePlacesRight 168 = .ok (.if_icmp .eq 31, 3) := by decide +kernel
theorem dL_arePlacesRight_171 : decode cL_arePlacesRight 171 = .ok (.goto 26, 3) := by decide +kernel
theorem dL_arePlacesRight_174 : decode cL_arePlacesRight 174 = .ok (.aload_n 0, 1) := by decide +kernel
theorem dL_arePlacesRight_175 : decode cL_arePlacesRight 175 = .ok (.iload_n 1, 1) := by decide +kernel
theorem dL_arePlacesRight_176 : decode cL_arePlacesRight 176 = .ok (.iconst 1, 1) := by decide +kernel
theorem dL_arePlacesRight_177 : decode cL_arePlacesRight 177 = .ok (.invokevirtual 143, 3) := by decide +kernel
theorem dL_arePlacesRight_180 : decode cL_arePlacesRight 180 = .ok (.iconst (-1), 1) := by decide +kernel
theorem dL_arePlacesRight_181 : decode cL_arePlacesRight 181 = .ok (.if_icmp .lt 16, 3) := by decide +kernel
theorem dL_arePlacesRight_184 : decode cL_arePlacesRight 184 = .ok (.aload_n 0, 1) := by decide +kernel
theorem dL_arePlacesRight_185 : decode cL_arePlacesRight 185 = .ok (.iload_n 1, 1) := by decide +kernel
theorem dL_arePlacesRight_186 : decode cL_arePlacesRight 186 = .ok (.iconst 1, 1) := by decide +kernel
theorem dL_arePlacesRight_187 : decode cL_arePlacesRight 187 = .ok (.invokevirtual 143, 3) := by decide +kernel
theorem dL_arePlacesRight_190 : decode cL_arePlacesRight 190 = .ok (.aload_n 0, 1) := by decide +kernel
theorem dL_arePlacesRight_191 : decode cL_arePlacesRight 191 = .ok (.invokevirtual 119, 3) := by decide +kernel
theorem dL_arePlacesRight_194 : decode cL_arePlacesRight 194 = .ok (.if_icmp .lt 5, 3) := by decide +kernel
theorem dL_arePlacesRight_197 : decode cL_arePlacesRight 197 = .ok (.iconst 0, 1) := by decide +kernel
theorem dL_arePlacesRight_198 : decode cL_arePlacesRight 198 = .ok (.ireturn, 1) := by decide +kernel
theorem dL_arePlacesRight_199 : decode cL_arePlacesRight 199 = .ok (.iinc 1 1, 3) := by decide +kernel
theorem dL_arePlacesRight_202 : decode cL_arePlacesRight 202 = .ok (.goto (-57), 3) := by decide +kernel
theorem dL_arePlacesRight_205 : decode cL_arePlacesRight 205 = .ok (.aload_n 0, 1) := by decide +kernel
theorem dL_arePlacesRight_206 : decode cL_arePlacesRight 206 = .ok (.iconst 1, 1) := by decide +kernel
theorem dL_arePlacesRight_207 : decode cL_arePlacesRight 207 = .ok (.invokevirtual 145, 3) := by decide +kernel
theorem dL_arePlacesRight_210 : decode cL_arePlacesRight 210 = .ok (.ifCond .lt 7, 3) := by decide +kernel
theorem dL_arePlacesRight_213 : decode cL_arePlacesRight 213 = .ok (.iconst 1, 1) := by decide +kernel
theorem dL_arePlacesRight_214 : decode cL_arePlacesRight 214 = .ok (.goto 4, 3) := by decide +kernel
theorem dL_arePlacesRight_217 : decode cL_arePlacesRight 217 = .ok (.iconst 0, 1) := by decide +kernel
theorem dL_arePlacesRight_218 : decode cL_arePlacesRight 218 = .ok (.aload_n 0, 1) := by decide +kernel
theorem dL_arePlacesRight_219 : decode cL_arePlacesRight 219 = .ok (.invokevirtual 148, 3) := by decide +kernel
theorem dL_arePlacesRight_222 : decode cL_arePlacesRight 222 = .ok (.ifCond .ne 12, 3) := by decide +kernel
theorem dL_arePlacesRight_225 : decode cL_arePlacesRight 225 = .ok (.aload_n 0, 1) := by decide +kernel
theorem dL_arePlacesRight_226 : decode cL_arePlacesRight 226 = .ok (.iconst 1, 1) := by decide +kernel
theorem dL_arePlacesRight_227 : decode cL_arePlacesRight 227 = .ok (.invokevirtual 145, 3) := by decide +kernel
theorem dL_arePlacesRight_230 : decode cL_arePlacesRight 230 = .ok (.iconst 1, 1) := by decide +kernel
theorem dL_arePlacesRight_231 : decode cL_arePlacesRight 231 = .ok (.if_icmp .ne 7, 3) := by decide +kernel
theorem dL_arePlacesRight_234 : decode cL_arePlacesRight 234 = .ok (.iconst 1, 1) := by decide +kernel
theorem dL_arePlacesRight_235 : decode cL_arePlacesRight 235 = .ok (.goto 4, 3) := by decide +kernel
theorem dL_arePlacesRight_238 : decode cL_arePlacesRight 238 = .ok (.iconst 0, 1) := by decide +kernel
theorem dL_arePlacesRight_239 : decode cL_arePlacesRight 239 = .ok (.if_icmp .ne 25, 3) := by decide +kernel
theorem dL_arePlacesRight_242 : decode cL_arePlacesRight 242 = .ok (.aload_n 0, 1) := by decide +kernel
theorem dL_arePlacesRight_243 : decode cL_arePlacesRight 243 = .ok (.invokevirtual 151, 3) := by decide +kernel
theorem dL_arePlacesRight_246 : decode cL_arePlacesRight 246 = .ok (.dconst 0, 1) := by decide +kernel
theorem dL_arePlacesRight_247 : decode cL_arePlacesRight 247 = .ok (.dcmp .l, 1) := by decide +kernel
theorem dL_arePlacesRight_248 : decode cL_arePlacesRight 248 = .ok (.ifCond .lt 16, 3) := by decide +kernel
theorem dL_arePlacesRight_251 : decode cL_arePlacesRight 251 = .ok (.aload_n 0, 1) := by decide +kernel
theorem dL_arePlacesRight_252 : decode cL_arePlacesRight 252 = .ok (.invokevirtual 151, 3) := by decide +kernel
theorem dL_arePlacesRight_255 : decode cL_arePlacesRight 255 = .ok (.dconst 1, 1) := by decide +kernel
theorem dL_arePlacesRight_256 : decode cL_arePlacesRight 256 = .ok (.dcmp .g, 1) := by decide +kernel
theorem dL_arePlacesRight_257 : decode cL_arePlacesRight 257 = .ok (.ifCond .gt 7, 3) := by decide +kernel
theorem dL_arePlacesRight_260 : decode cL_arePlacesRight 260 = .ok (.iconst 1, 1) := by decide +kernel
theorem dL_arePlacesRight_261 : decode cL_arePlacesRight 261 = .ok (.goto 4, 3) := by decide +kernel
theorem dL_arePlacesRight_264 : decode cL_arePlacesRight 264 = .ok (.iconst 0, 1) := by decide +kernel
theorem dL_arePlacesRight_265 : decode cL_arePlacesRight 265 = .ok (.ireturn, 1) := by decide +kernel
