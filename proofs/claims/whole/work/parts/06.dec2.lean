theorem dX7_init_0 : decode cX7_init 0 = .ok (.aload_n 0, 1) := by decide +kernel
theorem dX7_init_1 : decode cX7_init 1 = .ok (.invokespecial 1, 3) := by decide +kernel
theorem dX7_init_4 : decode cX7_init 4 = .ok (.aload_n 0, 1) := by decide +kernel
theorem dX7_init_5 : decode cX7_init 5 = .ok (.iconst 3, 1) := by decide +kernel
theorem dX7_init_6 : decode cX7_init 6 = .ok (.putfield 7, 3) := by decide +kernel
theorem dX7_init_9 : decode cX7_init 9 = .ok (.aload_n 0, 1) := by decide +kernel
theorem dX7_init_10 : decode cX7_init 10 = .ok (.bipush 10, 2) := by decide +kernel
theorem dX7_init_12 : decode cX7_init 12 = .ok (.putfield 13, 3) := by decide +kernel
theorem dX7_init_15 : decode cX7_init 15 = .ok (.aload_n 0, 1) := by decide +kernel
theorem dX7_init_16 : decode cX7_init 16 = .ok (.iconst 1, 1) := by decide +kernel
theorem dX7_init_17 : decode cX7_init 17 = .ok (.putfield 16, 3) := by decide +kernel
theorem dX7_init_20 : decode cX7_init 20 = .ok (.aload_n 0, 1) := by decide +kernel
theorem dX7_init_21 : decode cX7_init 21 = .ok (.iconst 4, 1) := by decide +kernel
theorem dX7_init_22 : decode cX7_init 22 = .ok (.newarray .int, 2) := by decide +kernel
theorem dX7_init_24 : decode cX7_init 24 = .ok (.putfield 19, 3) := by decide +kernel
theorem dX7_init_27 : decode cX7_init 27 = .ok (.aload_n 0, 1) := by decide +kernel
theorem dX7_init_28 : decode cX7_init 28 = .ok (.iconst 4, 1) := by decide +kernel
theorem dX7_init_29 : decode cX7_init 29 = .ok (.newarray .int, 2) := by decide +kernel
theorem dX7_init_31 : decode cX7_init 31 = .ok (.putfield 23, 3) := by decide +kernel
theorem dX7_init_34 : decode cX7_init 34 = .ok (.aload_n 0, 1) := by decide +kernel
theorem dX7_init_35 : decode cX7_init 35 = .ok (.bipush 16, 2) := by decide +kernel
theorem dX7_init_37 : decode cX7_init 37 = .ok (.newarray .int, 2) := by decide +kernel
theorem dX7_init_39 : decode cX7_init 39 = .ok (.putfield 26, 3) := by decide +kernel
theorem dX7_init_42 : decode cX7_init 42 = .ok (.aload_n 0, 1) := by decide +kernel
theorem dX7_init_43 : decode cX7_init 43 = .ok (.bipush 16, 2) := by decide +kernel
theorem dX7_init_45 : decode cX7_init 45 = .ok (.newarray .int, 2) := by decide +kernel
theorem dX7_init_47 : decode cX7_init 47 = .ok (.putfield 29, 3) := by decide +kernel
theorem dX7_init_50 : decode cX7_init 50 = .ok (.aload_n 0, 1) := by decide +kernel
theorem dX7_init_51 : decode cX7_init 51 = .ok (.bipush 16, 2) := by decide +kernel
theorem dX7_init_53 : decode cX7_init 53 = .ok (.newarray .int, 2) := by decide +kernel
theorem dX7_init_55 : decode cX7_init 55 = .ok (.putfield 32, 3) := by decide +kernel
theorem dX7_init_58 : decode cX7_init 58 = .ok (.aload_n 0, 1) := by decide +kernel
theorem dX7_init_59 : decode cX7_init 59 = .ok (.bipush 16, 2) := by decide +kernel
theorem dX7_init_61 : decode cX7_init 61 = .ok (.newarray .int, 2) := by decide +kernel
theorem dX7_init_63 : decode cX7_init 63 = .ok (.putfield 35, 3) := by decide +kernel
theorem dX7_init_66 : decode cX7_init 66 = .ok (.aload_n 0, 1) := by decide +kernel
theorem dX7_init_67 : decode cX7_init 67 = .ok (.bipush 16, 2) := by decide +kernel
theorem dX7_init_69 : decode cX7_init 69 = .ok (.bipush 16, 2) := by decide +kernel
theorem dX7_init_71 : decode cX7_init 71 = .ok (.multianewarray 38 2, 4) := by decide +kernel
theorem dX7_init_75 : decode cX7_init 75 = .ok (.putfield 40, 3) := by decide +kernel
theorem dX7_init_78 : decode cX7_init 78 = .ok (.aload_n 0, 1) := by decide +kernel
theorem dX7_init_79 : decode cX7_init 79 = .ok (.bipush 16, 2) := by decide +kernel
theorem dX7_init_81 : decode cX7_init 81 = .ok (.bipush 16, 2) := by decide +kernel
theorem dX7_init_83 : decode cX7_init 83 = .ok (.multianewarray 38 2, 4) := by decide +kernel
theorem dX7_init_87 : decode cX7_init 87 = .ok (.putfield 43, 3) := by decide +kernel
theorem dX7_init_90 : decode cX7_init 90 = .ok (.aload_n 0, 1) := by decide +kernel
theorem dX7_init_91 : decode cX7_init 91 = .ok (.bipush 16, 2) := by decide +kernel
theorem dX7_init_93 : decode cX7_init 93 = .ok (.newarray .int, 2) := by decide +kernel
theorem dX7_init_95 : decode cX7_init 95 = .ok (.putfield 46, 3) := by decide +kernel
theorem dX7_init_98 : decode cX7_init 98 = .ok (.aload_n 0, 1) := by decide +kernel
theorem dX7_init_99 : decode cX7_init 99 = .ok (.bipush 16, 2) := by decide +kernel
theorem dX7_init_101 : decode cX7_init 101 = .ok (.newarray .int, 2) := by decide +kernel
theorem dX7_init_103 : decode cX7_init 103 = .ok (.putfield 49, 3) := by decide +kernel
theorem dX7_init_106 : decode cX7_init 106 = .ok (.aload_n 0, 1) := by decide +kernel
theorem dX7_init_107 : decode cX7_init 107 = .ok (.bipush 16, 2) := by decide +kernel
theorem dX7_init_109 : decode cX7_init 109 = .ok (.newarray .int, 2) := by decide +kernel
theorem dX7_init_111 : decode cX7_init 111 = .ok (.putfield 52, 3) := by decide +kernel
theorem dX7_init_114 : decode cX7_init 114 = .ok (.aload_n 0, 1) := by decide +kernel
theorem dX7_init_115 : decode cX7_init 115 = .ok (.bipush 16, 2) := by decide +kernel
theorem dX7_init_117 : decode cX7_init 117 = .ok (.newarray .int, 2) := by decide +kernel
theorem dX7_init_119 : decode cX7_init 119 = .ok (.putfield 55, 3) := by decide +kernel
theorem dX7_init_122 : decode cX7_init 122 = .ok (.aload_n 0, 1) := by decide +kernel
theorem dX7_init_123 : decode cX7_init 123 = .ok (.bipush 16, 2) := by decide +kernel
theorem dX7_init_125 : decode cX7_init 125 = .ok (.newarray .int, 2) := by decide +kernel
theorem dX7_init_127 : decode cX7_init 127 = .ok (.putfield 58, 3) := by decide +kernel
theorem dX7_init_130 : decode cX7_init 130 = .ok (.aload_n 0, 1) := by decide +kernel
theorem dX7_init_131 : decode cX7_init 131 = .ok (.bipush 16, 2) := by decide +kernel
theorem dX7_init_133 : decode cX7_init 133 = .ok (.newarray .int, 2) := by decide +kernel
theorem dX7_init_135 : decode cX7_init 135 = .ok (.putfield 61, 3) := by decide +kernel
theorem dX7_init_138 : decode cX7_init 138 = .ok (.aload_n 0, 1) := by decide +kernel
theorem dX7_init_139 : decode cX7_init 139 = .ok (.bipush 16, 2) := by decide +kernel
theorem dX7_init_141 : decode cX7_init 141 = .ok (.newarray .int, 2) := by decide +kernel
theorem dX7_init_143 : decode cX7_init 143 = .ok (.putfield 64, 3) := by decide +kernel
theorem dX7_init_146 : decode cX7_init 146 = .ok (.aload_n 0, 1) := by decide +kernel
theorem dX7_init_147 : decode cX7_init 147 = .ok (.bipush 16, 2) := by decide +kernel
theorem dX7_init_149 : decode cX7_init 149 = .ok (.newarray .int, 2) := by decide +kernel
theorem dX7_init_151 : decode cX7_init 151 = .ok (.putfield 67, 3) := by decide +kernel
theorem dX7_init_154 : decode cX7_init 154 = .ok (.aload_n 0, 1) := by decide +kernel
theorem dX7_init_155 : decode cX7_init 155 = .ok (.bipush 16, 2) := by decide +kernel
theorem dX7_init_157 : decode cX7_init 157 = .ok (.newarray .int, 2) := by decide +kernel
theorem dX7_init_159 : decode cX7_init 159 = .ok (.putfield 70, 3) := by decide +kernel
theorem dX7_init_162 : decode cX7_init 162 = .ok (.aload_n 0, 1) := by decide +kernel
theorem dX7_init_163 : decode cX7_init 163 = .ok (.bipush 16, 2) := by decide +kernel
theorem dX7_init_165 : decode cX7_init 165 = .ok (.newarray .int, 2) := by decide +kernel
theorem dX7_init_167 : decode cX7_init 167 = .ok (.putfield 73, 3) := by decide +kernel
theorem dX7_init_170 : decode cX7_init 170 = .ok (.aload_n 0, 1) := by decide +kernel
theorem dX7_init_171 : decode cX7_init 171 = .ok (.bipush 16, 2) := by decide +kernel
theorem dX7_init_173 : decode cX7_init 173 = .ok (.iconst 5, 1) := by decide +kernel
theorem dX7_init_174 : decode cX7_init 174 = .ok (.multianewarray 38 2, 4) := by decide +kernel
theorem dX7_init_178 : decode cX7_init 178 = .ok (.putfield 76, 3) := by decide +kernel
theorem dX7_init_181 : decode cX7_init 181 = .ok (.aload_n 0, 1) := by decide +kernel
theorem dX7_init_182 : decode cX7_init 182 = .ok (.iconst 3, 1) := by decide +kernel
theorem dX7_init_183 : decode cX7_init 183 = .ok (.newarray .int, 2) := by decide +kernel
theorem dX7_init_185 : decode cX7_init 185 = .ok (.dup, 1) := by decide +kernel
theorem dX7_init_186 : decode cX7_init 186 = .ok (.iconst 0, 1) := by decide +kernel
theorem dX7_init_187 : decode cX7_init 187 = .ok (.iconst (-1), 1) := by decide +kernel
theorem dX7_init_188 : decode cX7_init 188 = .ok (.iastore, 1) := by decide +kernel
theorem dX7_init_189 : decode cX7_init 189 = .ok (.dup, 1) := by decide +kernel
theorem dX7_init_190 : decode cX7_init 190 = .ok (.iconst 1, 1) := by decide +kernel
theorem dX7_init_191 : decode cX7_init 191 = .ok (.iconst (-1), 1) := by decide +kernel
theorem dX7_init_192 : decode cX7_init 192 = .ok (.iastore, 1) := by decide +kernel
theorem dX7_init_193 : decode cX7_init 193 = .ok (.dup, 1) := by decide +kernel
theorem dX7_init_194 : decode cX7_init 194 = .ok (.iconst 2, 1) := by decide +kernel
theorem dX7_init_195 : decode cX7_init 195 = .ok (.iconst (-1), 1) := by decide +kernel
theorem dX7_init_196 : decode cX7_init 196 = .ok (.iastore, 1) := by decide +kernel
theorem dX7_init_197 : decode cX7_init 197 = .ok (.putfield 79, 3) := by decide +kernel
theorem dX7_init_200 : decode cX7_init 200 = .ok (.aload_n 0, 1) := by decide +kernel
theorem dX7_init_201 : decode cX7_init 201 = .ok (.iconst 3, 1) := by decide +kernel
theorem dX7_init_202 : decode cX7_init 202 = .ok (.newarray .int, 2) := by decide +kernel
theorem dX7_init_204 : decode cX7_init 204 = .ok (.putfield 82, 3) := by decide +kernel
theorem dX7_init_207 : decode cX7_init 207 = .ok (.aload_n 0, 1) := by decide +kernel
theorem dX7_init_208 : decode cX7_init 208 = .ok (.bipush 30, 2) := by decide +kernel
theorem dX7_init_210 : decode cX7_init 210 = .ok (.iconst 3, 1) := by decide +kernel
theorem dX7_init_211 : decode cX7_init 211 = .ok (.multianewarray 38 2, 4) := by decide +kernel
theorem dX7_init_215 : decode cX7_init 215 = .ok (.putfield 85, 3) := by decide +kernel
theorem dX7_init_218 : decode cX7_init 218 = .ok (.aload_n 0, 1) := by decide +kernel
theorem dX7_init_219 : decode cX7_init 219 = .ok (.bipush 6, 2) := by decide +kernel
theorem dX7_init_221 : decode cX7_init 221 = .ok (.newarray .int, 2) := by decide +kernel
theorem dX7_init_223 : decode cX7_init 223 = .ok (.dup, 1) := by decide +kernel
theorem dX7_init_224 : decode cX7_init 224 = .ok (.iconst 0, 1) := by decide +kernel
theorem dX7_init_225 : decode cX7_init 225 = .ok (.iconst (-1), 1) := by decide +kernel
theorem dX7_init_226 : decode cX7_init 226 = .ok (.iastore, 1) := by decide +kernel
theorem dX7_init_227 : decode cX7_init 227 = .ok (.dup, 1) := by decide +kernel
theorem dX7_init_228 : decode cX7_init 228 = .ok (.iconst 1, 1) := by decide +kernel
theorem dX7_init_229 : decode cX7_init 229 = .ok (.iconst (-1), 1) := by decide +kernel
theorem dX7_init_230 : decode cX7_init 230 = .ok (.iastore, 1) := by decide +kernel
theorem dX7_init_231 : decode cX7_init 231 = .ok (.dup, 1) := by decide +kernel
theorem dX7_init_232 : decode cX7_init 232 = .ok (.iconst 2, 1) := by decide +kernel
theorem dX7_init_233 : decode cX7_init 233 = .ok (.iconst (-1), 1) := by decide +kernel
theorem dX7_init_234 : decode cX7_init 234 = .ok (.iastore, 1) := by decide +kernel
theorem dX7_init_235 : decode cX7_init 235 = .ok (.dup, 1) := by decide +kernel
theorem dX7_init_236 : decode cX7_init 236 = .ok (.iconst 3, 1) := by decide +kernel
theorem dX7_init_237 : decode cX7_init 237 = .ok (.iconst (-1), 1) := by decide +kernel
theorem dX7_init_238 : decode cX7_init 238 = .ok (.iastore, 1) := by decide +kernel
theorem dX7_init_239 : decode cX7_init 239 = .ok (.dup, 1) := by decide +kernel
theorem dX7_init_240 : decode cX7_init 240 = .ok (.iconst 4, 1) := by decide +kernel
theorem dX7_init_241 : decode cX7_init 241 = .ok (.iconst (-1), 1) := by decide +kernel
theorem dX7_init_242 : decode cX7_init 242 = .ok (.iastore, 1) := by decide +kernel
theorem dX7_init_243 : decode cX7_init 243 = .ok (.dup, 1) := by decide +kernel
theorem dX7_init_244 : decode cX7_init 244 = .ok (.iconst 5, 1) := by decide +kernel
theorem dX7_init_245 : decode cX7_init 245 = .ok (.iconst (-1), 1) := by decide +kernel
theorem dX7_init_246 : decode cX7_init 246 = .ok (.iastore, 1) := by decide +kernel
theorem dX7_init_247 : decode cX7_init 247 = .ok (.putfield 88, 3) := by decide +kernel
theorem dX7_init_250 : decode cX7_init 250 = .ok (.aload_n 0, 1) := by decide +kernel
theorem dX7_init_251 : decode cX7_init 251 = .ok (.bipush 6, 2) := by decide +kernel
theorem dX7_init_253 : decode cX7_init 253 = .ok (.newarray .int, 2) := by decide +kernel
theorem dX7_init_255 : decode cX7_init 255 = .ok (.putfield 91, 3) := by decide +kernel
theorem dX7_init_258 : decode cX7_init 258 = .ok (.return_, 1) := by decide +kernel
theorem dX7_copy_0 : decode cX7_copy 0 = .ok (.new 8, 3) := by decide +kernel
theorem dX7_copy_3 : decode cX7_copy 3 = .ok (.dup, 1) := by decide +kernel
theorem dX7_copy_4 : decode cX7_copy 4 = .ok (.invokespecial 94, 3) := by decide +kernel
theorem dX7_copy_7 : decode cX7_copy 7 = .ok (.astore_n 1, 1) := by decide +kernel
theorem dX7_copy_8 : decode cX7_copy 8 = .ok (.aload_n 1, 1) := by decide +kernel
theorem dX7_copy_9 : decode cX7_copy 9 = .ok (.aload_n 0, 1) := by decide +kernel
theorem dX7_copy_10 : decode cX7_copy 10 = .ok (.getfield 95, 3) := by decide +kernel
theorem dX7_copy_13 : decode cX7_copy 13 = .ok (.putfield 95, 3) := by decide +kernel
theorem dX7_copy_16 : decode cX7_copy 16 = .ok (.aload_n 1, 1) := by decide +kernel
theorem dX7_copy_17 : decode cX7_copy 17 = .ok (.aload_n 0, 1) := by decide +kernel
theorem dX7_copy_18 : decode cX7_copy 18 = .ok (.getfield 98, 3) := by decide +kernel
theorem dX7_copy_21 : decode cX7_copy 21 = .ok (.putfield 98, 3) := by decide +kernel
theorem dX7_copy_24 : decode cX7_copy 24 = .ok (.aload_n 1, 1) := by decide +kernel
theorem dX7_copy_25 : decode cX7_copy 25 = .ok (.aload_n 0, 1) := by decide +kernel
theorem dX7_copy_26 : decode cX7_copy 26 = .ok (.getfield 7, 3) := by decide +kernel
theorem dX7_copy_29 : decode cX7_copy 29 = .ok (.putfield 7, 3) := by decide +kernel
theorem dX7_copy_32 : decode cX7_copy 32 = .ok (.aload_n 1, 1) := by decide +kernel
theorem dX7_copy_33 : decode cX7_copy 33 = .ok (.aload_n 0, 1) := by decide +kernel
theorem dX7_copy_34 : decode cX7_copy 34 = .ok (.getfield 101, 3) := by decide +kernel
theorem dX7_copy_37 : decode cX7_copy 37 = .ok (.putfield 101, 3) := by decide +kernel
theorem dX7_copy_40 : decode cX7_copy 40 = .ok (.aload_n 1, 1) := by decide +kernel
theorem dX7_copy_41 : decode cX7_copy 41 = .ok (.aload_n 0, 1) := by decide +kernel
theorem dX7_copy_42 : decode cX7_copy 42 = .ok (.getfield 13, 3) := by decide +kernel
theorem dX7_copy_45 : decode cX7_copy 45 = .ok (.putfield 13, 3) := by decide +kernel
theorem dX7_copy_48 : decode cX7_copy 48 = .ok (.aload_n 1, 1) := by decide +kernel
theorem dX7_copy_49 : decode cX7_copy 49 = .ok (.aload_n 0, 1) := by decide +kernel
theorem dX7_copy_50 : decode cX7_copy 50 = .ok (.getfield 16, 3) := by decide +kernel
theorem dX7_copy_53 : decode cX7_copy 53 = .ok (.putfield 16, 3) := by decide +kernel
theorem dX7_copy_56 : decode cX7_copy 56 = .ok (.aload_n 1, 1) := by decide +kernel
theorem dX7_copy_57 : decode cX7_copy 57 = .ok (.aload_n 0, 1) := by decide +kernel
theorem dX7_copy_58 : decode cX7_copy 58 = .ok (.getfield 104, 3) := by decide +kernel
theorem dX7_copy_61 : decode cX7_copy 61 = .ok (.putfield 104, 3) := by decide +kernel
theorem dX7_copy_64 : decode cX7_copy 64 = .ok (.aload_n 1, 1) := by decide +kernel
theorem dX7_copy_65 : decode cX7_copy 65 = .ok (.aload_n 0, 1) := by decide +kernel
theorem dX7_copy_66 : decode cX7_copy 66 = .ok (.getfield 107, 3) := by decide +kernel
theorem dX7_copy_69 : decode cX7_copy 69 = .ok (.putfield 107, 3) := by decide +kernel
theorem dX7_copy_72 : decode cX7_copy 72 = .ok (.aload_n 1, 1) := by decide +kernel
theorem dX7_copy_73 : decode cX7_copy 73 = .ok (.aload_n 0, 1) := by decide +kernel
theorem dX7_copy_74 : decode cX7_copy 74 = .ok (.getfield 110, 3) := by decide +kernel
theorem dX7_copy_77 : decode cX7_copy 77 = .ok (.putfield 110, 3) := by decide +kernel
theorem dX7_copy_80 : decode cX7_copy 80 = .ok (.bipush 20, 2) := by decide +kernel
theorem dX7_copy_82 : decode cX7_copy 82 = .ok (.anewarray 113, 3) := by decide +kernel
theorem dX7_copy_85 : decode cX7_copy 85 = .ok (.dup, 1) := by decide +kernel
theorem dX7_copy_86 : decode cX7_copy 86 = .ok (.iconst 0, 1) := by decide +kernel
theorem dX7_copy_87 : decode cX7_copy 87 = .ok (.aload_n 0, 1) := by decide +kernel
theorem dX7_copy_88 : decode cX7_copy 88 = .ok (.getfield 19, 3) := by decide +kernel
theorem dX7_copy_91 : decode cX7_copy 91 = .ok (.aastore, 1) := by decide +kernel
theorem dX7_copy_92 : decode cX7_copy 92 = .ok (.dup, 1) := by decide +kernel
theorem dX7_copy_93 : decode cX7_copy 93 = .ok (.iconst 1, 1) := by decide +kernel
theorem dX7_copy_94 : decode cX7_copy 94 = .ok (.aload_n 0, 1) := by decide +kernel
theorem dX7_copy_95 : decode cX7_copy 95 = .ok (.getfield 23, 3) := by decide +kernel
theorem dX7_copy_98 : decode cX7_copy 98 = .ok (.aastore, 1) := by decide +kernel
theorem dX7_copy_99 : decode cX7_copy 99 = .ok (.dup, 1) := by decide +kernel
theorem dX7_copy_100 : decode cX7_copy 100 = .ok (.iconst 2, 1) := by decide +kernel
theorem dX7_copy_101 : decode cX7_copy 101 = .ok (.aload_n 0, 1) := by decide +kernel
theorem dX7_copy_102 : decode cX7_copy 102 = .ok (.getfield 26, 3) := by decide +kernel
theorem dX7_copy_105 : decode cX7_copy 105 = .ok (.aastore, 1) := by decide +kernel
theorem dX7_copy_106 : decode cX7_copy 106 = .ok (.dup, 1) := by decide +kernel
theorem dX7_copy_107 : decode cX7_copy 107 = .ok (.iconst 3, 1) := by decide +kernel
theorem dX7_copy_108 : decode cX7_copy 108 = .ok (.aload_n 0, 1) := by decide +kernel
theorem dX7_copy_109 : decode cX7_copy 109 = .ok (.getfield 29, 3) := by decide +kernel
theorem dX7_copy_112 : decode cX7_copy 112 = .ok (.aastore, 1) := by decide +kernel
theorem dX7_copy_113 : decode cX7_copy 113 = .ok (.dup, 1) := by decide +kernel
theorem dX7_copy_114 : decode cX7_copy 114 = .ok (.iconst 4, 1) := by decide +kernel
theorem dX7_copy_115 : decode cX7_copy 115 = .ok (.aload_n 0, 1) := by decide +kernel
theorem dX7_copy_116 : decode cX7_copy 116 = .ok (.getfield 32, 3) := by decide +kernel
theorem dX7_copy_119 : decode cX7_copy 119 = .ok (.aastore, 1) := by decide +kernel
theorem dX7_copy_120 : decode cX7_copy 120 = .ok (.dup, 1) := by decide +kernel
theorem dX7_copy_121 : decode cX7_copy 121 = .ok (.iconst 5, 1) := by decide +kernel
theorem dX7_copy_122 : decode cX7_copy 122 = .ok (.aload_n 0, 1) := by decide +kernel
theorem dX7_copy_123 : decode cX7_copy 123 = .ok (.getfield 35, 3) := by decide +kernel
theorem dX7_copy_126 : decode cX7_copy 126 = .ok (.aastore, 1) := by decide +kernel
theorem dX7_copy_127 : decode cX7_copy 127 = .ok (.dup, 1) := by decide +kernel
theorem dX7_copy_128 : decode cX7_copy 128 = .ok (.bipush 6, 2) := by decide +kernel
theorem dX7_copy_130 : decode cX7_copy 130 = .ok (.aload_n 0, 1) := by decide +kernel
theorem dX7_copy_131 : decode cX7_copy 131 = .ok (.getfield 46, 3) := by decide +kernel
theorem dX7_copy_134 : decode cX7_copy 134 = .ok (.aastore, 1) := by decide +kernel
theorem dX7_copy_135 : decode cX7_copy 135 = .ok (.dup, 1) := by decide +kernel
theorem dX7_copy_136 : decode cX7_copy 136 = .ok (.bipush 7, 2) := by decide +kernel
theorem dX7_copy_138 : decode cX7_copy 138 = .ok (.aload_n 0, 1) := by decide +kernel
theorem dX7_copy_139 : decode cX7_copy 139 = .ok (.getfield 49, 3) := by decide +kernel
theorem dX7_copy_142 : decode cX7_copy 142 = .ok (.aastore, 1) := by decide +kernel
theorem dX7_copy_143 : decode cX7_copy 143 = .ok (.dup, 1) := by decide +kernel
theorem dX7_copy_144 : decode cX7_copy 144 = .ok (.bipush 8, 2) := by decide +kernel
theorem dX7_copy_146 : decode cX7_copy 146 = .ok (.aload_n 0, 1) := by decide +kernel
theorem dX7_copy_147 : decode cX7_copy 147 = .ok (.getfield 52, 3) := by decide +kernel
theorem dX7_copy_150 : decode cX7_copy 150 = .ok (.aastore, 1) := by decide +kernel
theorem dX7_copy_151 : decode cX7_copy 151 = .ok (.dup, 1) := by decide +kernel
theorem dX7_copy_152 : decode cX7_copy 152 = .ok (.bipush 9, 2) := by decide +kernel
theorem dX7_copy_154 : decode cX7_copy 154 = .ok (.aload_n 0, 1) := by decide +kernel
theorem dX7_copy_155 : decode cX7_copy 155 = .ok (.getfield 55, 3) := by decide +kernel
theorem dX7_copy_158 : decode cX7_copy 158 = .ok (.aastore, 1) := by decide +kernel
theorem dX7_copy_159 : decode cX7_copy 159 = .ok (.dup, 1) := by decide +kernel
theorem dX7_copy_160 : decode cX7_copy 160 = .ok (.bipush 10, 2) := by decide +kernel
theorem dX7_copy_162 : decode cX7_copy 162 = .ok (.aload_n 0, 1) := by decide +kernel
theorem dX7_copy_163 : decode cX7_copy 163 = .ok (.getfield 58, 3) := by decide +kernel
theorem dX7_copy_166 : decode cX7_copy 166 = .ok (.aastore, 1) := by decide +kernel
theorem dX7_copy_167 : decode cX7_copy 167 = .ok (.dup, 1) := by decide +kernel
theorem dX7_copy_168 : decode cX7_copy 168 = .ok (.bipush 11, 2) := by decide +kernel
theorem dX7_copy_170 : decode cX7_copy 170 = .ok (.aload_n 0, 1) := by decide +kernel
theorem dX7_copy_171 : decode cX7_copy 171 = .ok (.getfield 61, 3) := by decide +kernel
theorem dX7_copy_174 : decode cX7_copy 174 = .ok (.aastore, 1) := by decide +kernel
theorem dX7_copy_175 : decode cX7_copy 175 = .ok (.dup, 1) := by decide +kernel
theorem dX7_copy_176 : decode cX7_copy 176 = .ok (.bipush 12, 2) := by decide +kernel
theorem dX7_copy_178 : decode cX7_copy 178 = .ok (.aload_n 0, 1) := by decide +kernel
theorem dX7_copy_179 : decode cX7_copy 179 = .ok (.getfield 64, 3) := by decide +kernel
theorem dX7_copy_182 : decode cX7_copy 182 = .ok (.aastore, 1) := by decide +kernel
theorem dX7_copy_183 : decode cX7_copy 183 = .ok (.dup, 1) := by decide +kernel
theorem dX7_copy_184 : decode cX7_copy 184 = .ok (.bipush 13, 2) := by decide +kernel
theorem dX7_copy_186 : decode cX7_copy 186 = .ok (.aload_n 0, 1) := by decide +kernel
theorem dX7_copy_187 : decode cX7_copy 187 = .ok (.getfield 67, 3) := by decide +kernel
theorem dX7_copy_190 : decode cX7_copy 190 = .ok (.aastore, 1) := by decide +kernel
theorem dX7_copy_191 : decode cX7_copy 191 = .ok (.dup, 1) := by decide +kernel
theorem dX7_copy_192 : decode cX7_copy 192 = .ok (.bipush 14, 2) := by decide +kernel
theorem dX7_copy_194 : decode cX7_copy 194 = .ok (.aload_n 0, 1) := by decide +kernel
theorem dX7_copy_195 : decode cX7_copy 195 = .ok (.getfield 70, 3) := by decide +kernel
theorem dX7_copy_198 : decode cX7_copy 198 = .ok (.aastore, 1) := by decide +kernel
theorem dX7_copy_199 : decode cX7_copy 199 = .ok (.dup, 1) := by decide +kernel
theorem dX7_copy_200 : decode cX7_copy 200 = .ok (.bipush 15, 2) := by decide +kernel
theorem dX7_copy_202 : decode cX7_copy 202 = .ok (.aload_n 0, 1) := by decide +kernel
theorem dX7_copy_203 : decode cX7_copy 203 = .ok (.getfield 73, 3) := by decide +kernel
theorem dX7_copy_206 : decode cX7_copy 206 = .ok (.aastore, 1) := by decide +kernel
theorem dX7_copy_207 : decode cX7_copy 207 = .ok (.dup, 1) := by decide +kernel
theorem dX7_copy_208 : decode cX7_copy 208 = .ok (.bipush 16, 2) := by decide +kernel
theorem dX7_copy_210 : decode cX7_copy 210 = .ok (.aload_n 0, 1) := by decide +kernel
theorem dX7_copy_211 : decode cX7_copy 211 = .ok (.getfield 79, 3) := by decide +kernel
theorem dX7_copy_214 : decode cX7_copy 214 = .ok (.aastore, 1) := by decide +kernel
theorem dX7_copy_215 : decode cX7_copy 215 = .ok (.dup, 1) := by decide +kernel
theorem dX7_copy_216 : decode cX7_copy 216 = .ok (.bipush 17, 2) := by decide +kernel
theorem dX7_copy_218 : decode cX7_copy 218 = .ok (.aload_n 0, 1) := by decide +kernel
theorem dX7_copy_219 : decode cX7_copy 219 = .ok (.getfield 82, 3) := by decide +kernel
theorem dX7_copy_222 : decode cX7_copy 222 = .ok (.aastore, 1) := by decide +kernel
theorem dX7_copy_223 : decode cX7_copy 223 = .ok (.dup, 1) := by decide +kernel
theorem dX7_copy_224 : decode cX7_copy 224 = .ok (.bipush 18, 2) := by decide +kernel
theorem dX7_copy_226 : decode cX7_copy 226 = .ok (.aload_n 0, 1) := by decide +kernel
theorem dX7_copy_227 : decode cX7_copy 227 = .ok (.getfield 88, 3) := by decide +kernel
theorem dX7_copy_230 : decode cX7_copy 230 = .ok (.aastore, 1) := by decide +kernel
theorem dX7_copy_231 : decode cX7_copy 231 = .ok (.dup, 1) := by decide +kernel
theorem dX7_copy_232 : decode cX7_copy 232 = .ok (.bipush 19, 2) := by decide +kernel
theorem dX7_copy_234 : decode cX7_copy 234 = .ok (.aload_n 0, 1) := by decide +kernel
theorem dX7_copy_235 : decode cX7_copy 235 = .ok (.getfield 91, 3) := by decide +kernel
theorem dX7_copy_238 : decode cX7_copy 238 = .ok (.aastore, 1) := by decide +kernel
theorem dX7_copy_239 : decode cX7_copy 239 = .ok (.astore_n 2, 1) := by decide +kernel
theorem dX7_copy_240 : decode cX7_copy 240 = .ok (.bipush 20, 2) := by decide +kernel
theorem dX7_copy_242 : decode cX7_copy 242 = .ok (.anewarray 113, 3) := by decide +kernel
theorem dX7_copy_245 : decode cX7_copy 245 = .ok (.dup, 1) := by decide +kernel
theorem dX7_copy_246 : decode cX7_copy 246 = .ok (.iconst 0, 1) := by decide +kernel
theorem dX7_copy_247 : decode cX7_copy 247 = .ok (.aload_n 1, 1) := by decide +kernel
theorem dX7_copy_248 : decode cX7_copy 248 = .ok (.getfield 19, 3) := by decide +kernel
theorem dX7_copy_251 : decode cX7_copy 251 = .ok (.aastore, 1) := by decide +kernel
theorem dX7_copy_252 : decode cX7_copy 252 = .ok (.dup, 1) := by decide +kernel
theorem dX7_copy_253 : decode cX7_copy 253 = .ok (.iconst 1, 1) := by decide +kernel
theorem dX7_copy_254 : decode cX7_copy 254 = .ok (.aload_n 1, 1) := by decide +kernel
theorem dX7_copy_255 : decode cX7_copy 255 = .ok (.getfield 23, 3) := by decide +kernel
theorem dX7_copy_258 : decode cX7_copy 258 = .ok (.aastore, 1) := by decide +kernel
theorem dX7_copy_259 : decode cX7_copy 259 = .ok (.dup, 1) := by decide +kernel
theorem dX7_copy_260 : decode cX7_copy 260 = .ok (.iconst 2, 1) := by decide +kernel
theorem dX7_copy_261 : decode cX7_copy 261 = .ok (.aload_n 1, 1) := by decide +kernel
theorem dX7_copy_262 : decode cX7_copy 262 = .ok (.getfield 26, 3) := by decide +kernel
theorem dX7_copy_265 : decode cX7_copy 265 = .ok (.aastore, 1) := by decide +kernel
theorem dX7_copy_266 : decode cX7_copy 266 = .ok (.dup, 1) := by decide +kernel
theorem dX7_copy_267 : decode cX7_copy 267 = .ok (.iconst 3, 1) := by decide +kernel
theorem dX7_copy_268 : decode cX7_copy 268 = .ok (.aload_n 1, 1) := by decide +kernel
theorem dX7_copy_269 : decode cX7_copy 269 = .ok (.getfield 29, 3) := by decide +kernel
theorem dX7_copy_272 : decode cX7_copy 272 = .ok (.aastore, 1) := by decide +kernel
theorem dX7_copy_273 : decode cX7_copy 273 = .ok (.dup, 1) := by decide +kernel
theorem dX7_copy_274 : decode cX7_copy 274 = .ok (.iconst 4, 1) := by decide +kernel
theorem dX7_copy_275 : decode cX7_copy 275 = .ok (.aload_n 1, 1) := by decide +kernel
theorem dX7_copy_276 : decode cX7_copy 276 = .ok (.getfield 32, 3) := by decide +kernel
theorem dX7_copy_279 : decode cX7_copy 279 = .ok (.aastore, 1) := by decide +kernel
theorem dX7_copy_280 : decode cX7_copy 280 = .ok (.dup, 1) := by decide +kernel
theorem dX7_copy_281 : decode cX7_copy 281 = .ok (.iconst 5, 1) := by decide +kernel
theorem dX7_copy_282 : decode cX7_copy 282 = .ok (.aload_n 1, 1) := by decide +kernel
theorem dX7_copy_283 : decode cX7_copy 283 = .ok (.getfield 35, 3) := by decide +kernel
theorem dX7_copy_286 : decode cX7_copy 286 = .ok (.aastore, 1) := by decide +kernel
theorem dX7_copy_287 : decode cX7_copy 287 = .ok (.dup, 1) := by decide +kernel
theorem dX7_copy_288 : decode cX7_copy 288 = .ok (.bipush 6, 2) := by decide +kernel
theorem dX7_copy_290 : decode cX7_copy 290 = .ok (.aload_n 1, 1) := by decide +kernel
theorem dX7_copy_291 : decode cX7_copy 291 = .ok (.getfield 46, 3) := by decide +kernel
theorem dX7_copy_294 : decode cX7_copy 294 = .ok (.aastore, 1) := by decide +kernel
theorem dX7_copy_295 : decode cX7_copy 295 = .ok (.dup, 1) := by decide +kernel
theorem dX7_copy_296 : decode cX7_copy 296 = .ok (.bipush 7, 2) := by decide +kernel
theorem dX7_copy_298 : decode cX7_copy 298 = .ok (.aload_n 1, 1) := by decide +kernel
theorem dX7_copy_299 : decode cX7_copy 299 = .ok (.getfield 49, 3) := by decide +kernel
theorem dX7_copy_302 : decode cX7_copy 302 = .ok (.aastore, 1) := by decide +kernel
theorem dX7_copy_303 : decode cX7_copy 303 = .ok (.dup, 1) := by decide +kernel
theorem dX7_copy_304 : decode cX7_copy 304 = .ok (.bipush 8, 2) := by decide +kernel
theorem dX7_copy_306 : decode cX7_copy 306 = .ok (.aload_n 1, 1) := by decide +kernel
theorem dX7_copy_307 : decode cX7_copy 307 = .ok (.getfield 52, 3) := by decide +kernel
theorem dX7_copy_310 : decode cX7_copy 310 = .ok (.aastore, 1) := by decide +kernel
theorem dX7_copy_311 : decode cX7_copy 311 = .ok (.dup, 1) := by decide +kernel
theorem dX7_copy_312 : decode cX7_copy 312 = .ok (.bipush 9, 2) := by decide +kernel
theorem dX7_copy_314 : decode cX7_copy 314 = .ok (.aload_n 1, 1) := by decide +kernel
theorem dX7_copy_315 : decode cX7_copy 315 = .ok (.getfield 55, 3) := by decide +kernel
theorem dX7_copy_318 : decode cX7_copy 318 = .ok (.aastore, 1) := by decide +kernel
theorem dX7_copy_319 : decode cX7_copy 319 = .ok (.dup, 1) := by decide +kernel
theorem dX7_copy_320 : decode cX7_copy 320 = .ok (.bipush 10, 2) := by decide +kernel
theorem dX7_copy_322 : decode cX7_copy 322 = .ok (.aload_n 1, 1) := by decide +kernel
theorem dX7_copy_323 : decode cX7_copy 323 = .ok (.getfield 58, 3) := by decide +kernel
theorem dX7_copy_326 : decode cX7_copy 326 = .ok (.aastore, 1) := by decide +kernel
theorem dX7_copy_327 : decode cX7_copy 327 = .ok (.dup, 1) := by decide +kernel
theorem dX7_copy_328 : decode cX7_copy 328 = .ok (.bipush 11, 2) := by decide +kernel
theorem dX7_copy_330 : decode cX7_copy 330 = .ok (.aload_n 1, 1) := by decide +kernel
theorem dX7_copy_331 : decode cX7_copy 331 = .ok (.getfield 61, 3) := by decide +kernel
theorem dX7_copy_334 : decode cX7_copy 334 = .ok (.aastore, 1) := by decide +kernel
theorem dX7_copy_335 : decode cX7_copy 335 = .ok (.dup, 1) := by decide +kernel
theorem dX7_copy_336 : decode cX7_copy 336 = .ok (.bipush 12, 2) := by decide +kernel
theorem dX7_copy_338 : decode cX7_copy 338 = .ok (.aload_n 1, 1) := by decide +kernel
theorem dX7_copy_339 : decode cX7_copy 339 = .ok (.getfield 64, 3) := by decide +kernel
theorem dX7_copy_342 : decode cX7_copy 342 = .ok (.aastore, 1) := by decide +kernel
theorem dX7_copy_343 : decode cX7_copy 343 = .ok (.dup, 1) := by decide +kernel
theorem dX7_copy_344 : decode cX7_copy 344 = .ok (.bipush 13, 2) := by decide +kernel
theorem dX7_copy_346 : decode cX7_copy 346 = .ok (.aload_n 1, 1) := by decide +kernel
theorem dX7_copy_347 : decode cX7_copy 347 = .ok (.getfield 67, 3) := by decide +kernel
theorem dX7_copy_350 : decode cX7_copy 350 = .ok (.aastore, 1) := by decide +kernel
theorem dX7_copy_351 : decode cX7_copy 351 = .ok (.dup, 1) := by decide +kernel
theorem dX7_copy_352 : decode cX7_copy 352 = .ok (.bipush 14, 2) := by decide +kernel
theorem dX7_copy_354 : decode cX7_copy 354 = .ok (.aload_n 1, 1) := by decide +kernel
theorem dX7_copy_355 : decode cX7_copy 355 = .ok (.getfield 70, 3) := by decide +kernel
theorem dX7_copy_358 : decode cX7_copy 358 = .ok (.aastore, 1) := by decide +kernel
theorem dX7_copy_359 : decode cX7_copy 359 = .ok (.dup, 1) := by decide +kernel
theorem dX7_copy_360 : decode cX7_copy 360 = .ok (.bipush 15, 2) := by decide +kernel
theorem dX7_copy_362 : decode cX7_copy 362 = .ok (.aload_n 1, 1) := by decide +kernel
theorem dX7_copy_363 : decode cX7_copy 363 = .ok (.getfield 73, 3) := by decide +kernel
theorem dX7_copy_366 : decode cX7_copy 366 = .ok (.aastore, 1) := by decide +kernel
theorem dX7_copy_367 : decode cX7_copy 367 = .ok (.dup, 1) := by decide +kernel
theorem dX7_copy_368 : decode cX7_copy 368 = .ok (.bipush 16, 2) := by decide +kernel
theorem dX7_copy_370 : decode cX7_copy 370 = .ok (.aload_n 1, 1) := by decide +kernel
theorem dX7_copy_371 : decode cX7_copy 371 = .ok (.getfield 79, 3) := by decide +kernel
theorem dX7_copy_374 : decode cX7_copy 374 = .ok (.aastore, 1) := by decide +kernel
theorem dX7_copy_375 : decode cX7_copy 375 = .ok (.dup, 1) := by decide +kernel
theorem dX7_copy_376 : decode cX7_copy 376 = .ok (.bipush 17, 2) := by decide +kernel
theorem dX7_copy_378 : decode cX7_copy 378 = .ok (.aload_n 1, 1) := by decide +kernel
theorem dX7_copy_379 : decode cX7_copy 379 = .ok (.getfield 82, 3) := by decide +kernel
theorem dX7_copy_382 : decode cX7_copy 382 = .ok (.aastore, 1) := by decide +kernel
theorem dX7_copy_383 : decode cX7_copy 383 = .ok (.dup, 1) := by decide +kernel
theorem dX7_copy_384 : decode cX7_copy 384 = .ok (.bipush 18, 2) := by decide +kernel
theorem dX7_copy_386 : decode cX7_copy 386 = .ok (.aload_n 1, 1) := by decide +kernel
theorem dX7_copy_387 : decode cX7_copy 387 = .ok (.getfield 88, 3) := by decide +kernel
theorem dX7_copy_390 : decode cX7_copy 390 = .ok (.aastore, 1) := by decide +kernel
theorem dX7_copy_391 : decode cX7_copy 391 = .ok (.dup, 1) := by decide +kernel
theorem dX7_copy_392 : decode cX7_copy 392 = .ok (.bipush 19, 2) := by decide +kernel
theorem dX7_copy_394 : decode cX7_copy 394 = .ok (.aload_n 1, 1) := by decide +kernel
theorem dX7_copy_395 : decode cX7_copy 395 = .ok (.getfield 91, 3) := by decide +kernel
theorem dX7_copy_398 : decode cX7_copy 398 = .ok (.aastore, 1) := by decide +kernel
theorem dX7_copy_399 : decode cX7_copy 399 = .ok (.astore_n 3, 1) := by decide +kernel
theorem dX7_copy_400 : decode cX7_copy 400 = .ok (.iconst 0, 1) := by decide +kernel
theorem dX7_copy_401 : decode cX7_copy 401 = .ok (.istore 4, 2) := by decide +kernel
theorem dX7_copy_403 : decode cX7_copy 403 = .ok (.iload 4, 2) := by decide +kernel
theorem dX7_copy_405 : decode cX7_copy 405 = .ok (.aload_n 2, 1) := by decide +kernel
theorem dX7_copy_406 : decode cX7_copy 406 = .ok (.arraylength, 1) := by decide +kernel
theorem dX7_copy_407 : decode cX7_copy 407 = .ok (.if_icmp .ge 27, 3) := by decide +kernel
theorem dX7_copy_410 : decode cX7_copy 410 = .ok (.aload_n 2, 1) := by decide +kernel
theorem dX7_copy_411 : decode cX7_copy 411 = .ok (.iload 4, 2) := by decide +kernel
theorem dX7_copy_413 : decode cX7_copy 413 = .ok (.aaload, 1) := by decide +kernel
theorem dX7_copy_414 : decode cX7_copy 414 = .ok (.iconst 0, 1) := by decide +kernel
theorem dX7_copy_415 : decode cX7_copy 415 = .ok (.aload_n 3, 1) := by decide +kernel
theorem dX7_copy_416 : decode cX7_copy 416 = .ok (.iload 4, 2) := by decide +kernel
theorem dX7_copy_418 : decode cX7_copy 418 = .ok (.aaload, 1) := by decide +kernel
theorem dX7_copy_419 : decode cX7_copy 419 = .ok (.iconst 0, 1) := by decide +kernel
theorem dX7_copy_420 : decode cX7_copy 420 = .ok (.aload_n 2, 1) := by decide +kernel
theorem dX7_copy_421 : decode cX7_copy 421 = .ok (.iload 4, 2) := by decide +kernel
theorem dX7_copy_423 : decode cX7_copy 423 = .ok (.aaload, 1) := by decide +kernel
theorem dX7_copy_424 : decode cX7_copy 424 = .ok (.arraylength, 1) := by decide +kernel
theorem dX7_copy_425 : decode cX7_copy 425 = .ok (.invokestatic 114, 3) := by decide +kernel
theorem dX7_copy_428 : decode cX7_copy 428 = .ok (.iinc 4 1, 3) := by decide +kernel
theorem dX7_copy_431 : decode cX7_copy 431 = .ok (.goto (-28), 3) := by decide +kernel
theorem dX7_copy_434 : decode cX7_copy 434 = .ok (.iconst 0, 1) := by decide +kernel
theorem dX7_copy_435 : decode cX7_copy 435 = .ok (.istore 4, 2) := by decide +kernel
theorem dX7_copy_437 : decode cX7_copy 437 = .ok (.iload 4, 2) := by decide +kernel
theorem dX7_copy_439 : decode cX7_copy 439 = .ok (.aload_n 0, 1) := by decide +kernel
theorem dX7_copy_440 : decode cX7_copy 440 = .ok (.getfield 110, 3) := by decide +kernel
theorem dX7_copy_443 : decode cX7_copy 443 = .ok (.if_icmp .ge 71, 3) := by decide +kernel
theorem dX7_copy_446 : decode cX7_copy 446 = .ok (.aload_n 0, 1) := by decide +kernel
theorem dX7_copy_447 : decode cX7_copy 447 = .ok (.getfield 40, 3) := by decide +kernel
theorem dX7_copy_450 : decode cX7_copy 450 = .ok (.iload 4, 2) := by decide +kernel
theorem dX7_copy_452 : decode cX7_copy 452 = .ok (.aaload, 1) := by decide +kernel
theorem dX7_copy_453 : decode cX7_copy 453 = .ok (.iconst 0, 1) := by decide +kernel
theorem dX7_copy_454 : decode cX7_copy 454 = .ok (.aload_n 1, 1) := by decide +kernel
theorem dX7_copy_455 : decode cX7_copy 455 = .ok (.getfield 40, 3) := by decide +kernel
theorem dX7_copy_458 : decode cX7_copy 458 = .ok (.iload 4, 2) := by decide +kernel
theorem dX7_copy_460 : decode cX7_copy 460 = .ok (.aaload, 1) := by decide +kernel
theorem dX7_copy_461 : decode cX7_copy 461 = .ok (.iconst 0, 1) := by decide +kernel
theorem dX7_copy_462 : decode cX7_copy 462 = .ok (.bipush 16, 2) := by decide +kernel
theorem dX7_copy_464 : decode cX7_copy 464 = .ok (.invokestatic 114, 3) := by decide +kernel
theorem dX7_copy_467 : decode cX7_copy 467 = .ok (.aload_n 0, 1) := by decide +kernel
theorem dX7_copy_468 : decode cX7_copy 468 = .ok (.getfield 43, 3) := by decide +kernel
theorem dX7_copy_471 : decode cX7_copy 471 = .ok (.iload 4, 2) := by decide +kernel
theorem dX7_copy_473 : decode cX7_copy 473 = .ok (.aaload, 1) := by decide +kernel
theorem dX7_copy_474 : decode cX7_copy 474 = .ok (.iconst 0, 1) := by decide +kernel
theorem dX7_copy_475 : decode cX7_copy 475 = .ok (.aload_n 1, 1) := by decide +kernel
theorem dX7_copy_476 : decode cX7_copy 476 = .ok (.getfield 43, 3) := by decide +kernel
theorem dX7_copy_479 : decode cX7_copy 479 = .ok (.iload 4, 2) := by decide +kernel
theorem dX7_copy_481 : decode cX7_copy 481 = .ok (.aaload, 1) := by decide +kernel
theorem dX7_copy_482 : decode cX7_copy 482 = .ok (.iconst 0, 1) := by decide +kernel
theorem dX7_copy_483 : decode cX7_copy 483 = .ok (.bipush 16, 2) := by decide +kernel
theorem dX7_copy_485 : decode cX7_copy 485 = .ok (.invokestatic 114, 3) := by decide +kernel
theorem dX7_copy_488 : decode cX7_copy 488 = .ok (.aload_n 0, 1) := by decide +kernel
theorem dX7_copy_489 : decode cX7_copy 489 = .ok (.getfield 76, 3) := by decide +kernel
theorem dX7_copy_492 : decode cX7_copy 492 = .ok (.iload 4, 2) := by decide +kernel
theorem dX7_copy_494 : decode cX7_copy 494 = .ok (.aaload, 1) := by decide +kernel
theorem dX7_copy_495 : decode cX7_copy 495 = .ok (.iconst 0, 1) := by decide +kernel
theorem dX7_copy_496 : decode cX7_copy 496 = .ok (.aload_n 1, 1) := by decide +kernel
theorem dX7_copy_497 : decode cX7_copy 497 = .ok (.getfield 76, 3) := by decide +kernel
theorem dX7_copy_500 : decode cX7_copy 500 = .ok (.iload 4, 2) := by decide +kernel
theorem dX7_copy_502 : decode cX7_copy 502 = .ok (.aaload, 1) := by decide +kernel
theorem dX7_copy_503 : decode cX7_copy 503 = .ok (.iconst 0, 1) := by decide +kernel
theorem dX7_copy_504 : decode cX7_copy 504 = .ok (.iconst 5, 1) := by decide +kernel
theorem dX7_copy_505 : decode cX7_copy 505 = .ok (.invokestatic 114, 3) := by decide +kernel
theorem dX7_copy_508 : decode cX7_copy 508 = .ok (.iinc 4 1, 3) := by decide +kernel
theorem dX7_copy_511 : decode cX7_copy 511 = .ok (.goto (-74), 3) := by decide +kernel
theorem dX7_copy_514 : decode cX7_copy 514 = .ok (.aload_n 1, 1) := by decide +kernel
theorem dX7_copy_515 : decode cX7_copy 515 = .ok (.areturn, 1) := by decide +kernel
theorem dX7_thrown_0 : decode cX7_thrown 0 = .ok (.aload_n 0, 1) := by decide +kernel
theorem dX7_thrown_1 : decode cX7_thrown 1 = .ok (.getfield 120, 3) := by decide +kernel
theorem dX7_thrown_4 : decode cX7_thrown 4 = .ok (.ireturn, 1) := by decide +kernel
theorem dX7_refuse_0 : decode cX7_refuse 0 = .ok (.aload_n 0, 1) := by decide +kernel
theorem dX7_refuse_1 : decode cX7_refuse 1 = .ok (.iload_n 1, 1) := by decide +kernel
theorem dX7_refuse_2 : decode cX7_refuse 2 = .ok (.putfield 120, 3) := by decide +kernel
theorem dX7_refuse_5 : decode cX7_refuse 5 = .ok (.iconst 0, 1) := by decide +kernel
theorem dX7_refuse_6 : decode cX7_refuse 6 = .ok (.ireturn, 1) := by decide +kernel
theorem dX7_is_0 : decode cX7_is 0 = .ok (.iload_n 0, 1) := by decide +kernel
theorem dX7_is_1 : decode cX7_is 1 = .ok (.iload_n 1, 1) := by decide +kernel
theorem dX7_is_2 : decode cX7_is 2 = .ok (.if_icmp .lt 12, 3) := by decide +kernel
theorem dX7_is_5 : decode cX7_is 5 = .ok (.iload_n 0, 1) := by decide +kernel
theorem dX7_is_6 : decode cX7_is 6 = .ok (.iload_n 2, 1) := by decide +kernel
theorem dX7_is_7 : decode cX7_is 7 = .ok (.if_icmp .gt 7, 3) := by decide +kernel
theorem dX7_is_10 : decode cX7_is 10 = .ok (.iconst 1, 1) := by decide +kernel
theorem dX7_is_11 : decode cX7_is 11 = .ok (.goto 4, 3) := by decide +kernel
theorem dX7_is_14 : decode cX7_is 14 = .ok (.iconst 0, 1) := by decide +kernel
theorem dX7_is_15 : decode cX7_is 15 = .ok (.ireturn, 1) := by decide +kernel
theorem dX7_isTask_0 : decode cX7_isTask 0 = .ok (.iload_n 1, 1) := by decide +kernel
theorem dX7_isTask_1 : decode cX7_isTask 1 = .ok (.iconst 0, 1) := by decide +kernel
theorem dX7_isTask_2 : decode cX7_isTask 2 = .ok (.aload_n 0, 1) := by decide +kernel
theorem dX7_isTask_3 : decode cX7_isTask 3 = .ok (.getfield 110, 3) := by decide +kernel
theorem dX7_isTask_6 : decode cX7_isTask 6 = .ok (.iconst 1, 1) := by decide +kernel
theorem dX7_isTask_7 : decode cX7_isTask 7 = .ok (.isub, 1) := by decide +kernel
theorem dX7_isTask_8 : decode cX7_isTask 8 = .ok (.invokestatic 123, 3) := by decide +kernel
theorem dX7_isTask_11 : decode cX7_isTask 11 = .ok (.ireturn, 1) := by decide +kernel
theorem dX7_keyNow_0 : decode cX7_keyNow 0 = .ok (.aload_n 0, 1) := by decide +kernel
theorem dX7_keyNow_1 : decode cX7_keyNow 1 = .ok (.getfield 98, 3) := by decide +kernel
theorem dX7_keyNow_4 : decode cX7_keyNow 4 = .ok (.ifCond .ne 12, 3) := by decide +kernel
theorem dX7_keyNow_7 : decode cX7_keyNow 7 = .ok (.aload_n 0, 1) := by decide +kernel
theorem dX7_keyNow_8 : decode cX7_keyNow 8 = .ok (.getfield 26, 3) := by decide +kernel
theorem dX7_keyNow_11 : decode cX7_keyNow 11 = .ok (.iload_n 1, 1) := by decide +kernel
theorem dX7_keyNow_12 : decode cX7_keyNow 12 = .ok (.iaload, 1) := by decide +kernel
theorem dX7_keyNow_13 : decode cX7_keyNow 13 = .ok (.goto 26, 3) := by decide +kernel
theorem dX7_keyNow_16 : decode cX7_keyNow 16 = .ok (.aload_n 0, 1) := by decide +kernel
theorem dX7_keyNow_17 : decode cX7_keyNow 17 = .ok (.getfield 98, 3) := by decide +kernel
theorem dX7_keyNow_20 : decode cX7_keyNow 20 = .ok (.iconst 1, 1) := by decide +kernel
theorem dX7_keyNow_21 : decode cX7_keyNow 21 = .ok (.if_icmp .ne 12, 3) := by decide +kernel
theorem dX7_keyNow_24 : decode cX7_keyNow 24 = .ok (.aload_n 0, 1) := by decide +kernel
theorem dX7_keyNow_25 : decode cX7_keyNow 25 = .ok (.getfield 61, 3) := by decide +kernel
theorem dX7_keyNow_28 : decode cX7_keyNow 28 = .ok (.iload_n 1, 1) := by decide +kernel
theorem dX7_keyNow_29 : decode cX7_keyNow 29 = .ok (.iaload, 1) := by decide +kernel
theorem dX7_keyNow_30 : decode cX7_keyNow 30 = .ok (.goto 9, 3) := by decide +kernel
theorem dX7_keyNow_33 : decode cX7_keyNow 33 = .ok (.aload_n 0, 1) := by decide +kernel
theorem dX7_keyNow_34 : decode cX7_keyNow 34 = .ok (.getfield 64, 3) := by decide +kernel
theorem dX7_keyNow_37 : decode cX7_keyNow 37 = .ok (.iload_n 1, 1) := by decide +kernel
theorem dX7_keyNow_38 : decode cX7_keyNow 38 = .ok (.iaload, 1) := by decide +kernel
theorem dX7_keyNow_39 : decode cX7_keyNow 39 = .ok (.ireturn, 1) := by decide +kernel
theorem dX7_waiters_0 : decode cX7_waiters 0 = .ok (.iconst 1, 1) := by decide +kernel
theorem dX7_waiters_1 : decode cX7_waiters 1 = .ok (.iload_n 1, 1) := by decide +kernel
theorem dX7_waiters_2 : decode cX7_waiters 2 = .ok (.ishl, 1) := by decide +kernel
theorem dX7_waiters_3 : decode cX7_waiters 3 = .ok (.istore_n 2, 1) := by decide +kernel
theorem dX7_waiters_4 : decode cX7_waiters 4 = .ok (.iconst 0, 1) := by decide +kernel
theorem dX7_waiters_5 : decode cX7_waiters 5 = .ok (.istore_n 3, 1) := by decide +kernel
theorem dX7_waiters_6 : decode cX7_waiters 6 = .ok (.iload_n 2, 1) := by decide +kernel
theorem dX7_waiters_7 : decode cX7_waiters 7 = .ok (.iload_n 3, 1) := by decide +kernel
theorem dX7_waiters_8 : decode cX7_waiters 8 = .ok (.if_icmp .eq 79, 3) := by decide +kernel
theorem dX7_waiters_11 : decode cX7_waiters 11 = .ok (.iload_n 2, 1) := by decide +kernel
theorem dX7_waiters_12 : decode cX7_waiters 12 = .ok (.istore_n 3, 1) := by decide +kernel
theorem dX7_waiters_13 : decode cX7_waiters 13 = .ok (.iconst 0, 1) := by decide +kernel
theorem dX7_waiters_14 : decode cX7_waiters 14 = .ok (.istore 4, 2) := by decide +kernel
theorem dX7_waiters_16 : decode cX7_waiters 16 = .ok (.iload 4, 2) := by decide +kernel
theorem dX7_waiters_18 : decode cX7_waiters 18 = .ok (.aload_n 0, 1) := by decide +kernel
theorem dX7_waiters_19 : decode cX7_waiters 19 = .ok (.getfield 110, 3) := by decide +kernel
theorem dX7_waiters_22 : decode cX7_waiters 22 = .ok (.if_icmp .ge 62, 3) := by decide +kernel
theorem dX7_waiters_25 : decode cX7_waiters 25 = .ok (.aload_n 0, 1) := by decide +kernel
theorem dX7_waiters_26 : decode cX7_waiters 26 = .ok (.getfield 46, 3) := by decide +kernel
theorem dX7_waiters_29 : decode cX7_waiters 29 = .ok (.iload 4, 2) := by decide +kernel
theorem dX7_waiters_31 : decode cX7_waiters 31 = .ok (.iaload, 1) := by decide +kernel
theorem dX7_waiters_32 : decode cX7_waiters 32 = .ok (.iconst 4, 1) := by decide +kernel
theorem dX7_waiters_33 : decode cX7_waiters 33 = .ok (.if_icmp .ne 45, 3) := by decide +kernel
theorem dX7_waiters_36 : decode cX7_waiters 36 = .ok (.aload_n 0, 1) := by decide +kernel
theorem dX7_waiters_37 : decode cX7_waiters 37 = .ok (.getfield 88, 3) := by decide +kernel
theorem dX7_waiters_40 : decode cX7_waiters 40 = .ok (.aload_n 0, 1) := by decide +kernel
theorem dX7_waiters_41 : decode cX7_waiters 41 = .ok (.getfield 70, 3) := by decide +kernel
theorem dX7_waiters_44 : decode cX7_waiters 44 = .ok (.iload 4, 2) := by decide +kernel
theorem dX7_waiters_46 : decode cX7_waiters 46 = .ok (.iaload, 1) := by decide +kernel
theorem dX7_waiters_47 : decode cX7_waiters 47 = .ok (.iaload, 1) := by decide +kernel
theorem dX7_waiters_48 : decode cX7_waiters 48 = .ok (.iconst (-1), 1) := by decide +kernel
theorem dX7_waiters_49 : decode cX7_waiters 49 = .ok (.if_icmp .eq 29, 3) := by decide +kernel
theorem dX7_waiters_52 : decode cX7_waiters 52 = .ok (.iload_n 2, 1) := by decide +kernel
theorem dX7_waiters_53 : decode cX7_waiters 53 = .ok (.aload_n 0, 1) := by decide +kernel
theorem dX7_waiters_54 : decode cX7_waiters 54 = .ok (.getfield 88, 3) := by decide +kernel
theorem dX7_waiters_57 : decode cX7_waiters 57 = .ok (.aload_n 0, 1) := by decide +kernel
theorem dX7_waiters_58 : decode cX7_waiters 58 = .ok (.getfield 70, 3) := by decide +kernel
theorem dX7_waiters_61 : decode cX7_waiters 61 = .ok (.iload 4, 2) := by decide +kernel
theorem dX7_waiters_63 : decode cX7_waiters 63 = .ok (.iaload, 1) := by decide +kernel
theorem dX7_waiters_64 : decode cX7_waiters 64 = .ok (.iaload, 1) := by decide +kernel
theorem dX7_waiters_65 : decode cX7_waiters 65 = .ok (.ishr, 1) := by decide +kernel
theorem dX7_waiters_66 : decode cX7_waiters 66 = .ok (.iconst 1, 1) := by decide +kernel
theorem dX7_waiters_67 : decode cX7_waiters 67 = .ok (.iand, 1) := by decide +kernel
theorem dX7_waiters_68 : decode cX7_waiters 68 = .ok (.ifCond .eq 10, 3) := by decide +kernel
theorem dX7_waiters_71 : decode cX7_waiters 71 = .ok (.iload_n 2, 1) := by decide +kernel
theorem dX7_waiters_72 : decode cX7_waiters 72 = .ok (.iconst 1, 1) := by decide +kernel
theorem dX7_waiters_73 : decode cX7_waiters 73 = .ok (.iload 4, 2) := by decide +kernel
theorem dX7_waiters_75 : decode cX7_waiters 75 = .ok (.ishl, 1) := by decide +kernel
theorem dX7_waiters_76 : decode cX7_waiters 76 = .ok (.ior, 1) := by decide +kernel
theorem dX7_waiters_77 : decode cX7_waiters 77 = .ok (.istore_n 2, 1) := by decide +kernel
theorem dX7_waiters_78 : decode cX7_waiters 78 = .ok (.iinc 4 1, 3) := by decide +kernel
theorem dX7_waiters_81 : decode cX7_waiters 81 = .ok (.goto (-65), 3) := by decide +kernel
theorem dX7_waiters_84 : decode cX7_waiters 84 = .ok (.goto (-78), 3) := by decide +kernel
theorem dX7_waiters_87 : decode cX7_waiters 87 = .ok (.iload_n 2, 1) := by decide +kernel
theorem dX7_waiters_88 : decode cX7_waiters 88 = .ok (.ireturn, 1) := by decide +kernel
theorem dX7_lentNow_0 : decode cX7_lentNow 0 = .ok (.aload_n 0, 1) := by decide +kernel
theorem dX7_lentNow_1 : decode cX7_lentNow 1 = .ok (.iload_n 1, 1) := by decide +kernel
theorem dX7_lentNow_2 : decode cX7_lentNow 2 = .ok (.invokevirtual 127, 3) := by decide +kernel
theorem dX7_lentNow_5 : decode cX7_lentNow 5 = .ok (.istore_n 2, 1) := by decide +kernel
theorem dX7_lentNow_6 : decode cX7_lentNow 6 = .ok (.aload_n 0, 1) := by decide +kernel
theorem dX7_lentNow_7 : decode cX7_lentNow 7 = .ok (.iload_n 1, 1) := by decide +kernel
theorem dX7_lentNow_8 : decode cX7_lentNow 8 = .ok (.invokevirtual 131, 3) := by decide +kernel
theorem dX7_lentNow_11 : decode cX7_lentNow 11 = .ok (.istore_n 3, 1) := by decide +kernel
theorem dX7_lentNow_12 : decode cX7_lentNow 12 = .ok (.iconst 0, 1) := by decide +kernel
theorem dX7_lentNow_13 : decode cX7_lentNow 13 = .ok (.istore 4, 2) := by decide +kernel
theorem dX7_lentNow_15 : decode cX7_lentNow 15 = .ok (.iload 4, 2) := by decide +kernel
theorem dX7_lentNow_17 : decode cX7_lentNow 17 = .ok (.aload_n 0, 1) := by decide +kernel
theorem dX7_lentNow_18 : decode cX7_lentNow 18 = .ok (.getfield 110, 3) := by decide +kernel
theorem dX7_lentNow_21 : decode cX7_lentNow 21 = .ok (.if_icmp .ge 29, 3) := by decide +kernel
theorem dX7_lentNow_24 : decode cX7_lentNow 24 = .ok (.iload_n 2, 1) := by decide +kernel
theorem dX7_lentNow_25 : decode cX7_lentNow 25 = .ok (.iload 4, 2) := by decide +kernel
theorem dX7_lentNow_27 : decode cX7_lentNow 27 = .ok (.ishr, 1) := by decide +kernel
theorem dX7_lentNow_28 : decode cX7_lentNow 28 = .ok (.iconst 1, 1) := by decide +kernel
theorem dX7_lentNow_29 : decode cX7_lentNow 29 = .ok (.iand, 1) := by decide +kernel
theorem dX7_lentNow_30 : decode cX7_lentNow 30 = .ok (.ifCond .eq 14, 3) := by decide +kernel
theorem dX7_lentNow_33 : decode cX7_lentNow 33 = .ok (.iload_n 3, 1) := by decide +kernel
theorem dX7_lentNow_34 : decode cX7_lentNow 34 = .ok (.aload_n 0, 1) := by decide +kernel
theorem dX7_lentNow_35 : decode cX7_lentNow 35 = .ok (.iload 4, 2) := by decide +kernel
theorem dX7_lentNow_37 : decode cX7_lentNow 37 = .ok (.invokevirtual 131, 3) := by decide +kernel
theorem dX7_lentNow_40 : decode cX7_lentNow 40 = .ok (.invokestatic 134, 3) := by decide +kernel
theorem dX7_lentNow_43 : decode cX7_lentNow 43 = .ok (.istore_n 3, 1) := by decide +kernel
theorem dX7_lentNow_44 : decode cX7_lentNow 44 = .ok (.iinc 4 1, 3) := by decide +kernel
theorem dX7_lentNow_47 : decode cX7_lentNow 47 = .ok (.goto (-32), 3) := by decide +kernel
theorem dX7_lentNow_50 : decode cX7_lentNow 50 = .ok (.iload_n 3, 1) := by decide +kernel
theorem dX7_lentNow_51 : decode cX7_lentNow 51 = .ok (.ireturn, 1) := by decide +kernel
theorem dX7_leastTime_0 : decode cX7_leastTime 0 = .ok (.iconst (-1), 1) := by decide +kernel
theorem dX7_leastTime_1 : decode cX7_leastTime 1 = .ok (.istore_n 2, 1) := by decide +kernel
theorem dX7_leastTime_2 : decode cX7_leastTime 2 = .ok (.iconst 0, 1) := by decide +kernel
theorem dX7_leastTime_3 : decode cX7_leastTime 3 = .ok (.istore_n 3, 1) := by decide +kernel
theorem dX7_leastTime_4 : decode cX7_leastTime 4 = .ok (.iload_n 3, 1) := by decide +kernel
theorem dX7_leastTime_5 : decode cX7_leastTime 5 = .ok (.aload_n 0, 1) := by decide +kernel
theorem dX7_leastTime_6 : decode cX7_leastTime 6 = .ok (.getfield 110, 3) := by decide +kernel
theorem dX7_leastTime_9 : decode cX7_leastTime 9 = .ok (.if_icmp .ge 56, 3) := by decide +kernel
theorem dX7_leastTime_12 : decode cX7_leastTime 12 = .ok (.iload_n 3, 1) := by decide +kernel
theorem dX7_leastTime_13 : decode cX7_leastTime 13 = .ok (.iload_n 1, 1) := by decide +kernel
theorem dX7_leastTime_14 : decode cX7_leastTime 14 = .ok (.if_icmp .eq 45, 3) := by decide +kernel
theorem dX7_leastTime_17 : decode cX7_leastTime 17 = .ok (.aload_n 0, 1) := by decide +kernel
theorem dX7_leastTime_18 : decode cX7_leastTime 18 = .ok (.getfield 46, 3) := by decide +kernel
theorem dX7_leastTime_21 : decode cX7_leastTime 21 = .ok (.iload_n 3, 1) := by decide +kernel
theorem dX7_leastTime_22 : decode cX7_leastTime 22 = .ok (.iaload, 1) := by decide +kernel
theorem dX7_leastTime_23 : decode cX7_leastTime 23 = .ok (.iconst 1, 1) := by decide +kernel
theorem dX7_leastTime_24 : decode cX7_leastTime 24 = .ok (.if_icmp .eq 13, 3) := by decide +kernel
theorem dX7_leastTime_27 : decode cX7_leastTime 27 = .ok (.aload_n 0, 1) := by decide +kernel
theorem dX7_leastTime_28 : decode cX7_leastTime 28 = .ok (.getfield 46, 3) := by decide +kernel
theorem dX7_leastTime_31 : decode cX7_leastTime 31 = .ok (.iload_n 3, 1) := by decide +kernel
theorem dX7_leastTime_32 : decode cX7_leastTime 32 = .ok (.iaload, 1) := by decide +kernel
theorem dX7_leastTime_33 : decode cX7_leastTime 33 = .ok (.iconst 2, 1) := by decide +kernel
theorem dX7_leastTime_34 : decode cX7_leastTime 34 = .ok (.if_icmp .ne 25, 3) := by decide +kernel
theorem dX7_leastTime_37 : decode cX7_leastTime 37 = .ok (.iload_n 2, 1) := by decide +kernel
theorem dX7_leastTime_38 : decode cX7_leastTime 38 = .ok (.iconst (-1), 1) := by decide +kernel
theorem dX7_leastTime_39 : decode cX7_leastTime 39 = .ok (.if_icmp .eq 13, 3) := by decide +kernel
theorem dX7_leastTime_42 : decode cX7_leastTime 42 = .ok (.aload_n 0, 1) := by decide +kernel
theorem dX7_leastTime_43 : decode cX7_leastTime 43 = .ok (.getfield 64, 3) := by decide +kernel
theorem dX7_leastTime_46 : decode cX7_leastTime 46 = .ok (.iload_n 3, 1) := by decide +kernel
theorem dX7_leastTime_47 : decode cX7_leastTime 47 = .ok (.iaload, 1) := by decide +kernel
theorem dX7_leastTime_48 : decode cX7_leastTime 48 = .ok (.iload_n 2, 1) := by decide +kernel
theorem dX7_leastTime_49 : decode cX7_leastTime 49 = .ok (.if_icmp .ge 10, 3) := by decide +kernel
theorem dX7_leastTime_52 : decode cX7_leastTime 52 = .ok (.aload_n 0, 1) := by decide +kernel
theorem dX7_leastTime_53 : decode cX7_leastTime 53 = .ok (.getfield 64, 3) := by decide +kernel
theorem dX7_leastTime_56 : decode cX7_leastTime 56 = .ok (.iload_n 3, 1) := by decide +kernel
theorem dX7_leastTime_57 : decode cX7_leastTime 57 = .ok (.iaload, 1) := by decide +kernel
theorem dX7_leastTime_58 : decode cX7_leastTime 58 = .ok (.istore_n 2, 1) := by decide +kernel
theorem dX7_leastTime_59 : decode cX7_leastTime 59 = .ok (.iinc 3 1, 3) := by decide +kernel
theorem dX7_leastTime_62 : decode cX7_leastTime 62 = .ok (.goto (-58), 3) := by decide +kernel
theorem dX7_leastTime_65 : decode cX7_leastTime 65 = .ok (.iload_n 2, 1) := by decide +kernel
theorem dX7_leastTime_66 : decode cX7_leastTime 66 = .ok (.ireturn, 1) := by decide +kernel
theorem dX7_ready_0 : decode cX7_ready 0 = .ok (.aload_n 0, 1) := by decide +kernel
theorem dX7_ready_1 : decode cX7_ready 1 = .ok (.getfield 46, 3) := by decide +kernel
theorem dX7_ready_4 : decode cX7_ready 4 = .ok (.iload_n 1, 1) := by decide +kernel
theorem dX7_ready_5 : decode cX7_ready 5 = .ok (.iconst 1, 1) := by decide +kernel
theorem dX7_ready_6 : decode cX7_ready 6 = .ok (.iastore, 1) := by decide +kernel
theorem dX7_ready_7 : decode cX7_ready 7 = .ok (.aload_n 0, 1) := by decide +kernel
theorem dX7_ready_8 : decode cX7_ready 8 = .ok (.getfield 58, 3) := by decide +kernel
theorem dX7_ready_11 : decode cX7_ready 11 = .ok (.iload_n 1, 1) := by decide +kernel
theorem dX7_ready_12 : decode cX7_ready 12 = .ok (.aload_n 0, 1) := by decide +kernel
theorem dX7_ready_13 : decode cX7_ready 13 = .ok (.getfield 104, 3) := by decide +kernel
theorem dX7_ready_16 : decode cX7_ready 16 = .ok (.iastore, 1) := by decide +kernel
theorem dX7_ready_17 : decode cX7_ready 17 = .ok (.aload_n 0, 1) := by decide +kernel
theorem dX7_ready_18 : decode cX7_ready 18 = .ok (.dup, 1) := by decide +kernel
theorem dX7_ready_19 : decode cX7_ready 19 = .ok (.getfield 104, 3) := by decide +kernel
theorem dX7_ready_22 : decode cX7_ready 22 = .ok (.iconst 1, 1) := by decide +kernel
theorem dX7_ready_23 : decode cX7_ready 23 = .ok (.iadd, 1) := by decide +kernel
theorem dX7_ready_24 : decode cX7_ready 24 = .ok (.putfield 104, 3) := by decide +kernel
theorem dX7_ready_27 : decode cX7_ready 27 = .ok (.return_, 1) := by decide +kernel
theorem dX7_wake_0 : decode cX7_wake 0 = .ok (.aload_n 0, 1) := by decide +kernel
theorem dX7_wake_1 : decode cX7_wake 1 = .ok (.getfield 98, 3) := by decide +kernel
theorem dX7_wake_4 : decode cX7_wake 4 = .ok (.iconst 1, 1) := by decide +kernel
theorem dX7_wake_5 : decode cX7_wake 5 = .ok (.if_icmp .ne 21, 3) := by decide +kernel
theorem dX7_wake_8 : decode cX7_wake 8 = .ok (.aload_n 0, 1) := by decide +kernel
theorem dX7_wake_9 : decode cX7_wake 9 = .ok (.getfield 61, 3) := by decide +kernel
theorem dX7_wake_12 : decode cX7_wake 12 = .ok (.iload_n 1, 1) := by decide +kernel
theorem dX7_wake_13 : decode cX7_wake 13 = .ok (.iconst 0, 1) := by decide +kernel
theorem dX7_wake_14 : decode cX7_wake 14 = .ok (.aload_n 0, 1) := by decide +kernel
theorem dX7_wake_15 : decode cX7_wake 15 = .ok (.getfield 61, 3) := by decide +kernel
theorem dX7_wake_18 : decode cX7_wake 18 = .ok (.iload_n 1, 1) := by decide +kernel
theorem dX7_wake_19 : decode cX7_wake 19 = .ok (.iaload, 1) := by decide +kernel
theorem dX7_wake_20 : decode cX7_wake 20 = .ok (.iconst 1, 1) := by decide +kernel
theorem dX7_wake_21 : decode cX7_wake 21 = .ok (.isub, 1) := by decide +kernel
theorem dX7_wake_22 : decode cX7_wake 22 = .ok (.invokestatic 140, 3) := by decide +kernel
theorem dX7_wake_25 : decode cX7_wake 25 = .ok (.iastore, 1) := by decide +kernel
theorem dX7_wake_26 : decode cX7_wake 26 = .ok (.aload_n 0, 1) := by decide +kernel
theorem dX7_wake_27 : decode cX7_wake 27 = .ok (.getfield 98, 3) := by decide +kernel
theorem dX7_wake_30 : decode cX7_wake 30 = .ok (.iconst 2, 1) := by decide +kernel
theorem dX7_wake_31 : decode cX7_wake 31 = .ok (.if_icmp .ne 23, 3) := by decide +kernel
theorem dX7_wake_34 : decode cX7_wake 34 = .ok (.aload_n 0, 1) := by decide +kernel
theorem dX7_wake_35 : decode cX7_wake 35 = .ok (.getfield 64, 3) := by decide +kernel
theorem dX7_wake_38 : decode cX7_wake 38 = .ok (.iload_n 1, 1) := by decide +kernel
theorem dX7_wake_39 : decode cX7_wake 39 = .ok (.aload_n 0, 1) := by decide +kernel
theorem dX7_wake_40 : decode cX7_wake 40 = .ok (.getfield 64, 3) := by decide +kernel
theorem dX7_wake_43 : decode cX7_wake 43 = .ok (.iload_n 1, 1) := by decide +kernel
theorem dX7_wake_44 : decode cX7_wake 44 = .ok (.iaload, 1) := by decide +kernel
theorem dX7_wake_45 : decode cX7_wake 45 = .ok (.aload_n 0, 1) := by decide +kernel
theorem dX7_wake_46 : decode cX7_wake 46 = .ok (.iload_n 1, 1) := by decide +kernel
theorem dX7_wake_47 : decode cX7_wake 47 = .ok (.invokevirtual 143, 3) := by decide +kernel
theorem dX7_wake_50 : decode cX7_wake 50 = .ok (.invokestatic 140, 3) := by decide +kernel
theorem dX7_wake_53 : decode cX7_wake 53 = .ok (.iastore, 1) := by decide +kernel
theorem dX7_wake_54 : decode cX7_wake 54 = .ok (.aload_n 0, 1) := by decide +kernel
theorem dX7_wake_55 : decode cX7_wake 55 = .ok (.iload_n 1, 1) := by decide +kernel
theorem dX7_wake_56 : decode cX7_wake 56 = .ok (.invokevirtual 146, 3) := by decide +kernel
theorem dX7_wake_59 : decode cX7_wake 59 = .ok (.return_, 1) := by decide +kernel
theorem dX7_leave_0 : decode cX7_leave 0 = .ok (.iconst 0, 1) := by decide +kernel
theorem dX7_leave_1 : decode cX7_leave 1 = .ok (.istore_n 2, 1) := by decide +kernel
theorem dX7_leave_2 : decode cX7_leave 2 = .ok (.iload_n 2, 1) := by decide +kernel
theorem dX7_leave_3 : decode cX7_leave 3 = .ok (.aload_n 0, 1) := by decide +kernel
theorem dX7_leave_4 : decode cX7_leave 4 = .ok (.getfield 16, 3) := by decide +kernel
theorem dX7_leave_7 : decode cX7_leave 7 = .ok (.if_icmp .ge 26, 3) := by decide +kernel
theorem dX7_leave_10 : decode cX7_leave 10 = .ok (.aload_n 0, 1) := by decide +kernel
theorem dX7_leave_11 : decode cX7_leave 11 = .ok (.getfield 79, 3) := by decide +kernel
theorem dX7_leave_14 : decode cX7_leave 14 = .ok (.iload_n 2, 1) := by decide +kernel
theorem dX7_leave_15 : decode cX7_leave 15 = .ok (.iaload, 1) := by decide +kernel
theorem dX7_leave_16 : decode cX7_leave 16 = .ok (.iload_n 1, 1) := by decide +kernel
theorem dX7_leave_17 : decode cX7_leave 17 = .ok (.if_icmp .ne 10, 3) := by decide +kernel
theorem dX7_leave_20 : decode cX7_leave 20 = .ok (.aload_n 0, 1) := by decide +kernel
theorem dX7_leave_21 : decode cX7_leave 21 = .ok (.getfield 79, 3) := by decide +kernel
theorem dX7_leave_24 : decode cX7_leave 24 = .ok (.iload_n 2, 1) := by decide +kernel
theorem dX7_leave_25 : decode cX7_leave 25 = .ok (.iconst (-1), 1) := by decide +kernel
theorem dX7_leave_26 : decode cX7_leave 26 = .ok (.iastore, 1) := by decide +kernel
theorem dX7_leave_27 : decode cX7_leave 27 = .ok (.iinc 2 1, 3) := by decide +kernel
theorem dX7_leave_30 : decode cX7_leave 30 = .ok (.goto (-28), 3) := by decide +kernel
theorem dX7_leave_33 : decode cX7_leave 33 = .ok (.return_, 1) := by decide +kernel
theorem dX7_next_0 : decode cX7_next 0 = .ok (.iconst (-1), 1) := by decide +kernel
theorem dX7_next_1 : decode cX7_next 1 = .ok (.istore_n 3, 1) := by decide +kernel
theorem dX7_next_2 : decode cX7_next 2 = .ok (.iconst 0, 1) := by decide +kernel
theorem dX7_next_3 : decode cX7_next 3 = .ok (.istore 4, 2) := by decide +kernel
theorem dX7_next_5 : decode cX7_next 5 = .ok (.iload 4, 2) := by decide +kernel
theorem dX7_next_7 : decode cX7_next 7 = .ok (.aload_n 0, 1) := by decide +kernel
theorem dX7_next_8 : decode cX7_next 8 = .ok (.getfield 110, 3) := by decide +kernel
theorem dX7_next_11 : decode cX7_next 11 = .ok (.if_icmp .ge 96, 3) := by decide +kernel
theorem dX7_next_14 : decode cX7_next 14 = .ok (.aload_n 0, 1) := by decide +kernel
theorem dX7_next_15 : decode cX7_next 15 = .ok (.getfield 46, 3) := by decide +kernel
theorem dX7_next_18 : decode cX7_next 18 = .ok (.iload 4, 2) := by decide +kernel
theorem dX7_next_20 : decode cX7_next 20 = .ok (.iaload, 1) := by decide +kernel
theorem dX7_next_21 : decode cX7_next 21 = .ok (.iload_n 1, 1) := by decide +kernel
theorem dX7_next_22 : decode cX7_next 22 = .ok (.if_icmp .ne 79, 3) := by decide +kernel
theorem dX7_next_25 : decode cX7_next 25 = .ok (.aload_n 0, 1) := by decide +kernel
theorem dX7_next_26 : decode cX7_next 26 = .ok (.getfield 70, 3) := by decide +kernel
theorem dX7_next_29 : decode cX7_next 29 = .ok (.iload 4, 2) := by decide +kernel
theorem dX7_next_31 : decode cX7_next 31 = .ok (.iaload, 1) := by decide +kernel
theorem dX7_next_32 : decode cX7_next 32 = .ok (.iload_n 2, 1) := by decide +kernel
theorem dX7_next_33 : decode cX7_next 33 = .ok (.if_icmp .eq 6, 3) := by decide +kernel
theorem dX7_next_36 : decode cX7_next 36 = .ok (.goto 65, 3) := by decide +kernel
theorem dX7_next_39 : decode cX7_next 39 = .ok (.iload_n 3, 1) := by decide +kernel
theorem dX7_next_40 : decode cX7_next 40 = .ok (.iconst (-1), 1) := by decide +kernel
theorem dX7_next_41 : decode cX7_next 41 = .ok (.if_icmp .eq 57, 3) := by decide +kernel
theorem dX7_next_44 : decode cX7_next 44 = .ok (.iload_n 1, 1) := by decide +kernel
theorem dX7_next_45 : decode cX7_next 45 = .ok (.iconst 4, 1) := by decide +kernel
theorem dX7_next_46 : decode cX7_next 46 = .ok (.if_icmp .ne 17, 3) := by decide +kernel
theorem dX7_next_49 : decode cX7_next 49 = .ok (.aload_n 0, 1) := by decide +kernel
theorem dX7_next_50 : decode cX7_next 50 = .ok (.iload 4, 2) := by decide +kernel
theorem dX7_next_52 : decode cX7_next 52 = .ok (.invokevirtual 150, 3) := by decide +kernel
theorem dX7_next_55 : decode cX7_next 55 = .ok (.aload_n 0, 1) := by decide +kernel
theorem dX7_next_56 : decode cX7_next 56 = .ok (.iload_n 3, 1) := by decide +kernel
theorem dX7_next_57 : decode cX7_next 57 = .ok (.invokevirtual 150, 3) := by decide +kernel
theorem dX7_next_60 : decode cX7_next 60 = .ok (.if_icmp .lt 38, 3) := by decide +kernel
theorem dX7_next_63 : decode cX7_next 63 = .ok (.iload_n 1, 1) := by decide +kernel
theorem dX7_next_64 : decode cX7_next 64 = .ok (.iconst 5, 1) := by decide +kernel
theorem dX7_next_65 : decode cX7_next 65 = .ok (.if_icmp .eq 17, 3) := by decide +kernel
theorem dX7_next_68 : decode cX7_next 68 = .ok (.aload_n 0, 1) := by decide +kernel
theorem dX7_next_69 : decode cX7_next 69 = .ok (.iload 4, 2) := by decide +kernel
theorem dX7_next_71 : decode cX7_next 71 = .ok (.invokevirtual 150, 3) := by decide +kernel
theorem dX7_next_74 : decode cX7_next 74 = .ok (.aload_n 0, 1) := by decide +kernel
theorem dX7_next_75 : decode cX7_next 75 = .ok (.iload_n 3, 1) := by decide +kernel
theorem dX7_next_76 : decode cX7_next 76 = .ok (.invokevirtual 150, 3) := by decide +kernel
theorem dX7_next_79 : decode cX7_next 79 = .ok (.if_icmp .ne 22, 3) := by decide +kernel
theorem dX7_next_82 : decode cX7_next 82 = .ok (.aload_n 0, 1) := by decide +kernel
theorem dX7_next_83 : decode cX7_next 83 = .ok (.getfield 73, 3) := by decide +kernel
theorem dX7_next_86 : decode cX7_next 86 = .ok (.iload 4, 2) := by decide +kernel
theorem dX7_next_88 : decode cX7_next 88 = .ok (.iaload, 1) := by decide +kernel
theorem dX7_next_89 : decode cX7_next 89 = .ok (.aload_n 0, 1) := by decide +kernel
theorem dX7_next_90 : decode cX7_next 90 = .ok (.getfield 73, 3) := by decide +kernel
theorem dX7_next_93 : decode cX7_next 93 = .ok (.iload_n 3, 1) := by decide +kernel
theorem dX7_next_94 : decode cX7_next 94 = .ok (.iaload, 1) := by decide +kernel
theorem dX7_next_95 : decode cX7_next 95 = .ok (.if_icmp .ge 6, 3) := by decide +kernel
theorem dX7_next_98 : decode cX7_next 98 = .ok (.iload 4, 2) := by decide +kernel
theorem dX7_next_100 : decode cX7_next 100 = .ok (.istore_n 3, 1) := by decide +kernel
theorem dX7_next_101 : decode cX7_next 101 = .ok (.iinc 4 1, 3) := by decide +kernel
theorem dX7_next_104 : decode cX7_next 104 = .ok (.goto (-99), 3) := by decide +kernel
theorem dX7_next_107 : decode cX7_next 107 = .ok (.iload_n 3, 1) := by decide +kernel
theorem dX7_next_108 : decode cX7_next 108 = .ok (.ireturn, 1) := by decide +kernel
theorem dX7_free_0 : decode cX7_free 0 = .ok (.aload_n 0, 1) := by decide +kernel
theorem dX7_free_1 : decode cX7_free 1 = .ok (.getfield 88, 3) := by decide +kernel
theorem dX7_free_4 : decode cX7_free 4 = .ok (.iload_n 1, 1) := by decide +kernel
theorem dX7_free_5 : decode cX7_free 5 = .ok (.iconst (-1), 1) := by decide +kernel
theorem dX7_free_6 : decode cX7_free 6 = .ok (.iastore, 1) := by decide +kernel
theorem dX7_free_7 : decode cX7_free 7 = .ok (.aload_n 0, 1) := by decide +kernel
theorem dX7_free_8 : decode cX7_free 8 = .ok (.iconst 4, 1) := by decide +kernel
theorem dX7_free_9 : decode cX7_free 9 = .ok (.iload_n 1, 1) := by decide +kernel
theorem dX7_free_10 : decode cX7_free 10 = .ok (.invokevirtual 153, 3) := by decide +kernel
theorem dX7_free_13 : decode cX7_free 13 = .ok (.istore_n 2, 1) := by decide +kernel
theorem dX7_free_14 : decode cX7_free 14 = .ok (.iload_n 2, 1) := by decide +kernel
theorem dX7_free_15 : decode cX7_free 15 = .ok (.iconst (-1), 1) := by decide +kernel
theorem dX7_free_16 : decode cX7_free 16 = .ok (.if_icmp .ne 4, 3) := by decide +kernel
theorem dX7_free_19 : decode cX7_free 19 = .ok (.return_, 1) := by decide +kernel
theorem dX7_free_20 : decode cX7_free 20 = .ok (.aload_n 0, 1) := by decide +kernel
theorem dX7_free_21 : decode cX7_free 21 = .ok (.getfield 88, 3) := by decide +kernel
theorem dX7_free_24 : decode cX7_free 24 = .ok (.iload_n 1, 1) := by decide +kernel
theorem dX7_free_25 : decode cX7_free 25 = .ok (.iload_n 2, 1) := by decide +kernel
theorem dX7_free_26 : decode cX7_free 26 = .ok (.iastore, 1) := by decide +kernel
theorem dX7_free_27 : decode cX7_free 27 = .ok (.aload_n 0, 1) := by decide +kernel
theorem dX7_free_28 : decode cX7_free 28 = .ok (.getfield 49, 3) := by decide +kernel
theorem dX7_free_31 : decode cX7_free 31 = .ok (.iload_n 2, 1) := by decide +kernel
theorem dX7_free_32 : decode cX7_free 32 = .ok (.dup2, 1) := by decide +kernel
theorem dX7_free_33 : decode cX7_free 33 = .ok (.iaload, 1) := by decide +kernel
theorem dX7_free_34 : decode cX7_free 34 = .ok (.iconst 1, 1) := by decide +kernel
theorem dX7_free_35 : decode cX7_free 35 = .ok (.iadd, 1) := by decide +kernel
theorem dX7_free_36 : decode cX7_free 36 = .ok (.iastore, 1) := by decide +kernel
theorem dX7_free_37 : decode cX7_free 37 = .ok (.aload_n 0, 1) := by decide +kernel
theorem dX7_free_38 : decode cX7_free 38 = .ok (.iload_n 2, 1) := by decide +kernel
theorem dX7_free_39 : decode cX7_free 39 = .ok (.invokevirtual 156, 3) := by decide +kernel
theorem dX7_free_42 : decode cX7_free 42 = .ok (.return_, 1) := by decide +kernel
theorem dX7_signalNow_0 : decode cX7_signalNow 0 = .ok (.aload_n 0, 1) := by decide +kernel
theorem dX7_signalNow_1 : decode cX7_signalNow 1 = .ok (.iconst 5, 1) := by decide +kernel
theorem dX7_signalNow_2 : decode cX7_signalNow 2 = .ok (.iload_n 1, 1) := by decide +kernel
theorem dX7_signalNow_3 : decode cX7_signalNow 3 = .ok (.invokevirtual 153, 3) := by decide +kernel
theorem dX7_signalNow_6 : decode cX7_signalNow 6 = .ok (.istore_n 2, 1) := by decide +kernel
theorem dX7_signalNow_7 : decode cX7_signalNow 7 = .ok (.iload_n 2, 1) := by decide +kernel
theorem dX7_signalNow_8 : decode cX7_signalNow 8 = .ok (.iconst (-1), 1) := by decide +kernel
theorem dX7_signalNow_9 : decode cX7_signalNow 9 = .ok (.if_icmp .ne 23, 3) := by decide +kernel
theorem dX7_signalNow_12 : decode cX7_signalNow 12 = .ok (.aload_n 0, 1) := by decide +kernel
theorem dX7_signalNow_13 : decode cX7_signalNow 13 = .ok (.getfield 91, 3) := by decide +kernel
theorem dX7_signalNow_16 : decode cX7_signalNow 16 = .ok (.iload_n 1, 1) := by decide +kernel
theorem dX7_signalNow_17 : decode cX7_signalNow 17 = .ok (.bipush 99, 2) := by decide +kernel
theorem dX7_signalNow_19 : decode cX7_signalNow 19 = .ok (.aload_n 0, 1) := by decide +kernel
theorem dX7_signalNow_20 : decode cX7_signalNow 20 = .ok (.getfield 91, 3) := by decide +kernel
theorem dX7_signalNow_23 : decode cX7_signalNow 23 = .ok (.iload_n 1, 1) := by decide +kernel
theorem dX7_signalNow_24 : decode cX7_signalNow 24 = .ok (.iaload, 1) := by decide +kernel
theorem dX7_signalNow_25 : decode cX7_signalNow 25 = .ok (.iconst 1, 1) := by decide +kernel
theorem dX7_signalNow_26 : decode cX7_signalNow 26 = .ok (.iadd, 1) := by decide +kernel
theorem dX7_signalNow_27 : decode cX7_signalNow 27 = .ok (.invokestatic 134, 3) := by decide +kernel
theorem dX7_signalNow_30 : decode cX7_signalNow 30 = .ok (.iastore, 1) := by decide +kernel
theorem dX7_signalNow_31 : decode cX7_signalNow 31 = .ok (.return_, 1) := by decide +kernel
theorem dX7_signalNow_32 : decode cX7_signalNow 32 = .ok (.aload_n 0, 1) := by decide +kernel
theorem dX7_signalNow_33 : decode cX7_signalNow 33 = .ok (.getfield 49, 3) := by decide +kernel
theorem dX7_signalNow_36 : decode cX7_signalNow 36 = .ok (.iload_n 2, 1) := by decide +kernel
theorem dX7_signalNow_37 : decode cX7_signalNow 37 = .ok (.dup2, 1) := by decide +kernel
theorem dX7_signalNow_38 : decode cX7_signalNow 38 = .ok (.iaload, 1) := by decide +kernel
theorem dX7_signalNow_39 : decode cX7_signalNow 39 = .ok (.iconst 1, 1) := by decide +kernel
theorem dX7_signalNow_40 : decode cX7_signalNow 40 = .ok (.iadd, 1) := by decide +kernel
theorem dX7_signalNow_41 : decode cX7_signalNow 41 = .ok (.iastore, 1) := by decide +kernel
theorem dX7_signalNow_42 : decode cX7_signalNow 42 = .ok (.aload_n 0, 1) := by decide +kernel
theorem dX7_signalNow_43 : decode cX7_signalNow 43 = .ok (.iload_n 2, 1) := by decide +kernel
theorem dX7_signalNow_44 : decode cX7_signalNow 44 = .ok (.invokevirtual 156, 3) := by decide +kernel
theorem dX7_signalNow_47 : decode cX7_signalNow 47 = .ok (.return_, 1) := by decide +kernel
theorem dX7_finish_0 : decode cX7_finish 0 = .ok (.aload_n 0, 1) := by decide +kernel
theorem dX7_finish_1 : decode cX7_finish 1 = .ok (.iload_n 1, 1) := by decide +kernel
theorem dX7_finish_2 : decode cX7_finish 2 = .ok (.invokevirtual 159, 3) := by decide +kernel
theorem dX7_finish_5 : decode cX7_finish 5 = .ok (.aload_n 0, 1) := by decide +kernel
theorem dX7_finish_6 : decode cX7_finish 6 = .ok (.getfield 46, 3) := by decide +kernel
theorem dX7_finish_9 : decode cX7_finish 9 = .ok (.iload_n 1, 1) := by decide +kernel
theorem dX7_finish_10 : decode cX7_finish 10 = .ok (.bipush 6, 2) := by decide +kernel
theorem dX7_finish_12 : decode cX7_finish 12 = .ok (.iastore, 1) := by decide +kernel
theorem dX7_finish_13 : decode cX7_finish 13 = .ok (.aload_n 0, 1) := by decide +kernel
theorem dX7_finish_14 : decode cX7_finish 14 = .ok (.getfield 49, 3) := by decide +kernel
theorem dX7_finish_17 : decode cX7_finish 17 = .ok (.iload_n 1, 1) := by decide +kernel
theorem dX7_finish_18 : decode cX7_finish 18 = .ok (.aload_n 0, 1) := by decide +kernel
theorem dX7_finish_19 : decode cX7_finish 19 = .ok (.getfield 35, 3) := by decide +kernel
theorem dX7_finish_22 : decode cX7_finish 22 = .ok (.iload_n 1, 1) := by decide +kernel
theorem dX7_finish_23 : decode cX7_finish 23 = .ok (.iaload, 1) := by decide +kernel
theorem dX7_finish_24 : decode cX7_finish 24 = .ok (.iastore, 1) := by decide +kernel
theorem dX7_finish_25 : decode cX7_finish 25 = .ok (.aload_n 0, 1) := by decide +kernel
theorem dX7_finish_26 : decode cX7_finish 26 = .ok (.getfield 76, 3) := by decide +kernel
theorem dX7_finish_29 : decode cX7_finish 29 = .ok (.iload_n 1, 1) := by decide +kernel
theorem dX7_finish_30 : decode cX7_finish 30 = .ok (.aaload, 1) := by decide +kernel
theorem dX7_finish_31 : decode cX7_finish 31 = .ok (.iconst 4, 1) := by decide +kernel
theorem dX7_finish_32 : decode cX7_finish 32 = .ok (.aload_n 0, 1) := by decide +kernel
theorem dX7_finish_33 : decode cX7_finish 33 = .ok (.getfield 95, 3) := by decide +kernel
theorem dX7_finish_36 : decode cX7_finish 36 = .ok (.iastore, 1) := by decide +kernel
theorem dX7_finish_37 : decode cX7_finish 37 = .ok (.iconst 0, 1) := by decide +kernel
theorem dX7_finish_38 : decode cX7_finish 38 = .ok (.istore_n 2, 1) := by decide +kernel
theorem dX7_finish_39 : decode cX7_finish 39 = .ok (.iload_n 2, 1) := by decide +kernel
theorem dX7_finish_40 : decode cX7_finish 40 = .ok (.bipush 6, 2) := by decide +kernel
theorem dX7_finish_42 : decode cX7_finish 42 = .ok (.if_icmp .ge 24, 3) := by decide +kernel
theorem dX7_finish_45 : decode cX7_finish 45 = .ok (.aload_n 0, 1) := by decide +kernel
theorem dX7_finish_46 : decode cX7_finish 46 = .ok (.getfield 88, 3) := by decide +kernel
theorem dX7_finish_49 : decode cX7_finish 49 = .ok (.iload_n 2, 1) := by decide +kernel
theorem dX7_finish_50 : decode cX7_finish 50 = .ok (.iaload, 1) := by decide +kernel
theorem dX7_finish_51 : decode cX7_finish 51 = .ok (.iload_n 1, 1) := by decide +kernel
theorem dX7_finish_52 : decode cX7_finish 52 = .ok (.if_icmp .ne 8, 3) := by decide +kernel
theorem dX7_finish_55 : decode cX7_finish 55 = .ok (.aload_n 0, 1) := by decide +kernel
theorem dX7_finish_56 : decode cX7_finish 56 = .ok (.iload_n 2, 1) := by decide +kernel
theorem dX7_finish_57 : decode cX7_finish 57 = .ok (.invokevirtual 162, 3) := by decide +kernel
theorem dX7_finish_60 : decode cX7_finish 60 = .ok (.iinc 2 1, 3) := by decide +kernel
theorem dX7_finish_63 : decode cX7_finish 63 = .ok (.goto (-24), 3) := by decide +kernel
theorem dX7_finish_66 : decode cX7_finish 66 = .ok (.return_, 1) := by decide +kernel
theorem dX7_expire_0 : decode cX7_expire 0 = .ok (.iconst 0, 1) := by decide +kernel
theorem dX7_expire_1 : decode cX7_expire 1 = .ok (.istore_n 1, 1) := by decide +kernel
theorem dX7_expire_2 : decode cX7_expire 2 = .ok (.iload_n 1, 1) := by decide +kernel
theorem dX7_expire_3 : decode cX7_expire 3 = .ok (.aload_n 0, 1) := by decide +kernel
theorem dX7_expire_4 : decode cX7_expire 4 = .ok (.getfield 16, 3) := by decide +kernel
theorem dX7_expire_7 : decode cX7_expire 7 = .ok (.if_icmp .ge 104, 3) := by decide +kernel
theorem dX7_expire_10 : decode cX7_expire 10 = .ok (.aload_n 0, 1) := by decide +kernel
theorem dX7_expire_11 : decode cX7_expire 11 = .ok (.getfield 79, 3) := by decide +kernel
theorem dX7_expire_14 : decode cX7_expire 14 = .ok (.iload_n 1, 1) := by decide +kernel
theorem dX7_expire_15 : decode cX7_expire 15 = .ok (.iaload, 1) := by decide +kernel
theorem dX7_expire_16 : decode cX7_expire 16 = .ok (.istore_n 2, 1) := by decide +kernel
theorem dX7_expire_17 : decode cX7_expire 17 = .ok (.iload_n 2, 1) := by decide +kernel
theorem dX7_expire_18 : decode cX7_expire 18 = .ok (.iconst (-1), 1) := by decide +kernel
theorem dX7_expire_19 : decode cX7_expire 19 = .ok (.if_icmp .eq 86, 3) := by decide +kernel
theorem dX7_expire_22 : decode cX7_expire 22 = .ok (.aload_n 0, 1) := by decide +kernel
theorem dX7_expire_23 : decode cX7_expire 23 = .ok (.getfield 98, 3) := by decide +kernel
theorem dX7_expire_26 : decode cX7_expire 26 = .ok (.iconst 2, 1) := by decide +kernel
theorem dX7_expire_27 : decode cX7_expire 27 = .ok (.if_icmp .eq 78, 3) := by decide +kernel
theorem dX7_expire_30 : decode cX7_expire 30 = .ok (.aload_n 0, 1) := by decide +kernel
theorem dX7_expire_31 : decode cX7_expire 31 = .ok (.getfield 82, 3) := by decide +kernel
theorem dX7_expire_34 : decode cX7_expire 34 = .ok (.iload_n 1, 1) := by decide +kernel
theorem dX7_expire_35 : decode cX7_expire 35 = .ok (.iaload, 1) := by decide +kernel
theorem dX7_expire_36 : decode cX7_expire 36 = .ok (.aload_n 0, 1) := by decide +kernel
theorem dX7_expire_37 : decode cX7_expire 37 = .ok (.getfield 98, 3) := by decide +kernel
theorem dX7_expire_40 : decode cX7_expire 40 = .ok (.ifCond .ne 10, 3) := by decide +kernel
theorem dX7_expire_43 : decode cX7_expire 43 = .ok (.aload_n 0, 1) := by decide +kernel
theorem dX7_expire_44 : decode cX7_expire 44 = .ok (.getfield 7, 3) := by decide +kernel
theorem dX7_expire_47 : decode cX7_expire 47 = .ok (.goto 14, 3) := by decide +kernel
theorem dX7_expire_50 : decode cX7_expire 50 = .ok (.aload_n 0, 1) := by decide +kernel
theorem dX7_expire_51 : decode cX7_expire 51 = .ok (.getfield 7, 3) := by decide +kernel
theorem dX7_expire_54 : decode cX7_expire 54 = .ok (.aload_n 0, 1) := by decide +kernel
theorem dX7_expire_55 : decode cX7_expire 55 = .ok (.getfield 61, 3) := by decide +kernel
theorem dX7_expire_58 : decode cX7_expire 58 = .ok (.iload_n 2, 1) := by decide +kernel
theorem dX7_expire_59 : decode cX7_expire 59 = .ok (.iaload, 1) := by decide +kernel
theorem dX7_expire_60 : decode cX7_expire 60 = .ok (.ishl, 1) := by decide +kernel
theorem dX7_expire_61 : decode cX7_expire 61 = .ok (.if_icmp .ge 6, 3) := by decide +kernel
theorem dX7_expire_64 : decode cX7_expire 64 = .ok (.goto 41, 3) := by decide +kernel
theorem dX7_expire_67 : decode cX7_expire 67 = .ok (.aload_n 0, 1) := by decide +kernel
theorem dX7_expire_68 : decode cX7_expire 68 = .ok (.getfield 98, 3) := by decide +kernel
theorem dX7_expire_71 : decode cX7_expire 71 = .ok (.iconst 1, 1) := by decide +kernel
theorem dX7_expire_72 : decode cX7_expire 72 = .ok (.if_icmp .ne 21, 3) := by decide +kernel
theorem dX7_expire_75 : decode cX7_expire 75 = .ok (.aload_n 0, 1) := by decide +kernel
theorem dX7_expire_76 : decode cX7_expire 76 = .ok (.getfield 61, 3) := by decide +kernel
theorem dX7_expire_79 : decode cX7_expire 79 = .ok (.iload_n 2, 1) := by decide +kernel
theorem dX7_expire_80 : decode cX7_expire 80 = .ok (.iconst 3, 1) := by decide +kernel
theorem dX7_expire_81 : decode cX7_expire 81 = .ok (.aload_n 0, 1) := by decide +kernel
theorem dX7_expire_82 : decode cX7_expire 82 = .ok (.getfield 61, 3) := by decide +kernel
theorem dX7_expire_85 : decode cX7_expire 85 = .ok (.iload_n 2, 1) := by decide +kernel
theorem dX7_expire_86 : decode cX7_expire 86 = .ok (.iaload, 1) := by decide +kernel
theorem dX7_expire_87 : decode cX7_expire 87 = .ok (.iconst 1, 1) := by decide +kernel
theorem dX7_expire_88 : decode cX7_expire 88 = .ok (.iadd, 1) := by decide +kernel
theorem dX7_expire_89 : decode cX7_expire 89 = .ok (.invokestatic 134, 3) := by decide +kernel
theorem dX7_expire_92 : decode cX7_expire 92 = .ok (.iastore, 1) := by decide +kernel
theorem dX7_expire_93 : decode cX7_expire 93 = .ok (.aload_n 0, 1) := by decide +kernel
theorem dX7_expire_94 : decode cX7_expire 94 = .ok (.getfield 79, 3) := by decide +kernel
theorem dX7_expire_97 : decode cX7_expire 97 = .ok (.iload_n 1, 1) := by decide +kernel
theorem dX7_expire_98 : decode cX7_expire 98 = .ok (.iconst (-1), 1) := by decide +kernel
theorem dX7_expire_99 : decode cX7_expire 99 = .ok (.iastore, 1) := by decide +kernel
theorem dX7_expire_100 : decode cX7_expire 100 = .ok (.aload_n 0, 1) := by decide +kernel
theorem dX7_expire_101 : decode cX7_expire 101 = .ok (.iload_n 2, 1) := by decide +kernel
theorem dX7_expire_102 : decode cX7_expire 102 = .ok (.invokevirtual 146, 3) := by decide +kernel
theorem dX7_expire_105 : decode cX7_expire 105 = .ok (.iinc 1 1, 3) := by decide +kernel
theorem dX7_expire_108 : decode cX7_expire 108 = .ok (.goto (-106), 3) := by decide +kernel
theorem dX7_expire_111 : decode cX7_expire 111 = .ok (.return_, 1) := by decide +kernel
theorem dX7_isAhead_0 : decode cX7_isAhead 0 = .ok (.iload_n 2, 1) := by decide +kernel
theorem dX7_isAhead_1 : decode cX7_isAhead 1 = .ok (.iload 4, 2) := by decide +kernel
theorem dX7_isAhead_3 : decode cX7_isAhead 3 = .ok (.if_icmp .eq 15, 3) := by decide +kernel
theorem dX7_isAhead_6 : decode cX7_isAhead 6 = .ok (.iload_n 2, 1) := by decide +kernel
theorem dX7_isAhead_7 : decode cX7_isAhead 7 = .ok (.iload 4, 2) := by decide +kernel
theorem dX7_isAhead_9 : decode cX7_isAhead 9 = .ok (.if_icmp .ge 7, 3) := by decide +kernel
theorem dX7_isAhead_12 : decode cX7_isAhead 12 = .ok (.iconst 1, 1) := by decide +kernel
theorem dX7_isAhead_13 : decode cX7_isAhead 13 = .ok (.goto 4, 3) := by decide +kernel
theorem dX7_isAhead_16 : decode cX7_isAhead 16 = .ok (.iconst 0, 1) := by decide +kernel
theorem dX7_isAhead_17 : decode cX7_isAhead 17 = .ok (.ireturn, 1) := by decide +kernel
theorem dX7_isAhead_18 : decode cX7_isAhead 18 = .ok (.aload_n 0, 1) := by decide +kernel
theorem dX7_isAhead_19 : decode cX7_isAhead 19 = .ok (.getfield 46, 3) := by decide +kernel
theorem dX7_isAhead_22 : decode cX7_isAhead 22 = .ok (.iload_n 1, 1) := by decide +kernel
theorem dX7_isAhead_23 : decode cX7_isAhead 23 = .ok (.iaload, 1) := by decide +kernel
theorem dX7_isAhead_24 : decode cX7_isAhead 24 = .ok (.iconst 2, 1) := by decide +kernel
theorem dX7_isAhead_25 : decode cX7_isAhead 25 = .ok (.if_icmp .ne 7, 3) := by decide +kernel
theorem dX7_isAhead_28 : decode cX7_isAhead 28 = .ok (.iconst 1, 1) := by decide +kernel
theorem dX7_isAhead_29 : decode cX7_isAhead 29 = .ok (.goto 4, 3) := by decide +kernel
theorem dX7_isAhead_32 : decode cX7_isAhead 32 = .ok (.iconst 0, 1) := by decide +kernel
theorem dX7_isAhead_33 : decode cX7_isAhead 33 = .ok (.aload_n 0, 1) := by decide +kernel
theorem dX7_isAhead_34 : decode cX7_isAhead 34 = .ok (.getfield 46, 3) := by decide +kernel
theorem dX7_isAhead_37 : decode cX7_isAhead 37 = .ok (.iload_n 3, 1) := by decide +kernel
theorem dX7_isAhead_38 : decode cX7_isAhead 38 = .ok (.iaload, 1) := by decide +kernel
theorem dX7_isAhead_39 : decode cX7_isAhead 39 = .ok (.iconst 2, 1) := by decide +kernel
theorem dX7_isAhead_40 : decode cX7_isAhead 40 = .ok (.if_icmp .ne 7, 3) := by decide +kernel
theorem dX7_isAhead_43 : decode cX7_isAhead 43 = .ok (.iconst 1, 1) := by decide +kernel
theorem dX7_isAhead_44 : decode cX7_isAhead 44 = .ok (.goto 4, 3) := by decide +kernel
theorem dX7_isAhead_47 : decode cX7_isAhead 47 = .ok (.iconst 0, 1) := by decide +kernel
theorem dX7_isAhead_48 : decode cX7_isAhead 48 = .ok (.if_icmp .eq 19, 3) := by decide +kernel
theorem dX7_isAhead_51 : decode cX7_isAhead 51 = .ok (.aload_n 0, 1) := by decide +kernel
theorem dX7_isAhead_52 : decode cX7_isAhead 52 = .ok (.getfield 46, 3) := by decide +kernel
theorem dX7_isAhead_55 : decode cX7_isAhead 55 = .ok (.iload_n 1, 1) := by decide +kernel
theorem dX7_isAhead_56 : decode cX7_isAhead 56 = .ok (.iaload, 1) := by decide +kernel
theorem dX7_isAhead_57 : decode cX7_isAhead 57 = .ok (.iconst 2, 1) := by decide +kernel
theorem dX7_isAhead_58 : decode cX7_isAhead 58 = .ok (.if_icmp .ne 7, 3) := by decide +kernel
theorem dX7_isAhead_61 : decode cX7_isAhead 61 = .ok (.iconst 1, 1) := by decide +kernel
theorem dX7_isAhead_62 : decode cX7_isAhead 62 = .ok (.goto 4, 3) := by decide +kernel
theorem dX7_isAhead_65 : decode cX7_isAhead 65 = .ok (.iconst 0, 1) := by decide +kernel
theorem dX7_isAhead_66 : decode cX7_isAhead 66 = .ok (.ireturn, 1) := by decide +kernel
theorem dX7_isAhead_67 : decode cX7_isAhead 67 = .ok (.aload_n 0, 1) := by decide +kernel
theorem dX7_isAhead_68 : decode cX7_isAhead 68 = .ok (.getfield 58, 3) := by decide +kernel
theorem dX7_isAhead_71 : decode cX7_isAhead 71 = .ok (.iload_n 1, 1) := by decide +kernel
theorem dX7_isAhead_72 : decode cX7_isAhead 72 = .ok (.iaload, 1) := by decide +kernel
theorem dX7_isAhead_73 : decode cX7_isAhead 73 = .ok (.aload_n 0, 1) := by decide +kernel
theorem dX7_isAhead_74 : decode cX7_isAhead 74 = .ok (.getfield 58, 3) := by decide +kernel
theorem dX7_isAhead_77 : decode cX7_isAhead 77 = .ok (.iload_n 3, 1) := by decide +kernel
theorem dX7_isAhead_78 : decode cX7_isAhead 78 = .ok (.iaload, 1) := by decide +kernel
theorem dX7_isAhead_79 : decode cX7_isAhead 79 = .ok (.if_icmp .ge 7, 3) := by decide +kernel
theorem dX7_isAhead_82 : decode cX7_isAhead 82 = .ok (.iconst 1, 1) := by decide +kernel
theorem dX7_isAhead_83 : decode cX7_isAhead 83 = .ok (.goto 4, 3) := by decide +kernel
theorem dX7_isAhead_86 : decode cX7_isAhead 86 = .ok (.iconst 0, 1) := by decide +kernel
theorem dX7_isAhead_87 : decode cX7_isAhead 87 = .ok (.ireturn, 1) := by decide +kernel
theorem dX7_take_0 : decode cX7_take 0 = .ok (.bipush 16, 2) := by decide +kernel
theorem dX7_take_2 : decode cX7_take 2 = .ok (.newarray .int, 2) := by decide +kernel
theorem dX7_take_4 : decode cX7_take 4 = .ok (.astore_n 1, 1) := by decide +kernel
theorem dX7_take_5 : decode cX7_take 5 = .ok (.aload_n 0, 1) := by decide +kernel
theorem dX7_take_6 : decode cX7_take 6 = .ok (.getfield 23, 3) := by decide +kernel
theorem dX7_take_9 : decode cX7_take 9 = .ok (.invokevirtual 165, 3) := by decide +kernel
theorem dX7_take_12 : decode cX7_take 12 = .ok (.checkcast 113, 3) := by decide +kernel
theorem dX7_take_15 : decode cX7_take 15 = .ok (.astore_n 2, 1) := by decide +kernel
theorem dX7_take_16 : decode cX7_take 16 = .ok (.iconst 3, 1) := by decide +kernel
theorem dX7_take_17 : decode cX7_take 17 = .ok (.newarray .int, 2) := by decide +kernel
theorem dX7_take_19 : decode cX7_take 19 = .ok (.astore_n 3, 1) := by decide +kernel
theorem dX7_take_20 : decode cX7_take 20 = .ok (.iconst 0, 1) := by decide +kernel
theorem dX7_take_21 : decode cX7_take 21 = .ok (.istore 4, 2) := by decide +kernel
theorem dX7_take_23 : decode cX7_take 23 = .ok (.iconst 0, 1) := by decide +kernel
theorem dX7_take_24 : decode cX7_take 24 = .ok (.istore 5, 2) := by decide +kernel
theorem dX7_take_26 : decode cX7_take 26 = .ok (.iconst 0, 1) := by decide +kernel
theorem dX7_take_27 : decode cX7_take 27 = .ok (.istore 6, 2) := by decide +kernel
theorem dX7_take_29 : decode cX7_take 29 = .ok (.iload 6, 2) := by decide +kernel
theorem dX7_take_31 : decode cX7_take 31 = .ok (.aload_n 0, 1) := by decide +kernel
theorem dX7_take_32 : decode cX7_take 32 = .ok (.getfield 110, 3) := by decide +kernel
theorem dX7_take_35 : decode cX7_take 35 = .ok (.if_icmp .ge 54, 3) := by decide +kernel
theorem dX7_take_38 : decode cX7_take 38 = .ok (.aload_n 1, 1) := by decide +kernel
theorem dX7_take_39 : decode cX7_take 39 = .ok (.iload 6, 2) := by decide +kernel
theorem dX7_take_41 : decode cX7_take 41 = .ok (.aload_n 0, 1) := by decide +kernel
theorem dX7_take_42 : decode cX7_take 42 = .ok (.iload 6, 2) := by decide +kernel
theorem dX7_take_44 : decode cX7_take 44 = .ok (.invokevirtual 150, 3) := by decide +kernel
theorem dX7_take_47 : decode cX7_take 47 = .ok (.iastore, 1) := by decide +kernel
theorem dX7_take_48 : decode cX7_take 48 = .ok (.iload 5, 2) := by decide +kernel
theorem dX7_take_50 : decode cX7_take 50 = .ok (.aload_n 0, 1) := by decide +kernel
theorem dX7_take_51 : decode cX7_take 51 = .ok (.getfield 46, 3) := by decide +kernel
theorem dX7_take_54 : decode cX7_take 54 = .ok (.iload 6, 2) := by decide +kernel
theorem dX7_take_56 : decode cX7_take 56 = .ok (.iaload, 1) := by decide +kernel
theorem dX7_take_57 : decode cX7_take 57 = .ok (.iconst 1, 1) := by decide +kernel
theorem dX7_take_58 : decode cX7_take 58 = .ok (.if_icmp .eq 14, 3) := by decide +kernel
theorem dX7_take_61 : decode cX7_take 61 = .ok (.aload_n 0, 1) := by decide +kernel
theorem dX7_take_62 : decode cX7_take 62 = .ok (.getfield 46, 3) := by decide +kernel
theorem dX7_take_65 : decode cX7_take 65 = .ok (.iload 6, 2) := by decide +kernel
theorem dX7_take_67 : decode cX7_take 67 = .ok (.iaload, 1) := by decide +kernel
theorem dX7_take_68 : decode cX7_take 68 = .ok (.iconst 2, 1) := by decide +kernel
theorem dX7_take_69 : decode cX7_take 69 = .ok (.if_icmp .ne 10, 3) := by decide +kernel
theorem dX7_take_72 : decode cX7_take 72 = .ok (.iconst 1, 1) := by decide +kernel
theorem dX7_take_73 : decode cX7_take 73 = .ok (.iload 6, 2) := by decide +kernel
theorem dX7_take_75 : decode cX7_take 75 = .ok (.ishl, 1) := by decide +kernel
theorem dX7_take_76 : decode cX7_take 76 = .ok (.goto 4, 3) := by decide +kernel
theorem dX7_take_79 : decode cX7_take 79 = .ok (.iconst 0, 1) := by decide +kernel
theorem dX7_take_80 : decode cX7_take 80 = .ok (.ior, 1) := by decide +kernel
theorem dX7_take_81 : decode cX7_take 81 = .ok (.istore 5, 2) := by decide +kernel
theorem dX7_take_83 : decode cX7_take 83 = .ok (.iinc 6 1, 3) := by decide +kernel
theorem dX7_take_86 : decode cX7_take 86 = .ok (.goto (-57), 3) := by decide +kernel
theorem dX7_take_89 : decode cX7_take 89 = .ok (.iload 5, 2) := by decide +kernel
theorem dX7_take_91 : decode cX7_take 91 = .ok (.ifCond .eq 150, 3) := by decide +kernel
theorem dX7_take_94 : decode cX7_take 94 = .ok (.iload 4, 2) := by decide +kernel
theorem dX7_take_96 : decode cX7_take 96 = .ok (.aload_n 0, 1) := by decide +kernel
theorem dX7_take_97 : decode cX7_take 97 = .ok (.getfield 16, 3) := by decide +kernel
theorem dX7_take_100 : decode cX7_take 100 = .ok (.if_icmp .ge 141, 3) := by decide +kernel
theorem dX7_take_103 : decode cX7_take 103 = .ok (.iconst (-1), 1) := by decide +kernel
theorem dX7_take_104 : decode cX7_take 104 = .ok (.istore 6, 2) := by decide +kernel
theorem dX7_take_106 : decode cX7_take 106 = .ok (.iconst 0, 1) := by decide +kernel
theorem dX7_take_107 : decode cX7_take 107 = .ok (.istore 7, 2) := by decide +kernel
theorem dX7_take_109 : decode cX7_take 109 = .ok (.iload 7, 2) := by decide +kernel
theorem dX7_take_111 : decode cX7_take 111 = .ok (.aload_n 0, 1) := by decide +kernel
theorem dX7_take_112 : decode cX7_take 112 = .ok (.getfield 110, 3) := by decide +kernel
theorem dX7_take_115 : decode cX7_take 115 = .ok (.if_icmp .ge 48, 3) := by decide +kernel
theorem dX7_take_118 : decode cX7_take 118 = .ok (.iload 5, 2) := by decide +kernel
theorem dX7_take_120 : decode cX7_take 120 = .ok (.iload 7, 2) := by decide +kernel
theorem dX7_take_122 : decode cX7_take 122 = .ok (.ishr, 1) := by decide +kernel
theorem dX7_take_123 : decode cX7_take 123 = .ok (.iconst 1, 1) := by decide +kernel
theorem dX7_take_124 : decode cX7_take 124 = .ok (.iand, 1) := by decide +kernel
theorem dX7_take_125 : decode cX7_take 125 = .ok (.ifCond .eq 32, 3) := by decide +kernel
theorem dX7_take_128 : decode cX7_take 128 = .ok (.iload 6, 2) := by decide +kernel
theorem dX7_take_130 : decode cX7_take 130 = .ok (.iconst (-1), 1) := by decide +kernel
theorem dX7_take_131 : decode cX7_take 131 = .ok (.if_icmp .eq 22, 3) := by decide +kernel
theorem dX7_take_134 : decode cX7_take 134 = .ok (.aload_n 0, 1) := by decide +kernel
theorem dX7_take_135 : decode cX7_take 135 = .ok (.iload 7, 2) := by decide +kernel
theorem dX7_take_137 : decode cX7_take 137 = .ok (.aload_n 1, 1) := by decide +kernel
theorem dX7_take_138 : decode cX7_take 138 = .ok (.iload 7, 2) := by decide +kernel
theorem dX7_take_140 : decode cX7_take 140 = .ok (.iaload, 1) := by decide +kernel
theorem dX7_take_141 : decode cX7_take 141 = .ok (.iload 6, 2) := by decide +kernel
theorem dX7_take_143 : decode cX7_take 143 = .ok (.aload_n 1, 1) := by decide +kernel
theorem dX7_take_144 : decode cX7_take 144 = .ok (.iload 6, 2) := by decide +kernel
theorem dX7_take_146 : decode cX7_take 146 = .ok (.iaload, 1) := by decide +kernel
theorem dX7_take_147 : decode cX7_take 147 = .ok (.invokevirtual 169, 3) := by decide +kernel
theorem dX7_take_150 : decode cX7_take 150 = .ok (.ifCond .eq 7, 3) := by decide +kernel
theorem dX7_take_153 : decode cX7_take 153 = .ok (.iload 7, 2) := by decide +kernel
theorem dX7_take_155 : decode cX7_take 155 = .ok (.istore 6, 2) := by decide +kernel
theorem dX7_take_157 : decode cX7_take 157 = .ok (.iinc 7 1, 3) := by decide +kernel
theorem dX7_take_160 : decode cX7_take 160 = .ok (.goto (-51), 3) := by decide +kernel
theorem dX7_take_163 : decode cX7_take 163 = .ok (.iload 5, 2) := by decide +kernel
theorem dX7_take_165 : decode cX7_take 165 = .ok (.iconst 1, 1) := by decide +kernel
theorem dX7_take_166 : decode cX7_take 166 = .ok (.iload 6, 2) := by decide +kernel
theorem dX7_take_168 : decode cX7_take 168 = .ok (.ishl, 1) := by decide +kernel
theorem dX7_take_169 : decode cX7_take 169 = .ok (.iconst (-1), 1) := by decide +kernel
theorem dX7_take_170 : decode cX7_take 170 = .ok (.ixor, 1) := by decide +kernel
theorem dX7_take_171 : decode cX7_take 171 = .ok (.iand, 1) := by decide +kernel
theorem dX7_take_172 : decode cX7_take 172 = .ok (.istore 5, 2) := by decide +kernel
theorem dX7_take_174 : decode cX7_take 174 = .ok (.aload_n 0, 1) := by decide +kernel
theorem dX7_take_175 : decode cX7_take 175 = .ok (.getfield 19, 3) := by decide +kernel
theorem dX7_take_178 : decode cX7_take 178 = .ok (.aload_n 0, 1) := by decide +kernel
theorem dX7_take_179 : decode cX7_take 179 = .ok (.getfield 29, 3) := by decide +kernel
theorem dX7_take_182 : decode cX7_take 182 = .ok (.iload 6, 2) := by decide +kernel
theorem dX7_take_184 : decode cX7_take 184 = .ok (.iaload, 1) := by decide +kernel
theorem dX7_take_185 : decode cX7_take 185 = .ok (.iaload, 1) := by decide +kernel
theorem dX7_take_186 : decode cX7_take 186 = .ok (.ifCond .le 30, 3) := by decide +kernel
theorem dX7_take_189 : decode cX7_take 189 = .ok (.aload_n 2, 1) := by decide +kernel
theorem dX7_take_190 : decode cX7_take 190 = .ok (.aload_n 0, 1) := by decide +kernel
theorem dX7_take_191 : decode cX7_take 191 = .ok (.getfield 29, 3) := by decide +kernel
theorem dX7_take_194 : decode cX7_take 194 = .ok (.iload 6, 2) := by decide +kernel
theorem dX7_take_196 : decode cX7_take 196 = .ok (.iaload, 1) := by decide +kernel
theorem dX7_take_197 : decode cX7_take 197 = .ok (.iaload, 1) := by decide +kernel
theorem dX7_take_198 : decode cX7_take 198 = .ok (.aload_n 0, 1) := by decide +kernel
theorem dX7_take_199 : decode cX7_take 199 = .ok (.getfield 19, 3) := by decide +kernel
theorem dX7_take_202 : decode cX7_take 202 = .ok (.aload_n 0, 1) := by decide +kernel
theorem dX7_take_203 : decode cX7_take 203 = .ok (.getfield 29, 3) := by decide +kernel
theorem dX7_take_206 : decode cX7_take 206 = .ok (.iload 6, 2) := by decide +kernel
theorem dX7_take_208 : decode cX7_take 208 = .ok (.iaload, 1) := by decide +kernel
theorem dX7_take_209 : decode cX7_take 209 = .ok (.iaload, 1) := by decide +kernel
theorem dX7_take_210 : decode cX7_take 210 = .ok (.if_icmp .lt 6, 3) := by decide +kernel
theorem dX7_take_213 : decode cX7_take 213 = .ok (.goto (-124), 3) := by decide +kernel
theorem dX7_take_216 : decode cX7_take 216 = .ok (.aload_n 2, 1) := by decide +kernel
theorem dX7_take_217 : decode cX7_take 217 = .ok (.aload_n 0, 1) := by decide +kernel
theorem dX7_take_218 : decode cX7_take 218 = .ok (.getfield 29, 3) := by decide +kernel
theorem dX7_take_221 : decode cX7_take 221 = .ok (.iload 6, 2) := by decide +kernel
theorem dX7_take_223 : decode cX7_take 223 = .ok (.iaload, 1) := by decide +kernel
theorem dX7_take_224 : decode cX7_take 224 = .ok (.dup2, 1) := by decide +kernel
theorem dX7_take_225 : decode cX7_take 225 = .ok (.iaload, 1) := by decide +kernel
theorem dX7_take_226 : decode cX7_take 226 = .ok (.iconst 1, 1) := by decide +kernel
theorem dX7_take_227 : decode cX7_take 227 = .ok (.iadd, 1) := by decide +kernel
theorem dX7_take_228 : decode cX7_take 228 = .ok (.iastore, 1) := by decide +kernel
theorem dX7_take_229 : decode cX7_take 229 = .ok (.aload_n 3, 1) := by decide +kernel
theorem dX7_take_230 : decode cX7_take 230 = .ok (.iload 4, 2) := by decide +kernel
theorem dX7_take_232 : decode cX7_take 232 = .ok (.iload 6, 2) := by decide +kernel
theorem dX7_take_234 : decode cX7_take 234 = .ok (.iastore, 1) := by decide +kernel
theorem dX7_take_235 : decode cX7_take 235 = .ok (.iinc 4 1, 3) := by decide +kernel
theorem dX7_take_238 : decode cX7_take 238 = .ok (.goto (-149), 3) := by decide +kernel
theorem dX7_take_241 : decode cX7_take 241 = .ok (.iconst 0, 1) := by decide +kernel
theorem dX7_take_242 : decode cX7_take 242 = .ok (.istore 6, 2) := by decide +kernel
theorem dX7_take_244 : decode cX7_take 244 = .ok (.iload 6, 2) := by decide +kernel
theorem dX7_take_246 : decode cX7_take 246 = .ok (.aload_n 0, 1) := by decide +kernel
theorem dX7_take_247 : decode cX7_take 247 = .ok (.getfield 16, 3) := by decide +kernel
theorem dX7_take_250 : decode cX7_take 250 = .ok (.if_icmp .ge 60, 3) := by decide +kernel
theorem dX7_take_253 : decode cX7_take 253 = .ok (.aload_n 0, 1) := by decide +kernel
theorem dX7_take_254 : decode cX7_take 254 = .ok (.getfield 79, 3) := by decide +kernel
theorem dX7_take_257 : decode cX7_take 257 = .ok (.iload 6, 2) := by decide +kernel
theorem dX7_take_259 : decode cX7_take 259 = .ok (.iaload, 1) := by decide +kernel
theorem dX7_take_260 : decode cX7_take 260 = .ok (.iconst (-1), 1) := by decide +kernel
theorem dX7_take_261 : decode cX7_take 261 = .ok (.if_icmp .eq 43, 3) := by decide +kernel
theorem dX7_take_264 : decode cX7_take 264 = .ok (.aload_n 3, 1) := by decide +kernel
theorem dX7_take_265 : decode cX7_take 265 = .ok (.iload 4, 2) := by decide +kernel
theorem dX7_take_267 : decode cX7_take 267 = .ok (.aload_n 0, 1) := by decide +kernel
theorem dX7_take_268 : decode cX7_take 268 = .ok (.getfield 79, 3) := by decide +kernel
theorem dX7_take_271 : decode cX7_take 271 = .ok (.iload 6, 2) := by decide +kernel
theorem dX7_take_273 : decode cX7_take 273 = .ok (.iaload, 1) := by decide +kernel
theorem dX7_take_274 : decode cX7_take 274 = .ok (.invokestatic 173, 3) := by decide +kernel
theorem dX7_take_277 : decode cX7_take 277 = .ok (.ifCond .eq 6, 3) := by decide +kernel
theorem dX7_take_280 : decode cX7_take 280 = .ok (.goto 24, 3) := by decide +kernel
theorem dX7_take_283 : decode cX7_take 283 = .ok (.aload_n 0, 1) := by decide +kernel
theorem dX7_take_284 : decode cX7_take 284 = .ok (.getfield 46, 3) := by decide +kernel
theorem dX7_take_287 : decode cX7_take 287 = .ok (.aload_n 0, 1) := by decide +kernel
theorem dX7_take_288 : decode cX7_take 288 = .ok (.getfield 79, 3) := by decide +kernel
theorem dX7_take_291 : decode cX7_take 291 = .ok (.iload 6, 2) := by decide +kernel
theorem dX7_take_293 : decode cX7_take 293 = .ok (.iaload, 1) := by decide +kernel
theorem dX7_take_294 : decode cX7_take 294 = .ok (.iconst 1, 1) := by decide +kernel
theorem dX7_take_295 : decode cX7_take 295 = .ok (.iastore, 1) := by decide +kernel
theorem dX7_take_296 : decode cX7_take 296 = .ok (.aload_n 0, 1) := by decide +kernel
theorem dX7_take_297 : decode cX7_take 297 = .ok (.getfield 79, 3) := by decide +kernel
theorem dX7_take_300 : decode cX7_take 300 = .ok (.iload 6, 2) := by decide +kernel
theorem dX7_take_302 : decode cX7_take 302 = .ok (.iconst (-1), 1) := by decide +kernel
theorem dX7_take_303 : decode cX7_take 303 = .ok (.iastore, 1) := by decide +kernel
theorem dX7_take_304 : decode cX7_take 304 = .ok (.iinc 6 1, 3) := by decide +kernel
theorem dX7_take_307 : decode cX7_take 307 = .ok (.goto (-63), 3) := by decide +kernel
theorem dX7_take_310 : decode cX7_take 310 = .ok (.iconst 0, 1) := by decide +kernel
theorem dX7_take_311 : decode cX7_take 311 = .ok (.istore 6, 2) := by decide +kernel
theorem dX7_take_313 : decode cX7_take 313 = .ok (.iload 6, 2) := by decide +kernel
theorem dX7_take_315 : decode cX7_take 315 = .ok (.iload 4, 2) := by decide +kernel
theorem dX7_take_317 : decode cX7_take 317 = .ok (.if_icmp .ge 30, 3) := by decide +kernel
theorem dX7_take_320 : decode cX7_take 320 = .ok (.aload_n 0, 1) := by decide +kernel
theorem dX7_take_321 : decode cX7_take 321 = .ok (.getfield 46, 3) := by decide +kernel
theorem dX7_take_324 : decode cX7_take 324 = .ok (.aload_n 3, 1) := by decide +kernel
theorem dX7_take_325 : decode cX7_take 325 = .ok (.iload 6, 2) := by decide +kernel
theorem dX7_take_327 : decode cX7_take 327 = .ok (.iaload, 1) := by decide +kernel
theorem dX7_take_328 : decode cX7_take 328 = .ok (.iaload, 1) := by decide +kernel
theorem dX7_take_329 : decode cX7_take 329 = .ok (.iconst 2, 1) := by decide +kernel
theorem dX7_take_330 : decode cX7_take 330 = .ok (.if_icmp .eq 11, 3) := by decide +kernel
theorem dX7_take_333 : decode cX7_take 333 = .ok (.aload_n 0, 1) := by decide +kernel
theorem dX7_take_334 : decode cX7_take 334 = .ok (.aload_n 3, 1) := by decide +kernel
theorem dX7_take_335 : decode cX7_take 335 = .ok (.iload 6, 2) := by decide +kernel
theorem dX7_take_337 : decode cX7_take 337 = .ok (.iaload, 1) := by decide +kernel
theorem dX7_take_338 : decode cX7_take 338 = .ok (.invokevirtual 177, 3) := by decide +kernel
theorem dX7_take_341 : decode cX7_take 341 = .ok (.iinc 6 1, 3) := by decide +kernel
theorem dX7_take_344 : decode cX7_take 344 = .ok (.goto (-31), 3) := by decide +kernel
theorem dX7_take_347 : decode cX7_take 347 = .ok (.return_, 1) := by decide +kernel
theorem dX7_has_0 : decode cX7_has 0 = .ok (.iconst 0, 1) := by decide +kernel
theorem dX7_has_1 : decode cX7_has 1 = .ok (.istore_n 3, 1) := by decide +kernel
theorem dX7_has_2 : decode cX7_has 2 = .ok (.iload_n 3, 1) := by decide +kernel
theorem dX7_has_3 : decode cX7_has 3 = .ok (.iload_n 1, 1) := by decide +kernel
theorem dX7_has_4 : decode cX7_has 4 = .ok (.if_icmp .ge 18, 3) := by decide +kernel
theorem dX7_has_7 : decode cX7_has 7 = .ok (.aload_n 0, 1) := by decide +kernel
theorem dX7_has_8 : decode cX7_has 8 = .ok (.iload_n 3, 1) := by decide +kernel
theorem dX7_has_9 : decode cX7_has 9 = .ok (.iaload, 1) := by decide +kernel
theorem dX7_has_10 : decode cX7_has 10 = .ok (.iload_n 2, 1) := by decide +kernel
theorem dX7_has_11 : decode cX7_has 11 = .ok (.if_icmp .ne 5, 3) := by decide +kernel
theorem dX7_has_14 : decode cX7_has 14 = .ok (.iconst 1, 1) := by decide +kernel
theorem dX7_has_15 : decode cX7_has 15 = .ok (.ireturn, 1) := by decide +kernel
theorem dX7_has_16 : decode cX7_has 16 = .ok (.iinc 3 1, 3) := by decide +kernel
theorem dX7_has_19 : decode cX7_has 19 = .ok (.goto (-17), 3) := by decide +kernel
theorem dX7_has_22 : decode cX7_has 22 = .ok (.iconst 0, 1) := by decide +kernel
theorem dX7_has_23 : decode cX7_has 23 = .ok (.ireturn, 1) := by decide +kernel
theorem dX7_give_0 : decode cX7_give 0 = .ok (.iconst 0, 1) := by decide +kernel
theorem dX7_give_1 : decode cX7_give 1 = .ok (.istore_n 2, 1) := by decide +kernel
theorem dX7_give_2 : decode cX7_give 2 = .ok (.aload_n 0, 1) := by decide +kernel
theorem dX7_give_3 : decode cX7_give 3 = .ok (.getfield 79, 3) := by decide +kernel
theorem dX7_give_6 : decode cX7_give 6 = .ok (.iload_n 2, 1) := by decide +kernel
theorem dX7_give_7 : decode cX7_give 7 = .ok (.iaload, 1) := by decide +kernel
theorem dX7_give_8 : decode cX7_give 8 = .ok (.iconst (-1), 1) := by decide +kernel
theorem dX7_give_9 : decode cX7_give 9 = .ok (.if_icmp .eq 9, 3) := by decide +kernel
theorem dX7_give_12 : decode cX7_give 12 = .ok (.iinc 2 1, 3) := by decide +kernel
theorem dX7_give_15 : decode cX7_give 15 = .ok (.goto (-13), 3) := by decide +kernel
theorem dX7_give_18 : decode cX7_give 18 = .ok (.aload_n 0, 1) := by decide +kernel
theorem dX7_give_19 : decode cX7_give 19 = .ok (.getfield 79, 3) := by decide +kernel
theorem dX7_give_22 : decode cX7_give 22 = .ok (.iload_n 2, 1) := by decide +kernel
theorem dX7_give_23 : decode cX7_give 23 = .ok (.iload_n 1, 1) := by decide +kernel
theorem dX7_give_24 : decode cX7_give 24 = .ok (.iastore, 1) := by decide +kernel
theorem dX7_give_25 : decode cX7_give 25 = .ok (.aload_n 0, 1) := by decide +kernel
theorem dX7_give_26 : decode cX7_give 26 = .ok (.getfield 82, 3) := by decide +kernel
theorem dX7_give_29 : decode cX7_give 29 = .ok (.iload_n 2, 1) := by decide +kernel
theorem dX7_give_30 : decode cX7_give 30 = .ok (.iconst 0, 1) := by decide +kernel
theorem dX7_give_31 : decode cX7_give 31 = .ok (.iastore, 1) := by decide +kernel
theorem dX7_give_32 : decode cX7_give 32 = .ok (.aload_n 0, 1) := by decide +kernel
theorem dX7_give_33 : decode cX7_give 33 = .ok (.getfield 46, 3) := by decide +kernel
theorem dX7_give_36 : decode cX7_give 36 = .ok (.iload_n 1, 1) := by decide +kernel
theorem dX7_give_37 : decode cX7_give 37 = .ok (.iconst 2, 1) := by decide +kernel
theorem dX7_give_38 : decode cX7_give 38 = .ok (.iastore, 1) := by decide +kernel
theorem dX7_give_39 : decode cX7_give 39 = .ok (.aload_n 0, 1) := by decide +kernel
theorem dX7_give_40 : decode cX7_give 40 = .ok (.dup, 1) := by decide +kernel
theorem dX7_give_41 : decode cX7_give 41 = .ok (.getfield 180, 3) := by decide +kernel
theorem dX7_give_44 : decode cX7_give 44 = .ok (.iconst 1, 1) := by decide +kernel
theorem dX7_give_45 : decode cX7_give 45 = .ok (.iadd, 1) := by decide +kernel
theorem dX7_give_46 : decode cX7_give 46 = .ok (.putfield 180, 3) := by decide +kernel
theorem dX7_give_49 : decode cX7_give 49 = .ok (.return_, 1) := by decide +kernel
theorem dX7_goOn_0 : decode cX7_goOn 0 = .ok (.aload_n 0, 1) := by decide +kernel
theorem dX7_goOn_1 : decode cX7_goOn 1 = .ok (.getfield 46, 3) := by decide +kernel
theorem dX7_goOn_4 : decode cX7_goOn 4 = .ok (.iload_n 1, 1) := by decide +kernel
theorem dX7_goOn_5 : decode cX7_goOn 5 = .ok (.iaload, 1) := by decide +kernel
theorem dX7_goOn_6 : decode cX7_goOn 6 = .ok (.iconst 2, 1) := by decide +kernel
theorem dX7_goOn_7 : decode cX7_goOn 7 = .ok (.if_icmp .ne 57, 3) := by decide +kernel
theorem dX7_goOn_10 : decode cX7_goOn 10 = .ok (.aload_n 0, 1) := by decide +kernel
theorem dX7_goOn_11 : decode cX7_goOn 11 = .ok (.getfield 40, 3) := by decide +kernel
theorem dX7_goOn_14 : decode cX7_goOn 14 = .ok (.iload_n 1, 1) := by decide +kernel
theorem dX7_goOn_15 : decode cX7_goOn 15 = .ok (.aaload, 1) := by decide +kernel
theorem dX7_goOn_16 : decode cX7_goOn 16 = .ok (.aload_n 0, 1) := by decide +kernel
theorem dX7_goOn_17 : decode cX7_goOn 17 = .ok (.getfield 49, 3) := by decide +kernel
theorem dX7_goOn_20 : decode cX7_goOn 20 = .ok (.iload_n 1, 1) := by decide +kernel
theorem dX7_goOn_21 : decode cX7_goOn 21 = .ok (.iaload, 1) := by decide +kernel
theorem dX7_goOn_22 : decode cX7_goOn 22 = .ok (.iaload, 1) := by decide +kernel
theorem dX7_goOn_23 : decode cX7_goOn 23 = .ok (.istore_n 3, 1) := by decide +kernel
theorem dX7_goOn_24 : decode cX7_goOn 24 = .ok (.aload_n 0, 1) := by decide +kernel
theorem dX7_goOn_25 : decode cX7_goOn 25 = .ok (.getfield 43, 3) := by decide +kernel
theorem dX7_goOn_28 : decode cX7_goOn 28 = .ok (.iload_n 1, 1) := by decide +kernel
theorem dX7_goOn_29 : decode cX7_goOn 29 = .ok (.aaload, 1) := by decide +kernel
theorem dX7_goOn_30 : decode cX7_goOn 30 = .ok (.aload_n 0, 1) := by decide +kernel
theorem dX7_goOn_31 : decode cX7_goOn 31 = .ok (.getfield 49, 3) := by decide +kernel
theorem dX7_goOn_34 : decode cX7_goOn 34 = .ok (.iload_n 1, 1) := by decide +kernel
theorem dX7_goOn_35 : decode cX7_goOn 35 = .ok (.iaload, 1) := by decide +kernel
theorem dX7_goOn_36 : decode cX7_goOn 36 = .ok (.iaload, 1) := by decide +kernel
theorem dX7_goOn_37 : decode cX7_goOn 37 = .ok (.istore 4, 2) := by decide +kernel
theorem dX7_goOn_39 : decode cX7_goOn 39 = .ok (.iload_n 3, 1) := by decide +kernel
theorem dX7_goOn_40 : decode cX7_goOn 40 = .ok (.ifCond .ne 13, 3) := by decide +kernel
theorem dX7_goOn_43 : decode cX7_goOn 43 = .ok (.aload_n 0, 1) := by decide +kernel
theorem dX7_goOn_44 : decode cX7_goOn 44 = .ok (.iload_n 1, 1) := by decide +kernel
theorem dX7_goOn_45 : decode cX7_goOn 45 = .ok (.iload_n 2, 1) := by decide +kernel
theorem dX7_goOn_46 : decode cX7_goOn 46 = .ok (.iload 4, 2) := by decide +kernel
theorem dX7_goOn_48 : decode cX7_goOn 48 = .ok (.invokevirtual 183, 3) := by decide +kernel
theorem dX7_goOn_51 : decode cX7_goOn 51 = .ok (.iconst 1, 1) := by decide +kernel
theorem dX7_goOn_52 : decode cX7_goOn 52 = .ok (.ireturn, 1) := by decide +kernel
theorem dX7_goOn_53 : decode cX7_goOn 53 = .ok (.aload_n 0, 1) := by decide +kernel
theorem dX7_goOn_54 : decode cX7_goOn 54 = .ok (.iload_n 1, 1) := by decide +kernel
theorem dX7_goOn_55 : decode cX7_goOn 55 = .ok (.iload_n 3, 1) := by decide +kernel
theorem dX7_goOn_56 : decode cX7_goOn 56 = .ok (.iload 4, 2) := by decide +kernel
theorem dX7_goOn_58 : decode cX7_goOn 58 = .ok (.invokevirtual 187, 3) := by decide +kernel
theorem dX7_goOn_61 : decode cX7_goOn 61 = .ok (.goto (-61), 3) := by decide +kernel
theorem dX7_goOn_64 : decode cX7_goOn 64 = .ok (.iconst 0, 1) := by decide +kernel
theorem dX7_goOn_65 : decode cX7_goOn 65 = .ok (.ireturn, 1) := by decide +kernel
theorem dX7_runOne_0 : decode cX7_runOne 0 = .ok (.aload_n 0, 1) := by decide +kernel
theorem dX7_runOne_1 : decode cX7_runOne 1 = .ok (.getfield 76, 3) := by decide +kernel
theorem dX7_runOne_4 : decode cX7_runOne 4 = .ok (.iload_n 1, 1) := by decide +kernel
theorem dX7_runOne_5 : decode cX7_runOne 5 = .ok (.aaload, 1) := by decide +kernel
theorem dX7_runOne_6 : decode cX7_runOne 6 = .ok (.iconst 0, 1) := by decide +kernel
theorem dX7_runOne_7 : decode cX7_runOne 7 = .ok (.iaload, 1) := by decide +kernel
theorem dX7_runOne_8 : decode cX7_runOne 8 = .ok (.ifCond .ne 15, 3) := by decide +kernel
theorem dX7_runOne_11 : decode cX7_runOne 11 = .ok (.aload_n 0, 1) := by decide +kernel
theorem dX7_runOne_12 : decode cX7_runOne 12 = .ok (.getfield 76, 3) := by decide +kernel
theorem dX7_runOne_15 : decode cX7_runOne 15 = .ok (.iload_n 1, 1) := by decide +kernel
theorem dX7_runOne_16 : decode cX7_runOne 16 = .ok (.aaload, 1) := by decide +kernel
theorem dX7_runOne_17 : decode cX7_runOne 17 = .ok (.iconst 3, 1) := by decide +kernel
theorem dX7_runOne_18 : decode cX7_runOne 18 = .ok (.aload_n 0, 1) := by decide +kernel
theorem dX7_runOne_19 : decode cX7_runOne 19 = .ok (.getfield 95, 3) := by decide +kernel
theorem dX7_runOne_22 : decode cX7_runOne 22 = .ok (.iastore, 1) := by decide +kernel
theorem dX7_runOne_23 : decode cX7_runOne 23 = .ok (.aload_n 0, 1) := by decide +kernel
theorem dX7_runOne_24 : decode cX7_runOne 24 = .ok (.getfield 76, 3) := by decide +kernel
theorem dX7_runOne_27 : decode cX7_runOne 27 = .ok (.iload_n 1, 1) := by decide +kernel
theorem dX7_runOne_28 : decode cX7_runOne 28 = .ok (.aaload, 1) := by decide +kernel
theorem dX7_runOne_29 : decode cX7_runOne 29 = .ok (.iconst 0, 1) := by decide +kernel
theorem dX7_runOne_30 : decode cX7_runOne 30 = .ok (.dup2, 1) := by decide +kernel
theorem dX7_runOne_31 : decode cX7_runOne 31 = .ok (.iaload, 1) := by decide +kernel
theorem dX7_runOne_32 : decode cX7_runOne 32 = .ok (.iconst 1, 1) := by decide +kernel
theorem dX7_runOne_33 : decode cX7_runOne 33 = .ok (.iadd, 1) := by decide +kernel
theorem dX7_runOne_34 : decode cX7_runOne 34 = .ok (.iastore, 1) := by decide +kernel
theorem dX7_runOne_35 : decode cX7_runOne 35 = .ok (.aload_n 0, 1) := by decide +kernel
theorem dX7_runOne_36 : decode cX7_runOne 36 = .ok (.getfield 23, 3) := by decide +kernel
theorem dX7_runOne_39 : decode cX7_runOne 39 = .ok (.aload_n 0, 1) := by decide +kernel
theorem dX7_runOne_40 : decode cX7_runOne 40 = .ok (.getfield 29, 3) := by decide +kernel
theorem dX7_runOne_43 : decode cX7_runOne 43 = .ok (.iload_n 1, 1) := by decide +kernel
theorem dX7_runOne_44 : decode cX7_runOne 44 = .ok (.iaload, 1) := by decide +kernel
theorem dX7_runOne_45 : decode cX7_runOne 45 = .ok (.dup2, 1) := by decide +kernel
theorem dX7_runOne_46 : decode cX7_runOne 46 = .ok (.iaload, 1) := by decide +kernel
theorem dX7_runOne_47 : decode cX7_runOne 47 = .ok (.iconst 1, 1) := by decide +kernel
theorem dX7_runOne_48 : decode cX7_runOne 48 = .ok (.iadd, 1) := by decide +kernel
theorem dX7_runOne_49 : decode cX7_runOne 49 = .ok (.iastore, 1) := by decide +kernel
theorem dX7_runOne_50 : decode cX7_runOne 50 = .ok (.aload_n 0, 1) := by decide +kernel
theorem dX7_runOne_51 : decode cX7_runOne 51 = .ok (.getfield 98, 3) := by decide +kernel
theorem dX7_runOne_54 : decode cX7_runOne 54 = .ok (.iconst 2, 1) := by decide +kernel
theorem dX7_runOne_55 : decode cX7_runOne 55 = .ok (.if_icmp .ne 25, 3) := by decide +kernel
theorem dX7_runOne_58 : decode cX7_runOne 58 = .ok (.aload_n 0, 1) := by decide +kernel
theorem dX7_runOne_59 : decode cX7_runOne 59 = .ok (.getfield 64, 3) := by decide +kernel
theorem dX7_runOne_62 : decode cX7_runOne 62 = .ok (.iload_n 1, 1) := by decide +kernel
theorem dX7_runOne_63 : decode cX7_runOne 63 = .ok (.dup2, 1) := by decide +kernel
theorem dX7_runOne_64 : decode cX7_runOne 64 = .ok (.iaload, 1) := by decide +kernel
theorem dX7_runOne_65 : decode cX7_runOne 65 = .ok (.sipush 840, 3) := by decide +kernel
theorem dX7_runOne_68 : decode cX7_runOne 68 = .ok (.bipush 8, 2) := by decide +kernel
theorem dX7_runOne_70 : decode cX7_runOne 70 = .ok (.aload_n 0, 1) := by decide +kernel
theorem dX7_runOne_71 : decode cX7_runOne 71 = .ok (.getfield 26, 3) := by decide +kernel
theorem dX7_runOne_74 : decode cX7_runOne 74 = .ok (.iload_n 1, 1) := by decide +kernel
theorem dX7_runOne_75 : decode cX7_runOne 75 = .ok (.iaload, 1) := by decide +kernel
theorem dX7_runOne_76 : decode cX7_runOne 76 = .ok (.isub, 1) := by decide +kernel
theorem dX7_runOne_77 : decode cX7_runOne 77 = .ok (.idiv, 1) := by decide +kernel
theorem dX7_runOne_78 : decode cX7_runOne 78 = .ok (.iadd, 1) := by decide +kernel
theorem dX7_runOne_79 : decode cX7_runOne 79 = .ok (.iastore, 1) := by decide +kernel
theorem dX7_runOne_80 : decode cX7_runOne 80 = .ok (.aload_n 0, 1) := by decide +kernel
theorem dX7_runOne_81 : decode cX7_runOne 81 = .ok (.getfield 82, 3) := by decide +kernel
theorem dX7_runOne_84 : decode cX7_runOne 84 = .ok (.iload_n 2, 1) := by decide +kernel
theorem dX7_runOne_85 : decode cX7_runOne 85 = .ok (.dup2, 1) := by decide +kernel
theorem dX7_runOne_86 : decode cX7_runOne 86 = .ok (.iaload, 1) := by decide +kernel
theorem dX7_runOne_87 : decode cX7_runOne 87 = .ok (.iconst 1, 1) := by decide +kernel
theorem dX7_runOne_88 : decode cX7_runOne 88 = .ok (.iadd, 1) := by decide +kernel
theorem dX7_runOne_89 : decode cX7_runOne 89 = .ok (.iastore, 1) := by decide +kernel
theorem dX7_runOne_90 : decode cX7_runOne 90 = .ok (.aload_n 0, 1) := by decide +kernel
theorem dX7_runOne_91 : decode cX7_runOne 91 = .ok (.getfield 55, 3) := by decide +kernel
theorem dX7_runOne_94 : decode cX7_runOne 94 = .ok (.iload_n 1, 1) := by decide +kernel
theorem dX7_runOne_95 : decode cX7_runOne 95 = .ok (.dup2, 1) := by decide +kernel
theorem dX7_runOne_96 : decode cX7_runOne 96 = .ok (.iaload, 1) := by decide +kernel
theorem dX7_runOne_97 : decode cX7_runOne 97 = .ok (.iconst 1, 1) := by decide +kernel
theorem dX7_runOne_98 : decode cX7_runOne 98 = .ok (.iadd, 1) := by decide +kernel
theorem dX7_runOne_99 : decode cX7_runOne 99 = .ok (.iastore, 1) := by decide +kernel
theorem dX7_runOne_100 : decode cX7_runOne 100 = .ok (.aload_n 0, 1) := by decide +kernel
theorem dX7_runOne_101 : decode cX7_runOne 101 = .ok (.getfield 55, 3) := by decide +kernel
theorem dX7_runOne_104 : decode cX7_runOne 104 = .ok (.iload_n 1, 1) := by decide +kernel
theorem dX7_runOne_105 : decode cX7_runOne 105 = .ok (.iaload, 1) := by decide +kernel
theorem dX7_runOne_106 : decode cX7_runOne 106 = .ok (.iload_n 3, 1) := by decide +kernel
theorem dX7_runOne_107 : decode cX7_runOne 107 = .ok (.if_icmp .ge 4, 3) := by decide +kernel
theorem dX7_runOne_110 : decode cX7_runOne 110 = .ok (.return_, 1) := by decide +kernel
theorem dX7_runOne_111 : decode cX7_runOne 111 = .ok (.aload_n 0, 1) := by decide +kernel
theorem dX7_runOne_112 : decode cX7_runOne 112 = .ok (.getfield 55, 3) := by decide +kernel
theorem dX7_runOne_115 : decode cX7_runOne 115 = .ok (.iload_n 1, 1) := by decide +kernel
theorem dX7_runOne_116 : decode cX7_runOne 116 = .ok (.iconst 0, 1) := by decide +kernel
theorem dX7_runOne_117 : decode cX7_runOne 117 = .ok (.iastore, 1) := by decide +kernel
theorem dX7_runOne_118 : decode cX7_runOne 118 = .ok (.aload_n 0, 1) := by decide +kernel
theorem dX7_runOne_119 : decode cX7_runOne 119 = .ok (.getfield 49, 3) := by decide +kernel
theorem dX7_runOne_122 : decode cX7_runOne 122 = .ok (.iload_n 1, 1) := by decide +kernel
theorem dX7_runOne_123 : decode cX7_runOne 123 = .ok (.dup2, 1) := by decide +kernel
theorem dX7_runOne_124 : decode cX7_runOne 124 = .ok (.iaload, 1) := by decide +kernel
theorem dX7_runOne_125 : decode cX7_runOne 125 = .ok (.iconst 1, 1) := by decide +kernel
theorem dX7_runOne_126 : decode cX7_runOne 126 = .ok (.iadd, 1) := by decide +kernel
theorem dX7_runOne_127 : decode cX7_runOne 127 = .ok (.iastore, 1) := by decide +kernel
theorem dX7_runOne_128 : decode cX7_runOne 128 = .ok (.aload_n 0, 1) := by decide +kernel
theorem dX7_runOne_129 : decode cX7_runOne 129 = .ok (.getfield 49, 3) := by decide +kernel
theorem dX7_runOne_132 : decode cX7_runOne 132 = .ok (.iload_n 1, 1) := by decide +kernel
theorem dX7_runOne_133 : decode cX7_runOne 133 = .ok (.iaload, 1) := by decide +kernel
theorem dX7_runOne_134 : decode cX7_runOne 134 = .ok (.aload_n 0, 1) := by decide +kernel
theorem dX7_runOne_135 : decode cX7_runOne 135 = .ok (.getfield 35, 3) := by decide +kernel
theorem dX7_runOne_138 : decode cX7_runOne 138 = .ok (.iload_n 1, 1) := by decide +kernel
theorem dX7_runOne_139 : decode cX7_runOne 139 = .ok (.iaload, 1) := by decide +kernel
theorem dX7_runOne_140 : decode cX7_runOne 140 = .ok (.if_icmp .ge 4, 3) := by decide +kernel
theorem dX7_runOne_143 : decode cX7_runOne 143 = .ok (.return_, 1) := by decide +kernel
theorem dX7_runOne_144 : decode cX7_runOne 144 = .ok (.aload_n 0, 1) := by decide +kernel
theorem dX7_runOne_145 : decode cX7_runOne 145 = .ok (.getfield 52, 3) := by decide +kernel
theorem dX7_runOne_148 : decode cX7_runOne 148 = .ok (.iload_n 1, 1) := by decide +kernel
theorem dX7_runOne_149 : decode cX7_runOne 149 = .ok (.dup2, 1) := by decide +kernel
theorem dX7_runOne_150 : decode cX7_runOne 150 = .ok (.iaload, 1) := by decide +kernel
theorem dX7_runOne_151 : decode cX7_runOne 151 = .ok (.iconst 1, 1) := by decide +kernel
theorem dX7_runOne_152 : decode cX7_runOne 152 = .ok (.iadd, 1) := by decide +kernel
theorem dX7_runOne_153 : decode cX7_runOne 153 = .ok (.iastore, 1) := by decide +kernel
theorem dX7_runOne_154 : decode cX7_runOne 154 = .ok (.aload_n 0, 1) := by decide +kernel
theorem dX7_runOne_155 : decode cX7_runOne 155 = .ok (.getfield 49, 3) := by decide +kernel
theorem dX7_runOne_158 : decode cX7_runOne 158 = .ok (.iload_n 1, 1) := by decide +kernel
theorem dX7_runOne_159 : decode cX7_runOne 159 = .ok (.iconst 0, 1) := by decide +kernel
theorem dX7_runOne_160 : decode cX7_runOne 160 = .ok (.iastore, 1) := by decide +kernel
theorem dX7_runOne_161 : decode cX7_runOne 161 = .ok (.aload_n 0, 1) := by decide +kernel
theorem dX7_runOne_162 : decode cX7_runOne 162 = .ok (.getfield 52, 3) := by decide +kernel
theorem dX7_runOne_165 : decode cX7_runOne 165 = .ok (.iload_n 1, 1) := by decide +kernel
theorem dX7_runOne_166 : decode cX7_runOne 166 = .ok (.iaload, 1) := by decide +kernel
theorem dX7_runOne_167 : decode cX7_runOne 167 = .ok (.aload_n 0, 1) := by decide +kernel
theorem dX7_runOne_168 : decode cX7_runOne 168 = .ok (.getfield 32, 3) := by decide +kernel
theorem dX7_runOne_171 : decode cX7_runOne 171 = .ok (.iload_n 1, 1) := by decide +kernel
theorem dX7_runOne_172 : decode cX7_runOne 172 = .ok (.iaload, 1) := by decide +kernel
theorem dX7_runOne_173 : decode cX7_runOne 173 = .ok (.if_icmp .ne 8, 3) := by decide +kernel
theorem dX7_runOne_176 : decode cX7_runOne 176 = .ok (.aload_n 0, 1) := by decide +kernel
theorem dX7_runOne_177 : decode cX7_runOne 177 = .ok (.iload_n 1, 1) := by decide +kernel
theorem dX7_runOne_178 : decode cX7_runOne 178 = .ok (.invokevirtual 190, 3) := by decide +kernel
theorem dX7_runOne_181 : decode cX7_runOne 181 = .ok (.return_, 1) := by decide +kernel
theorem dX7_stay_0 : decode cX7_stay 0 = .ok (.aload_n 0, 1) := by decide +kernel
theorem dX7_stay_1 : decode cX7_stay 1 = .ok (.iload_n 1, 1) := by decide +kernel
theorem dX7_stay_2 : decode cX7_stay 2 = .ok (.invokevirtual 159, 3) := by decide +kernel
theorem dX7_stay_5 : decode cX7_stay 5 = .ok (.aload_n 0, 1) := by decide +kernel
theorem dX7_stay_6 : decode cX7_stay 6 = .ok (.getfield 46, 3) := by decide +kernel
theorem dX7_stay_9 : decode cX7_stay 9 = .ok (.iload_n 1, 1) := by decide +kernel
theorem dX7_stay_10 : decode cX7_stay 10 = .ok (.iload_n 2, 1) := by decide +kernel
theorem dX7_stay_11 : decode cX7_stay 11 = .ok (.iastore, 1) := by decide +kernel
theorem dX7_stay_12 : decode cX7_stay 12 = .ok (.aload_n 0, 1) := by decide +kernel
theorem dX7_stay_13 : decode cX7_stay 13 = .ok (.getfield 70, 3) := by decide +kernel
theorem dX7_stay_16 : decode cX7_stay 16 = .ok (.iload_n 1, 1) := by decide +kernel
theorem dX7_stay_17 : decode cX7_stay 17 = .ok (.iload_n 3, 1) := by decide +kernel
theorem dX7_stay_18 : decode cX7_stay 18 = .ok (.iastore, 1) := by decide +kernel
theorem dX7_stay_19 : decode cX7_stay 19 = .ok (.aload_n 0, 1) := by decide +kernel
theorem dX7_stay_20 : decode cX7_stay 20 = .ok (.getfield 73, 3) := by decide +kernel
theorem dX7_stay_23 : decode cX7_stay 23 = .ok (.iload_n 1, 1) := by decide +kernel
theorem dX7_stay_24 : decode cX7_stay 24 = .ok (.aload_n 0, 1) := by decide +kernel
theorem dX7_stay_25 : decode cX7_stay 25 = .ok (.getfield 107, 3) := by decide +kernel
theorem dX7_stay_28 : decode cX7_stay 28 = .ok (.iastore, 1) := by decide +kernel
theorem dX7_stay_29 : decode cX7_stay 29 = .ok (.aload_n 0, 1) := by decide +kernel
theorem dX7_stay_30 : decode cX7_stay 30 = .ok (.dup, 1) := by decide +kernel
theorem dX7_stay_31 : decode cX7_stay 31 = .ok (.getfield 107, 3) := by decide +kernel
theorem dX7_stay_34 : decode cX7_stay 34 = .ok (.iconst 1, 1) := by decide +kernel
theorem dX7_stay_35 : decode cX7_stay 35 = .ok (.iadd, 1) := by decide +kernel
theorem dX7_stay_36 : decode cX7_stay 36 = .ok (.putfield 107, 3) := by decide +kernel
theorem dX7_stay_39 : decode cX7_stay 39 = .ok (.return_, 1) := by decide +kernel
theorem dX7_doStep_0 : decode cX7_doStep 0 = .ok (.iload_n 2, 1) := by decide +kernel
theorem dX7_doStep_1 : decode cX7_doStep 1 = .ok (.iconst 2, 1) := by decide +kernel
theorem dX7_doStep_2 : decode cX7_doStep 2 = .ok (.if_icmp .ne 31, 3) := by decide +kernel
theorem dX7_doStep_5 : decode cX7_doStep 5 = .ok (.aload_n 0, 1) := by decide +kernel
theorem dX7_doStep_6 : decode cX7_doStep 6 = .ok (.getfield 88, 3) := by decide +kernel
theorem dX7_doStep_9 : decode cX7_doStep 9 = .ok (.iload_n 3, 1) := by decide +kernel
theorem dX7_doStep_10 : decode cX7_doStep 10 = .ok (.iaload, 1) := by decide +kernel
theorem dX7_doStep_11 : decode cX7_doStep 11 = .ok (.iconst (-1), 1) := by decide +kernel
theorem dX7_doStep_12 : decode cX7_doStep 12 = .ok (.if_icmp .eq 21, 3) := by decide +kernel
theorem dX7_doStep_15 : decode cX7_doStep 15 = .ok (.aload_n 0, 1) := by decide +kernel
theorem dX7_doStep_16 : decode cX7_doStep 16 = .ok (.getfield 88, 3) := by decide +kernel
theorem dX7_doStep_19 : decode cX7_doStep 19 = .ok (.iload_n 3, 1) := by decide +kernel
theorem dX7_doStep_20 : decode cX7_doStep 20 = .ok (.iaload, 1) := by decide +kernel
theorem dX7_doStep_21 : decode cX7_doStep 21 = .ok (.iload_n 1, 1) := by decide +kernel
theorem dX7_doStep_22 : decode cX7_doStep 22 = .ok (.if_icmp .eq 11, 3) := by decide +kernel
theorem dX7_doStep_25 : decode cX7_doStep 25 = .ok (.aload_n 0, 1) := by decide +kernel
theorem dX7_doStep_26 : decode cX7_doStep 26 = .ok (.iload_n 1, 1) := by decide +kernel
theorem dX7_doStep_27 : decode cX7_doStep 27 = .ok (.iconst 4, 1) := by decide +kernel
theorem dX7_doStep_28 : decode cX7_doStep 28 = .ok (.iload_n 3, 1) := by decide +kernel
theorem dX7_doStep_29 : decode cX7_doStep 29 = .ok (.invokevirtual 193, 3) := by decide +kernel
theorem dX7_doStep_32 : decode cX7_doStep 32 = .ok (.return_, 1) := by decide +kernel
theorem dX7_doStep_33 : decode cX7_doStep 33 = .ok (.iload_n 2, 1) := by decide +kernel
theorem dX7_doStep_34 : decode cX7_doStep 34 = .ok (.iconst 5, 1) := by decide +kernel
theorem dX7_doStep_35 : decode cX7_doStep 35 = .ok (.if_icmp .ne 20, 3) := by decide +kernel
theorem dX7_doStep_38 : decode cX7_doStep 38 = .ok (.aload_n 0, 1) := by decide +kernel
theorem dX7_doStep_39 : decode cX7_doStep 39 = .ok (.getfield 91, 3) := by decide +kernel
theorem dX7_doStep_42 : decode cX7_doStep 42 = .ok (.iload_n 3, 1) := by decide +kernel
theorem dX7_doStep_43 : decode cX7_doStep 43 = .ok (.iaload, 1) := by decide +kernel
theorem dX7_doStep_44 : decode cX7_doStep 44 = .ok (.ifCond .ne 11, 3) := by decide +kernel
theorem dX7_doStep_47 : decode cX7_doStep 47 = .ok (.aload_n 0, 1) := by decide +kernel
theorem dX7_doStep_48 : decode cX7_doStep 48 = .ok (.iload_n 1, 1) := by decide +kernel
theorem dX7_doStep_49 : decode cX7_doStep 49 = .ok (.iconst 5, 1) := by decide +kernel
theorem dX7_doStep_50 : decode cX7_doStep 50 = .ok (.iload_n 3, 1) := by decide +kernel
theorem dX7_doStep_51 : decode cX7_doStep 51 = .ok (.invokevirtual 193, 3) := by decide +kernel
theorem dX7_doStep_54 : decode cX7_doStep 54 = .ok (.return_, 1) := by decide +kernel
theorem dX7_doStep_55 : decode cX7_doStep 55 = .ok (.aload_n 0, 1) := by decide +kernel
theorem dX7_doStep_56 : decode cX7_doStep 56 = .ok (.getfield 49, 3) := by decide +kernel
theorem dX7_doStep_59 : decode cX7_doStep 59 = .ok (.iload_n 1, 1) := by decide +kernel
theorem dX7_doStep_60 : decode cX7_doStep 60 = .ok (.dup2, 1) := by decide +kernel
theorem dX7_doStep_61 : decode cX7_doStep 61 = .ok (.iaload, 1) := by decide +kernel
theorem dX7_doStep_62 : decode cX7_doStep 62 = .ok (.iconst 1, 1) := by decide +kernel
theorem dX7_doStep_63 : decode cX7_doStep 63 = .ok (.iadd, 1) := by decide +kernel
theorem dX7_doStep_64 : decode cX7_doStep 64 = .ok (.iastore, 1) := by decide +kernel
theorem dX7_doStep_65 : decode cX7_doStep 65 = .ok (.iload_n 2, 1) := by decide +kernel
theorem dX7_doStep_66 : decode cX7_doStep 66 = .ok (.tableswitch 110 1 5 #[34, 61, 71, 89, 97], 34) := by decide +kernel
theorem dX7_doStep_100 : decode cX7_doStep 100 = .ok (.aload_n 0, 1) := by decide +kernel
theorem dX7_doStep_101 : decode cX7_doStep 101 = .ok (.iload_n 1, 1) := by decide +kernel
theorem dX7_doStep_102 : decode cX7_doStep 102 = .ok (.invokevirtual 159, 3) := by decide +kernel
theorem dX7_doStep_105 : decode cX7_doStep 105 = .ok (.aload_n 0, 1) := by decide +kernel
theorem dX7_doStep_106 : decode cX7_doStep 106 = .ok (.getfield 46, 3) := by decide +kernel
theorem dX7_doStep_109 : decode cX7_doStep 109 = .ok (.iload_n 1, 1) := by decide +kernel
theorem dX7_doStep_110 : decode cX7_doStep 110 = .ok (.iconst 3, 1) := by decide +kernel
theorem dX7_doStep_111 : decode cX7_doStep 111 = .ok (.iastore, 1) := by decide +kernel
theorem dX7_doStep_112 : decode cX7_doStep 112 = .ok (.aload_n 0, 1) := by decide +kernel
theorem dX7_doStep_113 : decode cX7_doStep 113 = .ok (.getfield 67, 3) := by decide +kernel
theorem dX7_doStep_116 : decode cX7_doStep 116 = .ok (.iload_n 1, 1) := by decide +kernel
theorem dX7_doStep_117 : decode cX7_doStep 117 = .ok (.aload_n 0, 1) := by decide +kernel
theorem dX7_doStep_118 : decode cX7_doStep 118 = .ok (.getfield 95, 3) := by decide +kernel
theorem dX7_doStep_121 : decode cX7_doStep 121 = .ok (.iload_n 3, 1) := by decide +kernel
theorem dX7_doStep_122 : decode cX7_doStep 122 = .ok (.iadd, 1) := by decide +kernel
theorem dX7_doStep_123 : decode cX7_doStep 123 = .ok (.iastore, 1) := by decide +kernel
theorem dX7_doStep_124 : decode cX7_doStep 124 = .ok (.goto 62, 3) := by decide +kernel
theorem dX7_doStep_127 : decode cX7_doStep 127 = .ok (.aload_n 0, 1) := by decide +kernel
theorem dX7_doStep_128 : decode cX7_doStep 128 = .ok (.getfield 88, 3) := by decide +kernel
theorem dX7_doStep_131 : decode cX7_doStep 131 = .ok (.iload_n 3, 1) := by decide +kernel
theorem dX7_doStep_132 : decode cX7_doStep 132 = .ok (.iload_n 1, 1) := by decide +kernel
theorem dX7_doStep_133 : decode cX7_doStep 133 = .ok (.iastore, 1) := by decide +kernel
theorem dX7_doStep_134 : decode cX7_doStep 134 = .ok (.goto 52, 3) := by decide +kernel
theorem dX7_doStep_137 : decode cX7_doStep 137 = .ok (.aload_n 0, 1) := by decide +kernel
theorem dX7_doStep_138 : decode cX7_doStep 138 = .ok (.getfield 88, 3) := by decide +kernel
theorem dX7_doStep_141 : decode cX7_doStep 141 = .ok (.iload_n 3, 1) := by decide +kernel
theorem dX7_doStep_142 : decode cX7_doStep 142 = .ok (.iaload, 1) := by decide +kernel
theorem dX7_doStep_143 : decode cX7_doStep 143 = .ok (.iload_n 1, 1) := by decide +kernel
theorem dX7_doStep_144 : decode cX7_doStep 144 = .ok (.if_icmp .ne 42, 3) := by decide +kernel
theorem dX7_doStep_147 : decode cX7_doStep 147 = .ok (.aload_n 0, 1) := by decide +kernel
theorem dX7_doStep_148 : decode cX7_doStep 148 = .ok (.iload_n 3, 1) := by decide +kernel
theorem dX7_doStep_149 : decode cX7_doStep 149 = .ok (.invokevirtual 162, 3) := by decide +kernel
theorem dX7_doStep_152 : decode cX7_doStep 152 = .ok (.goto 34, 3) := by decide +kernel
theorem dX7_doStep_155 : decode cX7_doStep 155 = .ok (.aload_n 0, 1) := by decide +kernel
theorem dX7_doStep_156 : decode cX7_doStep 156 = .ok (.iload_n 3, 1) := by decide +kernel
theorem dX7_doStep_157 : decode cX7_doStep 157 = .ok (.invokevirtual 196, 3) := by decide +kernel
theorem dX7_doStep_160 : decode cX7_doStep 160 = .ok (.goto 26, 3) := by decide +kernel
theorem dX7_doStep_163 : decode cX7_doStep 163 = .ok (.aload_n 0, 1) := by decide +kernel
theorem dX7_doStep_164 : decode cX7_doStep 164 = .ok (.getfield 91, 3) := by decide +kernel
theorem dX7_doStep_167 : decode cX7_doStep 167 = .ok (.iload_n 3, 1) := by decide +kernel
theorem dX7_doStep_168 : decode cX7_doStep 168 = .ok (.dup2, 1) := by decide +kernel
theorem dX7_doStep_169 : decode cX7_doStep 169 = .ok (.iaload, 1) := by decide +kernel
theorem dX7_doStep_170 : decode cX7_doStep 170 = .ok (.iconst 1, 1) := by decide +kernel
theorem dX7_doStep_171 : decode cX7_doStep 171 = .ok (.isub, 1) := by decide +kernel
theorem dX7_doStep_172 : decode cX7_doStep 172 = .ok (.iastore, 1) := by decide +kernel
theorem dX7_doStep_173 : decode cX7_doStep 173 = .ok (.goto 13, 3) := by decide +kernel
theorem dX7_doStep_176 : decode cX7_doStep 176 = .ok (.aload_n 0, 1) := by decide +kernel
theorem dX7_doStep_177 : decode cX7_doStep 177 = .ok (.iload_n 1, 1) := by decide +kernel
theorem dX7_doStep_178 : decode cX7_doStep 178 = .ok (.invokevirtual 159, 3) := by decide +kernel
theorem dX7_doStep_181 : decode cX7_doStep 181 = .ok (.aload_n 0, 1) := by decide +kernel
theorem dX7_doStep_182 : decode cX7_doStep 182 = .ok (.iload_n 1, 1) := by decide +kernel
theorem dX7_doStep_183 : decode cX7_doStep 183 = .ok (.invokevirtual 146, 3) := by decide +kernel
theorem dX7_doStep_186 : decode cX7_doStep 186 = .ok (.return_, 1) := by decide +kernel
theorem dX7_tickOnce_0 : decode cX7_tickOnce 0 = .ok (.iconst 0, 1) := by decide +kernel
theorem dX7_tickOnce_1 : decode cX7_tickOnce 1 = .ok (.istore_n 1, 1) := by decide +kernel
theorem dX7_tickOnce_2 : decode cX7_tickOnce 2 = .ok (.iload_n 1, 1) := by decide +kernel
theorem dX7_tickOnce_3 : decode cX7_tickOnce 3 = .ok (.iconst 4, 1) := by decide +kernel
theorem dX7_tickOnce_4 : decode cX7_tickOnce 4 = .ok (.if_icmp .ge 28, 3) := by decide +kernel
theorem dX7_tickOnce_7 : decode cX7_tickOnce 7 = .ok (.aload_n 0, 1) := by decide +kernel
theorem dX7_tickOnce_8 : decode cX7_tickOnce 8 = .ok (.getfield 95, 3) := by decide +kernel
theorem dX7_tickOnce_11 : decode cX7_tickOnce 11 = .ok (.aload_n 0, 1) := by decide +kernel
theorem dX7_tickOnce_12 : decode cX7_tickOnce 12 = .ok (.getfield 13, 3) := by decide +kernel
theorem dX7_tickOnce_15 : decode cX7_tickOnce 15 = .ok (.irem, 1) := by decide +kernel
theorem dX7_tickOnce_16 : decode cX7_tickOnce 16 = .ok (.ifCond .ne 16, 3) := by decide +kernel
theorem dX7_tickOnce_19 : decode cX7_tickOnce 19 = .ok (.aload_n 0, 1) := by decide +kernel
theorem dX7_tickOnce_20 : decode cX7_tickOnce 20 = .ok (.getfield 23, 3) := by decide +kernel
theorem dX7_tickOnce_23 : decode cX7_tickOnce 23 = .ok (.iload_n 1, 1) := by decide +kernel
theorem dX7_tickOnce_24 : decode cX7_tickOnce 24 = .ok (.iconst 0, 1) := by decide +kernel
theorem dX7_tickOnce_25 : decode cX7_tickOnce 25 = .ok (.iastore, 1) := by decide +kernel
theorem dX7_tickOnce_26 : decode cX7_tickOnce 26 = .ok (.iinc 1 1, 3) := by decide +kernel
theorem dX7_tickOnce_29 : decode cX7_tickOnce 29 = .ok (.goto (-27), 3) := by decide +kernel
theorem dX7_tickOnce_32 : decode cX7_tickOnce 32 = .ok (.iconst 0, 1) := by decide +kernel
theorem dX7_tickOnce_33 : decode cX7_tickOnce 33 = .ok (.istore_n 1, 1) := by decide +kernel
theorem dX7_tickOnce_34 : decode cX7_tickOnce 34 = .ok (.iload_n 1, 1) := by decide +kernel
theorem dX7_tickOnce_35 : decode cX7_tickOnce 35 = .ok (.aload_n 0, 1) := by decide +kernel
theorem dX7_tickOnce_36 : decode cX7_tickOnce 36 = .ok (.getfield 110, 3) := by decide +kernel
theorem dX7_tickOnce_39 : decode cX7_tickOnce 39 = .ok (.if_icmp .ge 43, 3) := by decide +kernel
theorem dX7_tickOnce_42 : decode cX7_tickOnce 42 = .ok (.aload_n 0, 1) := by decide +kernel
theorem dX7_tickOnce_43 : decode cX7_tickOnce 43 = .ok (.getfield 98, 3) := by decide +kernel
theorem dX7_tickOnce_46 : decode cX7_tickOnce 46 = .ok (.iconst 1, 1) := by decide +kernel
theorem dX7_tickOnce_47 : decode cX7_tickOnce 47 = .ok (.if_icmp .ne 35, 3) := by decide +kernel
theorem dX7_tickOnce_50 : decode cX7_tickOnce 50 = .ok (.aload_n 0, 1) := by decide +kernel
theorem dX7_tickOnce_51 : decode cX7_tickOnce 51 = .ok (.getfield 101, 3) := by decide +kernel
theorem dX7_tickOnce_54 : decode cX7_tickOnce 54 = .ok (.ifCond .le 28, 3) := by decide +kernel
theorem dX7_tickOnce_57 : decode cX7_tickOnce 57 = .ok (.aload_n 0, 1) := by decide +kernel
theorem dX7_tickOnce_58 : decode cX7_tickOnce 58 = .ok (.getfield 95, 3) := by decide +kernel
theorem dX7_tickOnce_61 : decode cX7_tickOnce 61 = .ok (.aload_n 0, 1) := by decide +kernel
theorem dX7_tickOnce_62 : decode cX7_tickOnce 62 = .ok (.getfield 101, 3) := by decide +kernel
theorem dX7_tickOnce_65 : decode cX7_tickOnce 65 = .ok (.irem, 1) := by decide +kernel
theorem dX7_tickOnce_66 : decode cX7_tickOnce 66 = .ok (.ifCond .ne 16, 3) := by decide +kernel
theorem dX7_tickOnce_69 : decode cX7_tickOnce 69 = .ok (.aload_n 0, 1) := by decide +kernel
theorem dX7_tickOnce_70 : decode cX7_tickOnce 70 = .ok (.getfield 61, 3) := by decide +kernel
theorem dX7_tickOnce_73 : decode cX7_tickOnce 73 = .ok (.iload_n 1, 1) := by decide +kernel
theorem dX7_tickOnce_74 : decode cX7_tickOnce 74 = .ok (.iconst 0, 1) := by decide +kernel
theorem dX7_tickOnce_75 : decode cX7_tickOnce 75 = .ok (.iastore, 1) := by decide +kernel
theorem dX7_tickOnce_76 : decode cX7_tickOnce 76 = .ok (.iinc 1 1, 3) := by decide +kernel
theorem dX7_tickOnce_79 : decode cX7_tickOnce 79 = .ok (.goto (-45), 3) := by decide +kernel
theorem dX7_tickOnce_82 : decode cX7_tickOnce 82 = .ok (.iconst 0, 1) := by decide +kernel
theorem dX7_tickOnce_83 : decode cX7_tickOnce 83 = .ok (.istore_n 1, 1) := by decide +kernel
theorem dX7_tickOnce_84 : decode cX7_tickOnce 84 = .ok (.iload_n 1, 1) := by decide +kernel
theorem dX7_tickOnce_85 : decode cX7_tickOnce 85 = .ok (.aload_n 0, 1) := by decide +kernel
theorem dX7_tickOnce_86 : decode cX7_tickOnce 86 = .ok (.getfield 110, 3) := by decide +kernel
theorem dX7_tickOnce_89 : decode cX7_tickOnce 89 = .ok (.if_icmp .ge 37, 3) := by decide +kernel
theorem dX7_tickOnce_92 : decode cX7_tickOnce 92 = .ok (.aload_n 0, 1) := by decide +kernel
theorem dX7_tickOnce_93 : decode cX7_tickOnce 93 = .ok (.getfield 46, 3) := by decide +kernel
theorem dX7_tickOnce_96 : decode cX7_tickOnce 96 = .ok (.iload_n 1, 1) := by decide +kernel
theorem dX7_tickOnce_97 : decode cX7_tickOnce 97 = .ok (.iaload, 1) := by decide +kernel
theorem dX7_tickOnce_98 : decode cX7_tickOnce 98 = .ok (.iconst 3, 1) := by decide +kernel
theorem dX7_tickOnce_99 : decode cX7_tickOnce 99 = .ok (.if_icmp .ne 21, 3) := by decide +kernel
theorem dX7_tickOnce_102 : decode cX7_tickOnce 102 = .ok (.aload_n 0, 1) := by decide +kernel
theorem dX7_tickOnce_103 : decode cX7_tickOnce 103 = .ok (.getfield 67, 3) := by decide +kernel
theorem dX7_tickOnce_106 : decode cX7_tickOnce 106 = .ok (.iload_n 1, 1) := by decide +kernel
theorem dX7_tickOnce_107 : decode cX7_tickOnce 107 = .ok (.iaload, 1) := by decide +kernel
theorem dX7_tickOnce_108 : decode cX7_tickOnce 108 = .ok (.aload_n 0, 1) := by decide +kernel
theorem dX7_tickOnce_109 : decode cX7_tickOnce 109 = .ok (.getfield 95, 3) := by decide +kernel
theorem dX7_tickOnce_112 : decode cX7_tickOnce 112 = .ok (.if_icmp .gt 8, 3) := by decide +kernel
theorem dX7_tickOnce_115 : decode cX7_tickOnce 115 = .ok (.aload_n 0, 1) := by decide +kernel
theorem dX7_tickOnce_116 : decode cX7_tickOnce 116 = .ok (.iload_n 1, 1) := by decide +kernel
theorem dX7_tickOnce_117 : decode cX7_tickOnce 117 = .ok (.invokevirtual 156, 3) := by decide +kernel
theorem dX7_tickOnce_120 : decode cX7_tickOnce 120 = .ok (.iinc 1 1, 3) := by decide +kernel
theorem dX7_tickOnce_123 : decode cX7_tickOnce 123 = .ok (.goto (-39), 3) := by decide +kernel
theorem dX7_tickOnce_126 : decode cX7_tickOnce 126 = .ok (.aload_n 0, 1) := by decide +kernel
theorem dX7_tickOnce_127 : decode cX7_tickOnce 127 = .ok (.invokevirtual 199, 3) := by decide +kernel
theorem dX7_tickOnce_130 : decode cX7_tickOnce 130 = .ok (.aload_n 0, 1) := by decide +kernel
theorem dX7_tickOnce_131 : decode cX7_tickOnce 131 = .ok (.invokevirtual 202, 3) := by decide +kernel
theorem dX7_tickOnce_134 : decode cX7_tickOnce 134 = .ok (.bipush 29, 2) := by decide +kernel
theorem dX7_tickOnce_136 : decode cX7_tickOnce 136 = .ok (.istore_n 1, 1) := by decide +kernel
theorem dX7_tickOnce_137 : decode cX7_tickOnce 137 = .ok (.iload_n 1, 1) := by decide +kernel
theorem dX7_tickOnce_138 : decode cX7_tickOnce 138 = .ok (.ifCond .le 29, 3) := by decide +kernel
theorem dX7_tickOnce_141 : decode cX7_tickOnce 141 = .ok (.aload_n 0, 1) := by decide +kernel
theorem dX7_tickOnce_142 : decode cX7_tickOnce 142 = .ok (.getfield 85, 3) := by decide +kernel
theorem dX7_tickOnce_145 : decode cX7_tickOnce 145 = .ok (.iload_n 1, 1) := by decide +kernel
theorem dX7_tickOnce_146 : decode cX7_tickOnce 146 = .ok (.iconst 1, 1) := by decide +kernel
theorem dX7_tickOnce_147 : decode cX7_tickOnce 147 = .ok (.isub, 1) := by decide +kernel
theorem dX7_tickOnce_148 : decode cX7_tickOnce 148 = .ok (.aaload, 1) := by decide +kernel
theorem dX7_tickOnce_149 : decode cX7_tickOnce 149 = .ok (.iconst 0, 1) := by decide +kernel
theorem dX7_tickOnce_150 : decode cX7_tickOnce 150 = .ok (.aload_n 0, 1) := by decide +kernel
theorem dX7_tickOnce_151 : decode cX7_tickOnce 151 = .ok (.getfield 85, 3) := by decide +kernel
theorem dX7_tickOnce_154 : decode cX7_tickOnce 154 = .ok (.iload_n 1, 1) := by decide +kernel
theorem dX7_tickOnce_155 : decode cX7_tickOnce 155 = .ok (.aaload, 1) := by decide +kernel
theorem dX7_tickOnce_156 : decode cX7_tickOnce 156 = .ok (.iconst 0, 1) := by decide +kernel
theorem dX7_tickOnce_157 : decode cX7_tickOnce 157 = .ok (.iconst 3, 1) := by decide +kernel
theorem dX7_tickOnce_158 : decode cX7_tickOnce 158 = .ok (.invokestatic 114, 3) := by decide +kernel
theorem dX7_tickOnce_161 : decode cX7_tickOnce 161 = .ok (.iinc 1 (-1), 3) := by decide +kernel
theorem dX7_tickOnce_164 : decode cX7_tickOnce 164 = .ok (.goto (-27), 3) := by decide +kernel
theorem dX7_tickOnce_167 : decode cX7_tickOnce 167 = .ok (.iconst 0, 1) := by decide +kernel
theorem dX7_tickOnce_168 : decode cX7_tickOnce 168 = .ok (.istore_n 1, 1) := by decide +kernel
theorem dX7_tickOnce_169 : decode cX7_tickOnce 169 = .ok (.iload_n 1, 1) := by decide +kernel
theorem dX7_tickOnce_170 : decode cX7_tickOnce 170 = .ok (.iconst 3, 1) := by decide +kernel
theorem dX7_tickOnce_171 : decode cX7_tickOnce 171 = .ok (.if_icmp .ge 18, 3) := by decide +kernel
theorem dX7_tickOnce_174 : decode cX7_tickOnce 174 = .ok (.aload_n 0, 1) := by decide +kernel
theorem dX7_tickOnce_175 : decode cX7_tickOnce 175 = .ok (.getfield 85, 3) := by decide +kernel
theorem dX7_tickOnce_178 : decode cX7_tickOnce 178 = .ok (.iconst 0, 1) := by decide +kernel
theorem dX7_tickOnce_179 : decode cX7_tickOnce 179 = .ok (.aaload, 1) := by decide +kernel
theorem dX7_tickOnce_180 : decode cX7_tickOnce 180 = .ok (.iload_n 1, 1) := by decide +kernel
theorem dX7_tickOnce_181 : decode cX7_tickOnce 181 = .ok (.iconst (-1), 1) := by decide +kernel
theorem dX7_tickOnce_182 : decode cX7_tickOnce 182 = .ok (.iastore, 1) := by decide +kernel
theorem dX7_tickOnce_183 : decode cX7_tickOnce 183 = .ok (.iinc 1 1, 3) := by decide +kernel
theorem dX7_tickOnce_186 : decode cX7_tickOnce 186 = .ok (.goto (-17), 3) := by decide +kernel
theorem dX7_tickOnce_189 : decode cX7_tickOnce 189 = .ok (.iconst 0, 1) := by decide +kernel
theorem dX7_tickOnce_190 : decode cX7_tickOnce 190 = .ok (.istore_n 1, 1) := by decide +kernel
theorem dX7_tickOnce_191 : decode cX7_tickOnce 191 = .ok (.iload_n 1, 1) := by decide +kernel
theorem dX7_tickOnce_192 : decode cX7_tickOnce 192 = .ok (.aload_n 0, 1) := by decide +kernel
theorem dX7_tickOnce_193 : decode cX7_tickOnce 193 = .ok (.getfield 16, 3) := by decide +kernel
theorem dX7_tickOnce_196 : decode cX7_tickOnce 196 = .ok (.if_icmp .ge 101, 3) := by decide +kernel
theorem dX7_tickOnce_199 : decode cX7_tickOnce 199 = .ok (.aload_n 0, 1) := by decide +kernel
theorem dX7_tickOnce_200 : decode cX7_tickOnce 200 = .ok (.getfield 79, 3) := by decide +kernel
theorem dX7_tickOnce_203 : decode cX7_tickOnce 203 = .ok (.iload_n 1, 1) := by decide +kernel
theorem dX7_tickOnce_204 : decode cX7_tickOnce 204 = .ok (.iaload, 1) := by decide +kernel
theorem dX7_tickOnce_205 : decode cX7_tickOnce 205 = .ok (.istore_n 2, 1) := by decide +kernel
theorem dX7_tickOnce_206 : decode cX7_tickOnce 206 = .ok (.iload_n 2, 1) := by decide +kernel
theorem dX7_tickOnce_207 : decode cX7_tickOnce 207 = .ok (.iconst (-1), 1) := by decide +kernel
theorem dX7_tickOnce_208 : decode cX7_tickOnce 208 = .ok (.if_icmp .eq 21, 3) := by decide +kernel
theorem dX7_tickOnce_211 : decode cX7_tickOnce 211 = .ok (.aload_n 0, 1) := by decide +kernel
theorem dX7_tickOnce_212 : decode cX7_tickOnce 212 = .ok (.iload_n 2, 1) := by decide +kernel
theorem dX7_tickOnce_213 : decode cX7_tickOnce 213 = .ok (.iload_n 1, 1) := by decide +kernel
theorem dX7_tickOnce_214 : decode cX7_tickOnce 214 = .ok (.invokevirtual 205, 3) := by decide +kernel
theorem dX7_tickOnce_217 : decode cX7_tickOnce 217 = .ok (.ifCond .eq 12, 3) := by decide +kernel
theorem dX7_tickOnce_220 : decode cX7_tickOnce 220 = .ok (.aload_n 0, 1) := by decide +kernel
theorem dX7_tickOnce_221 : decode cX7_tickOnce 221 = .ok (.getfield 85, 3) := by decide +kernel
theorem dX7_tickOnce_224 : decode cX7_tickOnce 224 = .ok (.iconst 0, 1) := by decide +kernel
theorem dX7_tickOnce_225 : decode cX7_tickOnce 225 = .ok (.aaload, 1) := by decide +kernel
theorem dX7_tickOnce_226 : decode cX7_tickOnce 226 = .ok (.iload_n 1, 1) := by decide +kernel
theorem dX7_tickOnce_227 : decode cX7_tickOnce 227 = .ok (.iload_n 2, 1) := by decide +kernel
theorem dX7_tickOnce_228 : decode cX7_tickOnce 228 = .ok (.iastore, 1) := by decide +kernel
theorem dX7_tickOnce_229 : decode cX7_tickOnce 229 = .ok (.aload_n 0, 1) := by decide +kernel
theorem dX7_tickOnce_230 : decode cX7_tickOnce 230 = .ok (.dup, 1) := by decide +kernel
theorem dX7_tickOnce_231 : decode cX7_tickOnce 231 = .ok (.getfield 209, 3) := by decide +kernel
theorem dX7_tickOnce_234 : decode cX7_tickOnce 234 = .ok (.aload_n 0, 1) := by decide +kernel
theorem dX7_tickOnce_235 : decode cX7_tickOnce 235 = .ok (.getfield 85, 3) := by decide +kernel
theorem dX7_tickOnce_238 : decode cX7_tickOnce 238 = .ok (.iconst 0, 1) := by decide +kernel
theorem dX7_tickOnce_239 : decode cX7_tickOnce 239 = .ok (.aaload, 1) := by decide +kernel
theorem dX7_tickOnce_240 : decode cX7_tickOnce 240 = .ok (.iload_n 1, 1) := by decide +kernel
theorem dX7_tickOnce_241 : decode cX7_tickOnce 241 = .ok (.iaload, 1) := by decide +kernel
theorem dX7_tickOnce_242 : decode cX7_tickOnce 242 = .ok (.iconst (-1), 1) := by decide +kernel
theorem dX7_tickOnce_243 : decode cX7_tickOnce 243 = .ok (.if_icmp .ne 7, 3) := by decide +kernel
theorem dX7_tickOnce_246 : decode cX7_tickOnce 246 = .ok (.iconst 1, 1) := by decide +kernel
theorem dX7_tickOnce_247 : decode cX7_tickOnce 247 = .ok (.goto 4, 3) := by decide +kernel
theorem dX7_tickOnce_250 : decode cX7_tickOnce 250 = .ok (.iconst 0, 1) := by decide +kernel
theorem dX7_tickOnce_251 : decode cX7_tickOnce 251 = .ok (.iadd, 1) := by decide +kernel
theorem dX7_tickOnce_252 : decode cX7_tickOnce 252 = .ok (.putfield 209, 3) := by decide +kernel
theorem dX7_tickOnce_255 : decode cX7_tickOnce 255 = .ok (.aload_n 0, 1) := by decide +kernel
theorem dX7_tickOnce_256 : decode cX7_tickOnce 256 = .ok (.dup, 1) := by decide +kernel
theorem dX7_tickOnce_257 : decode cX7_tickOnce 257 = .ok (.getfield 212, 3) := by decide +kernel
theorem dX7_tickOnce_260 : decode cX7_tickOnce 260 = .ok (.aload_n 0, 1) := by decide +kernel
theorem dX7_tickOnce_261 : decode cX7_tickOnce 261 = .ok (.getfield 85, 3) := by decide +kernel
theorem dX7_tickOnce_264 : decode cX7_tickOnce 264 = .ok (.iconst 0, 1) := by decide +kernel
theorem dX7_tickOnce_265 : decode cX7_tickOnce 265 = .ok (.aaload, 1) := by decide +kernel
theorem dX7_tickOnce_266 : decode cX7_tickOnce 266 = .ok (.iload_n 1, 1) := by decide +kernel
theorem dX7_tickOnce_267 : decode cX7_tickOnce 267 = .ok (.iaload, 1) := by decide +kernel
theorem dX7_tickOnce_268 : decode cX7_tickOnce 268 = .ok (.iconst (-1), 1) := by decide +kernel
theorem dX7_tickOnce_269 : decode cX7_tickOnce 269 = .ok (.if_icmp .ne 7, 3) := by decide +kernel
theorem dX7_tickOnce_272 : decode cX7_tickOnce 272 = .ok (.iconst 0, 1) := by decide +kernel
theorem dX7_tickOnce_273 : decode cX7_tickOnce 273 = .ok (.goto 4, 3) := by decide +kernel
theorem dX7_tickOnce_276 : decode cX7_tickOnce 276 = .ok (.iconst 1, 1) := by decide +kernel
theorem dX7_tickOnce_277 : decode cX7_tickOnce 277 = .ok (.iadd, 1) := by decide +kernel
theorem dX7_tickOnce_278 : decode cX7_tickOnce 278 = .ok (.putfield 212, 3) := by decide +kernel
theorem dX7_tickOnce_281 : decode cX7_tickOnce 281 = .ok (.aload_n 0, 1) := by decide +kernel
theorem dX7_tickOnce_282 : decode cX7_tickOnce 282 = .ok (.dup, 1) := by decide +kernel
theorem dX7_tickOnce_283 : decode cX7_tickOnce 283 = .ok (.getfield 215, 3) := by decide +kernel
theorem dX7_tickOnce_286 : decode cX7_tickOnce 286 = .ok (.iconst 1, 1) := by decide +kernel
theorem dX7_tickOnce_287 : decode cX7_tickOnce 287 = .ok (.iadd, 1) := by decide +kernel
theorem dX7_tickOnce_288 : decode cX7_tickOnce 288 = .ok (.putfield 215, 3) := by decide +kernel
theorem dX7_tickOnce_291 : decode cX7_tickOnce 291 = .ok (.iinc 1 1, 3) := by decide +kernel
theorem dX7_tickOnce_294 : decode cX7_tickOnce 294 = .ok (.goto (-103), 3) := by decide +kernel
theorem dX7_tickOnce_297 : decode cX7_tickOnce 297 = .ok (.iconst 0, 1) := by decide +kernel
theorem dX7_tickOnce_298 : decode cX7_tickOnce 298 = .ok (.istore_n 1, 1) := by decide +kernel
theorem dX7_tickOnce_299 : decode cX7_tickOnce 299 = .ok (.iload_n 1, 1) := by decide +kernel
theorem dX7_tickOnce_300 : decode cX7_tickOnce 300 = .ok (.aload_n 0, 1) := by decide +kernel
theorem dX7_tickOnce_301 : decode cX7_tickOnce 301 = .ok (.getfield 110, 3) := by decide +kernel
theorem dX7_tickOnce_304 : decode cX7_tickOnce 304 = .ok (.if_icmp .ge 61, 3) := by decide +kernel
theorem dX7_tickOnce_307 : decode cX7_tickOnce 307 = .ok (.aload_n 0, 1) := by decide +kernel
theorem dX7_tickOnce_308 : decode cX7_tickOnce 308 = .ok (.getfield 76, 3) := by decide +kernel
theorem dX7_tickOnce_311 : decode cX7_tickOnce 311 = .ok (.iload_n 1, 1) := by decide +kernel
theorem dX7_tickOnce_312 : decode cX7_tickOnce 312 = .ok (.aaload, 1) := by decide +kernel
theorem dX7_tickOnce_313 : decode cX7_tickOnce 313 = .ok (.iconst 1, 1) := by decide +kernel
theorem dX7_tickOnce_314 : decode cX7_tickOnce 314 = .ok (.dup2, 1) := by decide +kernel
theorem dX7_tickOnce_315 : decode cX7_tickOnce 315 = .ok (.iaload, 1) := by decide +kernel
theorem dX7_tickOnce_316 : decode cX7_tickOnce 316 = .ok (.aload_n 0, 1) := by decide +kernel
theorem dX7_tickOnce_317 : decode cX7_tickOnce 317 = .ok (.getfield 46, 3) := by decide +kernel
theorem dX7_tickOnce_320 : decode cX7_tickOnce 320 = .ok (.iload_n 1, 1) := by decide +kernel
theorem dX7_tickOnce_321 : decode cX7_tickOnce 321 = .ok (.iaload, 1) := by decide +kernel
theorem dX7_tickOnce_322 : decode cX7_tickOnce 322 = .ok (.iconst 1, 1) := by decide +kernel
theorem dX7_tickOnce_323 : decode cX7_tickOnce 323 = .ok (.if_icmp .ne 7, 3) := by decide +kernel
theorem dX7_tickOnce_326 : decode cX7_tickOnce 326 = .ok (.iconst 1, 1) := by decide +kernel
theorem dX7_tickOnce_327 : decode cX7_tickOnce 327 = .ok (.goto 4, 3) := by decide +kernel
theorem dX7_tickOnce_330 : decode cX7_tickOnce 330 = .ok (.iconst 0, 1) := by decide +kernel
theorem dX7_tickOnce_331 : decode cX7_tickOnce 331 = .ok (.iadd, 1) := by decide +kernel
theorem dX7_tickOnce_332 : decode cX7_tickOnce 332 = .ok (.iastore, 1) := by decide +kernel
theorem dX7_tickOnce_333 : decode cX7_tickOnce 333 = .ok (.aload_n 0, 1) := by decide +kernel
theorem dX7_tickOnce_334 : decode cX7_tickOnce 334 = .ok (.getfield 76, 3) := by decide +kernel
theorem dX7_tickOnce_337 : decode cX7_tickOnce 337 = .ok (.iload_n 1, 1) := by decide +kernel
theorem dX7_tickOnce_338 : decode cX7_tickOnce 338 = .ok (.aaload, 1) := by decide +kernel
theorem dX7_tickOnce_339 : decode cX7_tickOnce 339 = .ok (.iconst 2, 1) := by decide +kernel
theorem dX7_tickOnce_340 : decode cX7_tickOnce 340 = .ok (.dup2, 1) := by decide +kernel
theorem dX7_tickOnce_341 : decode cX7_tickOnce 341 = .ok (.iaload, 1) := by decide +kernel
theorem dX7_tickOnce_342 : decode cX7_tickOnce 342 = .ok (.aload_n 0, 1) := by decide +kernel
theorem dX7_tickOnce_343 : decode cX7_tickOnce 343 = .ok (.getfield 46, 3) := by decide +kernel
theorem dX7_tickOnce_346 : decode cX7_tickOnce 346 = .ok (.iload_n 1, 1) := by decide +kernel
theorem dX7_tickOnce_347 : decode cX7_tickOnce 347 = .ok (.iaload, 1) := by decide +kernel
theorem dX7_tickOnce_348 : decode cX7_tickOnce 348 = .ok (.iconst 4, 1) := by decide +kernel
theorem dX7_tickOnce_349 : decode cX7_tickOnce 349 = .ok (.if_icmp .ne 7, 3) := by decide +kernel
theorem dX7_tickOnce_352 : decode cX7_tickOnce 352 = .ok (.iconst 1, 1) := by decide +kernel
theorem dX7_tickOnce_353 : decode cX7_tickOnce 353 = .ok (.goto 4, 3) := by decide +kernel
theorem dX7_tickOnce_356 : decode cX7_tickOnce 356 = .ok (.iconst 0, 1) := by decide +kernel
theorem dX7_tickOnce_357 : decode cX7_tickOnce 357 = .ok (.iadd, 1) := by decide +kernel
theorem dX7_tickOnce_358 : decode cX7_tickOnce 358 = .ok (.iastore, 1) := by decide +kernel
theorem dX7_tickOnce_359 : decode cX7_tickOnce 359 = .ok (.iinc 1 1, 3) := by decide +kernel
theorem dX7_tickOnce_362 : decode cX7_tickOnce 362 = .ok (.goto (-63), 3) := by decide +kernel
theorem dX7_tickOnce_365 : decode cX7_tickOnce 365 = .ok (.aload_n 0, 1) := by decide +kernel
theorem dX7_tickOnce_366 : decode cX7_tickOnce 366 = .ok (.dup, 1) := by decide +kernel
theorem dX7_tickOnce_367 : decode cX7_tickOnce 367 = .ok (.getfield 95, 3) := by decide +kernel
theorem dX7_tickOnce_370 : decode cX7_tickOnce 370 = .ok (.iconst 1, 1) := by decide +kernel
theorem dX7_tickOnce_371 : decode cX7_tickOnce 371 = .ok (.iadd, 1) := by decide +kernel
theorem dX7_tickOnce_372 : decode cX7_tickOnce 372 = .ok (.putfield 95, 3) := by decide +kernel
theorem dX7_tickOnce_375 : decode cX7_tickOnce 375 = .ok (.return_, 1) := by decide +kernel
theorem dX7_setProcessors_0 : decode cX7_setProcessors 0 = .ok (.aload_n 0, 1) := by decide +kernel
theorem dX7_setProcessors_1 : decode cX7_setProcessors 1 = .ok (.iconst 0, 1) := by decide +kernel
theorem dX7_setProcessors_2 : decode cX7_setProcessors 2 = .ok (.putfield 120, 3) := by decide +kernel
theorem dX7_setProcessors_5 : decode cX7_setProcessors 5 = .ok (.iload_n 1, 1) := by decide +kernel
theorem dX7_setProcessors_6 : decode cX7_setProcessors 6 = .ok (.iconst 1, 1) := by decide +kernel
theorem dX7_setProcessors_7 : decode cX7_setProcessors 7 = .ok (.iconst 3, 1) := by decide +kernel
theorem dX7_setProcessors_8 : decode cX7_setProcessors 8 = .ok (.invokestatic 123, 3) := by decide +kernel
theorem dX7_setProcessors_11 : decode cX7_setProcessors 11 = .ok (.ifCond .ne 9, 3) := by decide +kernel
theorem dX7_setProcessors_14 : decode cX7_setProcessors 14 = .ok (.aload_n 0, 1) := by decide +kernel
theorem dX7_setProcessors_15 : decode cX7_setProcessors 15 = .ok (.iconst 1, 1) := by decide +kernel
theorem dX7_setProcessors_16 : decode cX7_setProcessors 16 = .ok (.invokevirtual 218, 3) := by decide +kernel
theorem dX7_setProcessors_19 : decode cX7_setProcessors 19 = .ok (.ireturn, 1) := by decide +kernel
theorem dX7_setProcessors_20 : decode cX7_setProcessors 20 = .ok (.aload_n 0, 1) := by decide +kernel
theorem dX7_setProcessors_21 : decode cX7_setProcessors 21 = .ok (.getfield 16, 3) := by decide +kernel
theorem dX7_setProcessors_24 : decode cX7_setProcessors 24 = .ok (.istore_n 2, 1) := by decide +kernel
theorem dX7_setProcessors_25 : decode cX7_setProcessors 25 = .ok (.iconst 0, 1) := by decide +kernel
theorem dX7_setProcessors_26 : decode cX7_setProcessors 26 = .ok (.istore_n 3, 1) := by decide +kernel
theorem dX7_setProcessors_27 : decode cX7_setProcessors 27 = .ok (.iload_n 3, 1) := by decide +kernel
theorem dX7_setProcessors_28 : decode cX7_setProcessors 28 = .ok (.iconst 3, 1) := by decide +kernel
theorem dX7_setProcessors_29 : decode cX7_setProcessors 29 = .ok (.if_icmp .ge 41, 3) := by decide +kernel
theorem dX7_setProcessors_32 : decode cX7_setProcessors 32 = .ok (.aload_n 0, 1) := by decide +kernel
theorem dX7_setProcessors_33 : decode cX7_setProcessors 33 = .ok (.getfield 79, 3) := by decide +kernel
theorem dX7_setProcessors_36 : decode cX7_setProcessors 36 = .ok (.iload_n 3, 1) := by decide +kernel
theorem dX7_setProcessors_37 : decode cX7_setProcessors 37 = .ok (.iaload, 1) := by decide +kernel
theorem dX7_setProcessors_38 : decode cX7_setProcessors 38 = .ok (.iconst (-1), 1) := by decide +kernel
theorem dX7_setProcessors_39 : decode cX7_setProcessors 39 = .ok (.if_icmp .ne 6, 3) := by decide +kernel
theorem dX7_setProcessors_42 : decode cX7_setProcessors 42 = .ok (.goto 22, 3) := by decide +kernel
theorem dX7_setProcessors_45 : decode cX7_setProcessors 45 = .ok (.aload_n 0, 1) := by decide +kernel
theorem dX7_setProcessors_46 : decode cX7_setProcessors 46 = .ok (.getfield 46, 3) := by decide +kernel
theorem dX7_setProcessors_49 : decode cX7_setProcessors 49 = .ok (.aload_n 0, 1) := by decide +kernel
theorem dX7_setProcessors_50 : decode cX7_setProcessors 50 = .ok (.getfield 79, 3) := by decide +kernel
theorem dX7_setProcessors_53 : decode cX7_setProcessors 53 = .ok (.iload_n 3, 1) := by decide +kernel
theorem dX7_setProcessors_54 : decode cX7_setProcessors 54 = .ok (.iaload, 1) := by decide +kernel
theorem dX7_setProcessors_55 : decode cX7_setProcessors 55 = .ok (.iconst 1, 1) := by decide +kernel
theorem dX7_setProcessors_56 : decode cX7_setProcessors 56 = .ok (.iastore, 1) := by decide +kernel
theorem dX7_setProcessors_57 : decode cX7_setProcessors 57 = .ok (.aload_n 0, 1) := by decide +kernel
theorem dX7_setProcessors_58 : decode cX7_setProcessors 58 = .ok (.getfield 79, 3) := by decide +kernel
theorem dX7_setProcessors_61 : decode cX7_setProcessors 61 = .ok (.iload_n 3, 1) := by decide +kernel
theorem dX7_setProcessors_62 : decode cX7_setProcessors 62 = .ok (.iconst (-1), 1) := by decide +kernel
theorem dX7_setProcessors_63 : decode cX7_setProcessors 63 = .ok (.iastore, 1) := by decide +kernel
theorem dX7_setProcessors_64 : decode cX7_setProcessors 64 = .ok (.iinc 3 1, 3) := by decide +kernel
theorem dX7_setProcessors_67 : decode cX7_setProcessors 67 = .ok (.goto (-40), 3) := by decide +kernel
theorem dX7_setProcessors_70 : decode cX7_setProcessors 70 = .ok (.aload_n 0, 1) := by decide +kernel
theorem dX7_setProcessors_71 : decode cX7_setProcessors 71 = .ok (.iload_n 1, 1) := by decide +kernel
theorem dX7_setProcessors_72 : decode cX7_setProcessors 72 = .ok (.putfield 16, 3) := by decide +kernel
theorem dX7_setProcessors_75 : decode cX7_setProcessors 75 = .ok (.iload_n 2, 1) := by decide +kernel
theorem dX7_setProcessors_76 : decode cX7_setProcessors 76 = .ok (.ireturn, 1) := by decide +kernel
theorem dX7_setWay_0 : decode cX7_setWay 0 = .ok (.aload_n 0, 1) := by decide +kernel
theorem dX7_setWay_1 : decode cX7_setWay 1 = .ok (.iconst 0, 1) := by decide +kernel
theorem dX7_setWay_2 : decode cX7_setWay 2 = .ok (.putfield 120, 3) := by decide +kernel
theorem dX7_setWay_5 : decode cX7_setWay 5 = .ok (.iload_n 1, 1) := by decide +kernel
theorem dX7_setWay_6 : decode cX7_setWay 6 = .ok (.iconst 0, 1) := by decide +kernel
theorem dX7_setWay_7 : decode cX7_setWay 7 = .ok (.iconst 2, 1) := by decide +kernel
theorem dX7_setWay_8 : decode cX7_setWay 8 = .ok (.invokestatic 123, 3) := by decide +kernel
theorem dX7_setWay_11 : decode cX7_setWay 11 = .ok (.ifCond .eq 23, 3) := by decide +kernel
theorem dX7_setWay_14 : decode cX7_setWay 14 = .ok (.iload_n 2, 1) := by decide +kernel
theorem dX7_setWay_15 : decode cX7_setWay 15 = .ok (.iconst 1, 1) := by decide +kernel
theorem dX7_setWay_16 : decode cX7_setWay 16 = .ok (.bipush 10, 2) := by decide +kernel
theorem dX7_setWay_18 : decode cX7_setWay 18 = .ok (.invokestatic 123, 3) := by decide +kernel
theorem dX7_setWay_21 : decode cX7_setWay 21 = .ok (.ifCond .eq 13, 3) := by decide +kernel
theorem dX7_setWay_24 : decode cX7_setWay 24 = .ok (.iload_n 3, 1) := by decide +kernel
theorem dX7_setWay_25 : decode cX7_setWay 25 = .ok (.iconst 0, 1) := by decide +kernel
theorem dX7_setWay_26 : decode cX7_setWay 26 = .ok (.bipush 50, 2) := by decide +kernel
theorem dX7_setWay_28 : decode cX7_setWay 28 = .ok (.invokestatic 123, 3) := by decide +kernel
theorem dX7_setWay_31 : decode cX7_setWay 31 = .ok (.ifCond .ne 9, 3) := by decide +kernel
theorem dX7_setWay_34 : decode cX7_setWay 34 = .ok (.aload_n 0, 1) := by decide +kernel
theorem dX7_setWay_35 : decode cX7_setWay 35 = .ok (.iconst 1, 1) := by decide +kernel
theorem dX7_setWay_36 : decode cX7_setWay 36 = .ok (.invokevirtual 218, 3) := by decide +kernel
theorem dX7_setWay_39 : decode cX7_setWay 39 = .ok (.ireturn, 1) := by decide +kernel
theorem dX7_setWay_40 : decode cX7_setWay 40 = .ok (.aload_n 0, 1) := by decide +kernel
theorem dX7_setWay_41 : decode cX7_setWay 41 = .ok (.getfield 98, 3) := by decide +kernel
theorem dX7_setWay_44 : decode cX7_setWay 44 = .ok (.istore 4, 2) := by decide +kernel
theorem dX7_setWay_46 : decode cX7_setWay 46 = .ok (.aload_n 0, 1) := by decide +kernel
theorem dX7_setWay_47 : decode cX7_setWay 47 = .ok (.iload_n 1, 1) := by decide +kernel
theorem dX7_setWay_48 : decode cX7_setWay 48 = .ok (.putfield 98, 3) := by decide +kernel
theorem dX7_setWay_51 : decode cX7_setWay 51 = .ok (.aload_n 0, 1) := by decide +kernel
theorem dX7_setWay_52 : decode cX7_setWay 52 = .ok (.iload_n 2, 1) := by decide +kernel
theorem dX7_setWay_53 : decode cX7_setWay 53 = .ok (.putfield 7, 3) := by decide +kernel
theorem dX7_setWay_56 : decode cX7_setWay 56 = .ok (.aload_n 0, 1) := by decide +kernel
theorem dX7_setWay_57 : decode cX7_setWay 57 = .ok (.iload_n 3, 1) := by decide +kernel
theorem dX7_setWay_58 : decode cX7_setWay 58 = .ok (.putfield 101, 3) := by decide +kernel
theorem dX7_setWay_61 : decode cX7_setWay 61 = .ok (.iload 4, 2) := by decide +kernel
theorem dX7_setWay_63 : decode cX7_setWay 63 = .ok (.ireturn, 1) := by decide +kernel
theorem dX7_setQuota_0 : decode cX7_setQuota 0 = .ok (.aload_n 0, 1) := by decide +kernel
theorem dX7_setQuota_1 : decode cX7_setQuota 1 = .ok (.iconst 0, 1) := by decide +kernel
theorem dX7_setQuota_2 : decode cX7_setQuota 2 = .ok (.putfield 120, 3) := by decide +kernel
theorem dX7_setQuota_5 : decode cX7_setQuota 5 = .ok (.iload_n 1, 1) := by decide +kernel
theorem dX7_setQuota_6 : decode cX7_setQuota 6 = .ok (.iconst 0, 1) := by decide +kernel
theorem dX7_setQuota_7 : decode cX7_setQuota 7 = .ok (.iconst 3, 1) := by decide +kernel
theorem dX7_setQuota_8 : decode cX7_setQuota 8 = .ok (.invokestatic 123, 3) := by decide +kernel
theorem dX7_setQuota_11 : decode cX7_setQuota 11 = .ok (.ifCond .ne 9, 3) := by decide +kernel
theorem dX7_setQuota_14 : decode cX7_setQuota 14 = .ok (.aload_n 0, 1) := by decide +kernel
theorem dX7_setQuota_15 : decode cX7_setQuota 15 = .ok (.iconst 1, 1) := by decide +kernel
theorem dX7_setQuota_16 : decode cX7_setQuota 16 = .ok (.invokevirtual 218, 3) := by decide +kernel
theorem dX7_setQuota_19 : decode cX7_setQuota 19 = .ok (.ireturn, 1) := by decide +kernel
theorem dX7_setQuota_20 : decode cX7_setQuota 20 = .ok (.iload_n 2, 1) := by decide +kernel
theorem dX7_setQuota_21 : decode cX7_setQuota 21 = .ok (.iconst 0, 1) := by decide +kernel
theorem dX7_setQuota_22 : decode cX7_setQuota 22 = .ok (.bipush 50, 2) := by decide +kernel
theorem dX7_setQuota_24 : decode cX7_setQuota 24 = .ok (.invokestatic 123, 3) := by decide +kernel
theorem dX7_setQuota_27 : decode cX7_setQuota 27 = .ok (.ifCond .ne 9, 3) := by decide +kernel
theorem dX7_setQuota_30 : decode cX7_setQuota 30 = .ok (.aload_n 0, 1) := by decide +kernel
theorem dX7_setQuota_31 : decode cX7_setQuota 31 = .ok (.iconst 2, 1) := by decide +kernel
theorem dX7_setQuota_32 : decode cX7_setQuota 32 = .ok (.invokevirtual 218, 3) := by decide +kernel
theorem dX7_setQuota_35 : decode cX7_setQuota 35 = .ok (.ireturn, 1) := by decide +kernel
theorem dX7_setQuota_36 : decode cX7_setQuota 36 = .ok (.aload_n 0, 1) := by decide +kernel
theorem dX7_setQuota_37 : decode cX7_setQuota 37 = .ok (.getfield 19, 3) := by decide +kernel
theorem dX7_setQuota_40 : decode cX7_setQuota 40 = .ok (.iload_n 1, 1) := by decide +kernel
theorem dX7_setQuota_41 : decode cX7_setQuota 41 = .ok (.iaload, 1) := by decide +kernel
theorem dX7_setQuota_42 : decode cX7_setQuota 42 = .ok (.istore_n 3, 1) := by decide +kernel
theorem dX7_setQuota_43 : decode cX7_setQuota 43 = .ok (.aload_n 0, 1) := by decide +kernel
theorem dX7_setQuota_44 : decode cX7_setQuota 44 = .ok (.getfield 19, 3) := by decide +kernel
theorem dX7_setQuota_47 : decode cX7_setQuota 47 = .ok (.iload_n 1, 1) := by decide +kernel
theorem dX7_setQuota_48 : decode cX7_setQuota 48 = .ok (.iload_n 2, 1) := by decide +kernel
theorem dX7_setQuota_49 : decode cX7_setQuota 49 = .ok (.iastore, 1) := by decide +kernel
theorem dX7_setQuota_50 : decode cX7_setQuota 50 = .ok (.iload_n 3, 1) := by decide +kernel
theorem dX7_setQuota_51 : decode cX7_setQuota 51 = .ok (.ireturn, 1) := by decide +kernel
theorem dX7_setPeriod_0 : decode cX7_setPeriod 0 = .ok (.aload_n 0, 1) := by decide +kernel
theorem dX7_setPeriod_1 : decode cX7_setPeriod 1 = .ok (.iconst 0, 1) := by decide +kernel
theorem dX7_setPeriod_2 : decode cX7_setPeriod 2 = .ok (.putfield 120, 3) := by decide +kernel
theorem dX7_setPeriod_5 : decode cX7_setPeriod 5 = .ok (.iload_n 1, 1) := by decide +kernel
theorem dX7_setPeriod_6 : decode cX7_setPeriod 6 = .ok (.iconst 1, 1) := by decide +kernel
theorem dX7_setPeriod_7 : decode cX7_setPeriod 7 = .ok (.bipush 50, 2) := by decide +kernel
theorem dX7_setPeriod_9 : decode cX7_setPeriod 9 = .ok (.invokestatic 123, 3) := by decide +kernel
theorem dX7_setPeriod_12 : decode cX7_setPeriod 12 = .ok (.ifCond .ne 9, 3) := by decide +kernel
theorem dX7_setPeriod_15 : decode cX7_setPeriod 15 = .ok (.aload_n 0, 1) := by decide +kernel
theorem dX7_setPeriod_16 : decode cX7_setPeriod 16 = .ok (.iconst 1, 1) := by decide +kernel
theorem dX7_setPeriod_17 : decode cX7_setPeriod 17 = .ok (.invokevirtual 218, 3) := by decide +kernel
theorem dX7_setPeriod_20 : decode cX7_setPeriod 20 = .ok (.ireturn, 1) := by decide +kernel
theorem dX7_setPeriod_21 : decode cX7_setPeriod 21 = .ok (.aload_n 0, 1) := by decide +kernel
theorem dX7_setPeriod_22 : decode cX7_setPeriod 22 = .ok (.getfield 13, 3) := by decide +kernel
theorem dX7_setPeriod_25 : decode cX7_setPeriod 25 = .ok (.istore_n 2, 1) := by decide +kernel
theorem dX7_setPeriod_26 : decode cX7_setPeriod 26 = .ok (.aload_n 0, 1) := by decide +kernel
theorem dX7_setPeriod_27 : decode cX7_setPeriod 27 = .ok (.iload_n 1, 1) := by decide +kernel
theorem dX7_setPeriod_28 : decode cX7_setPeriod 28 = .ok (.putfield 13, 3) := by decide +kernel
theorem dX7_setPeriod_31 : decode cX7_setPeriod 31 = .ok (.iload_n 2, 1) := by decide +kernel
theorem dX7_setPeriod_32 : decode cX7_setPeriod 32 = .ok (.ireturn, 1) := by decide +kernel
theorem dX7_addTask_0 : decode cX7_addTask 0 = .ok (.aload_n 0, 1) := by decide +kernel
theorem dX7_addTask_1 : decode cX7_addTask 1 = .ok (.iconst 0, 1) := by decide +kernel
theorem dX7_addTask_2 : decode cX7_addTask 2 = .ok (.putfield 120, 3) := by decide +kernel
theorem dX7_addTask_5 : decode cX7_addTask 5 = .ok (.iload_n 1, 1) := by decide +kernel
theorem dX7_addTask_6 : decode cX7_addTask 6 = .ok (.iconst 0, 1) := by decide +kernel
theorem dX7_addTask_7 : decode cX7_addTask 7 = .ok (.bipush 7, 2) := by decide +kernel
theorem dX7_addTask_9 : decode cX7_addTask 9 = .ok (.invokestatic 123, 3) := by decide +kernel
theorem dX7_addTask_12 : decode cX7_addTask 12 = .ok (.ifCond .eq 21, 3) := by decide +kernel
theorem dX7_addTask_15 : decode cX7_addTask 15 = .ok (.iload_n 2, 1) := by decide +kernel
theorem dX7_addTask_16 : decode cX7_addTask 16 = .ok (.iconst 0, 1) := by decide +kernel
theorem dX7_addTask_17 : decode cX7_addTask 17 = .ok (.iconst 3, 1) := by decide +kernel
theorem dX7_addTask_18 : decode cX7_addTask 18 = .ok (.invokestatic 123, 3) := by decide +kernel
theorem dX7_addTask_21 : decode cX7_addTask 21 = .ok (.ifCond .eq 12, 3) := by decide +kernel
theorem dX7_addTask_24 : decode cX7_addTask 24 = .ok (.iload_n 3, 1) := by decide +kernel
theorem dX7_addTask_25 : decode cX7_addTask 25 = .ok (.iconst 1, 1) := by decide +kernel
theorem dX7_addTask_26 : decode cX7_addTask 26 = .ok (.iconst 5, 1) := by decide +kernel
theorem dX7_addTask_27 : decode cX7_addTask 27 = .ok (.invokestatic 123, 3) := by decide +kernel
theorem dX7_addTask_30 : decode cX7_addTask 30 = .ok (.ifCond .ne 9, 3) := by decide +kernel
theorem dX7_addTask_33 : decode cX7_addTask 33 = .ok (.aload_n 0, 1) := by decide +kernel
theorem dX7_addTask_34 : decode cX7_addTask 34 = .ok (.iconst 1, 1) := by decide +kernel
theorem dX7_addTask_35 : decode cX7_addTask 35 = .ok (.invokevirtual 218, 3) := by decide +kernel
theorem dX7_addTask_38 : decode cX7_addTask 38 = .ok (.ireturn, 1) := by decide +kernel
theorem dX7_addTask_39 : decode cX7_addTask 39 = .ok (.aload_n 0, 1) := by decide +kernel
theorem dX7_addTask_40 : decode cX7_addTask 40 = .ok (.getfield 110, 3) := by decide +kernel
theorem dX7_addTask_43 : decode cX7_addTask 43 = .ok (.bipush 16, 2) := by decide +kernel
theorem dX7_addTask_45 : decode cX7_addTask 45 = .ok (.if_icmp .ne 9, 3) := by decide +kernel
theorem dX7_addTask_48 : decode cX7_addTask 48 = .ok (.aload_n 0, 1) := by decide +kernel
theorem dX7_addTask_49 : decode cX7_addTask 49 = .ok (.iconst 2, 1) := by decide +kernel
theorem dX7_addTask_50 : decode cX7_addTask 50 = .ok (.invokevirtual 218, 3) := by decide +kernel
theorem dX7_addTask_53 : decode cX7_addTask 53 = .ok (.ireturn, 1) := by decide +kernel
theorem dX7_addTask_54 : decode cX7_addTask 54 = .ok (.aload_n 0, 1) := by decide +kernel
theorem dX7_addTask_55 : decode cX7_addTask 55 = .ok (.getfield 26, 3) := by decide +kernel
theorem dX7_addTask_58 : decode cX7_addTask 58 = .ok (.aload_n 0, 1) := by decide +kernel
theorem dX7_addTask_59 : decode cX7_addTask 59 = .ok (.getfield 110, 3) := by decide +kernel
theorem dX7_addTask_62 : decode cX7_addTask 62 = .ok (.iload_n 1, 1) := by decide +kernel
theorem dX7_addTask_63 : decode cX7_addTask 63 = .ok (.iastore, 1) := by decide +kernel
theorem dX7_addTask_64 : decode cX7_addTask 64 = .ok (.aload_n 0, 1) := by decide +kernel
theorem dX7_addTask_65 : decode cX7_addTask 65 = .ok (.getfield 29, 3) := by decide +kernel
theorem dX7_addTask_68 : decode cX7_addTask 68 = .ok (.aload_n 0, 1) := by decide +kernel
theorem dX7_addTask_69 : decode cX7_addTask 69 = .ok (.getfield 110, 3) := by decide +kernel
theorem dX7_addTask_72 : decode cX7_addTask 72 = .ok (.iload_n 2, 1) := by decide +kernel
theorem dX7_addTask_73 : decode cX7_addTask 73 = .ok (.iastore, 1) := by decide +kernel
theorem dX7_addTask_74 : decode cX7_addTask 74 = .ok (.aload_n 0, 1) := by decide +kernel
theorem dX7_addTask_75 : decode cX7_addTask 75 = .ok (.getfield 32, 3) := by decide +kernel
theorem dX7_addTask_78 : decode cX7_addTask 78 = .ok (.aload_n 0, 1) := by decide +kernel
theorem dX7_addTask_79 : decode cX7_addTask 79 = .ok (.getfield 110, 3) := by decide +kernel
theorem dX7_addTask_82 : decode cX7_addTask 82 = .ok (.iload_n 3, 1) := by decide +kernel
theorem dX7_addTask_83 : decode cX7_addTask 83 = .ok (.iastore, 1) := by decide +kernel
theorem dX7_addTask_84 : decode cX7_addTask 84 = .ok (.aload_n 0, 1) := by decide +kernel
theorem dX7_addTask_85 : decode cX7_addTask 85 = .ok (.getfield 58, 3) := by decide +kernel
theorem dX7_addTask_88 : decode cX7_addTask 88 = .ok (.aload_n 0, 1) := by decide +kernel
theorem dX7_addTask_89 : decode cX7_addTask 89 = .ok (.getfield 110, 3) := by decide +kernel
theorem dX7_addTask_92 : decode cX7_addTask 92 = .ok (.iconst (-1), 1) := by decide +kernel
theorem dX7_addTask_93 : decode cX7_addTask 93 = .ok (.iastore, 1) := by decide +kernel
theorem dX7_addTask_94 : decode cX7_addTask 94 = .ok (.aload_n 0, 1) := by decide +kernel
theorem dX7_addTask_95 : decode cX7_addTask 95 = .ok (.getfield 76, 3) := by decide +kernel
theorem dX7_addTask_98 : decode cX7_addTask 98 = .ok (.aload_n 0, 1) := by decide +kernel
theorem dX7_addTask_99 : decode cX7_addTask 99 = .ok (.getfield 110, 3) := by decide +kernel
theorem dX7_addTask_102 : decode cX7_addTask 102 = .ok (.aaload, 1) := by decide +kernel
theorem dX7_addTask_103 : decode cX7_addTask 103 = .ok (.iconst 3, 1) := by decide +kernel
theorem dX7_addTask_104 : decode cX7_addTask 104 = .ok (.iconst (-1), 1) := by decide +kernel
theorem dX7_addTask_105 : decode cX7_addTask 105 = .ok (.iastore, 1) := by decide +kernel
theorem dX7_addTask_106 : decode cX7_addTask 106 = .ok (.aload_n 0, 1) := by decide +kernel
theorem dX7_addTask_107 : decode cX7_addTask 107 = .ok (.getfield 76, 3) := by decide +kernel
theorem dX7_addTask_110 : decode cX7_addTask 110 = .ok (.aload_n 0, 1) := by decide +kernel
theorem dX7_addTask_111 : decode cX7_addTask 111 = .ok (.getfield 110, 3) := by decide +kernel
theorem dX7_addTask_114 : decode cX7_addTask 114 = .ok (.aaload, 1) := by decide +kernel
theorem dX7_addTask_115 : decode cX7_addTask 115 = .ok (.iconst 4, 1) := by decide +kernel
theorem dX7_addTask_116 : decode cX7_addTask 116 = .ok (.iconst (-1), 1) := by decide +kernel
theorem dX7_addTask_117 : decode cX7_addTask 117 = .ok (.iastore, 1) := by decide +kernel
theorem dX7_addTask_118 : decode cX7_addTask 118 = .ok (.aload_n 0, 1) := by decide +kernel
theorem dX7_addTask_119 : decode cX7_addTask 119 = .ok (.dup, 1) := by decide +kernel
theorem dX7_addTask_120 : decode cX7_addTask 120 = .ok (.getfield 110, 3) := by decide +kernel
theorem dX7_addTask_123 : decode cX7_addTask 123 = .ok (.iconst 1, 1) := by decide +kernel
theorem dX7_addTask_124 : decode cX7_addTask 124 = .ok (.iadd, 1) := by decide +kernel
theorem dX7_addTask_125 : decode cX7_addTask 125 = .ok (.putfield 110, 3) := by decide +kernel
theorem dX7_addTask_128 : decode cX7_addTask 128 = .ok (.aload_n 0, 1) := by decide +kernel
theorem dX7_addTask_129 : decode cX7_addTask 129 = .ok (.getfield 110, 3) := by decide +kernel
theorem dX7_addTask_132 : decode cX7_addTask 132 = .ok (.iconst 1, 1) := by decide +kernel
theorem dX7_addTask_133 : decode cX7_addTask 133 = .ok (.isub, 1) := by decide +kernel
theorem dX7_addTask_134 : decode cX7_addTask 134 = .ok (.ireturn, 1) := by decide +kernel
theorem dX7_isNumber_0 : decode cX7_isNumber 0 = .ok (.iload_n 0, 1) := by decide +kernel
theorem dX7_isNumber_1 : decode cX7_isNumber 1 = .ok (.bipush 6, 2) := by decide +kernel
theorem dX7_isNumber_3 : decode cX7_isNumber 3 = .ok (.if_icmp .eq 40, 3) := by decide +kernel
theorem dX7_isNumber_6 : decode cX7_isNumber 6 = .ok (.iload_n 1, 1) := by decide +kernel
theorem dX7_isNumber_7 : decode cX7_isNumber 7 = .ok (.iload_n 0, 1) := by decide +kernel
theorem dX7_isNumber_8 : decode cX7_isNumber 8 = .ok (.iconst 1, 1) := by decide +kernel
theorem dX7_isNumber_9 : decode cX7_isNumber 9 = .ok (.if_icmp .gt 7, 3) := by decide +kernel
theorem dX7_isNumber_12 : decode cX7_isNumber 12 = .ok (.iconst 1, 1) := by decide +kernel
theorem dX7_isNumber_13 : decode cX7_isNumber 13 = .ok (.goto 4, 3) := by decide +kernel
theorem dX7_isNumber_16 : decode cX7_isNumber 16 = .ok (.iconst 0, 1) := by decide +kernel
theorem dX7_isNumber_17 : decode cX7_isNumber 17 = .ok (.iload_n 0, 1) := by decide +kernel
theorem dX7_isNumber_18 : decode cX7_isNumber 18 = .ok (.ifCond .ne 8, 3) := by decide +kernel
theorem dX7_isNumber_21 : decode cX7_isNumber 21 = .ok (.bipush 20, 2) := by decide +kernel
theorem dX7_isNumber_23 : decode cX7_isNumber 23 = .ok (.goto 14, 3) := by decide +kernel
theorem dX7_isNumber_26 : decode cX7_isNumber 26 = .ok (.iload_n 0, 1) := by decide +kernel
theorem dX7_isNumber_27 : decode cX7_isNumber 27 = .ok (.iconst 1, 1) := by decide +kernel
theorem dX7_isNumber_28 : decode cX7_isNumber 28 = .ok (.if_icmp .ne 8, 3) := by decide +kernel
theorem dX7_isNumber_31 : decode cX7_isNumber 31 = .ok (.bipush 40, 2) := by decide +kernel
theorem dX7_isNumber_33 : decode cX7_isNumber 33 = .ok (.goto 4, 3) := by decide +kernel
theorem dX7_isNumber_36 : decode cX7_isNumber 36 = .ok (.iconst 5, 1) := by decide +kernel
theorem dX7_isNumber_37 : decode cX7_isNumber 37 = .ok (.invokestatic 123, 3) := by decide +kernel
theorem dX7_isNumber_40 : decode cX7_isNumber 40 = .ok (.ifCond .eq 7, 3) := by decide +kernel
theorem dX7_isNumber_43 : decode cX7_isNumber 43 = .ok (.iconst 1, 1) := by decide +kernel
theorem dX7_isNumber_44 : decode cX7_isNumber 44 = .ok (.goto 4, 3) := by decide +kernel
theorem dX7_isNumber_47 : decode cX7_isNumber 47 = .ok (.iconst 0, 1) := by decide +kernel
theorem dX7_isNumber_48 : decode cX7_isNumber 48 = .ok (.ireturn, 1) := by decide +kernel
theorem dX7_addStep_0 : decode cX7_addStep 0 = .ok (.aload_n 0, 1) := by decide +kernel
theorem dX7_addStep_1 : decode cX7_addStep 1 = .ok (.iconst 0, 1) := by decide +kernel
theorem dX7_addStep_2 : decode cX7_addStep 2 = .ok (.putfield 120, 3) := by decide +kernel
theorem dX7_addStep_5 : decode cX7_addStep 5 = .ok (.aload_n 0, 1) := by decide +kernel
theorem dX7_addStep_6 : decode cX7_addStep 6 = .ok (.iload_n 1, 1) := by decide +kernel
theorem dX7_addStep_7 : decode cX7_addStep 7 = .ok (.invokevirtual 221, 3) := by decide +kernel
theorem dX7_addStep_10 : decode cX7_addStep 10 = .ok (.ifCond .ne 9, 3) := by decide +kernel
theorem dX7_addStep_13 : decode cX7_addStep 13 = .ok (.aload_n 0, 1) := by decide +kernel
theorem dX7_addStep_14 : decode cX7_addStep 14 = .ok (.iconst 1, 1) := by decide +kernel
theorem dX7_addStep_15 : decode cX7_addStep 15 = .ok (.invokevirtual 218, 3) := by decide +kernel
theorem dX7_addStep_18 : decode cX7_addStep 18 = .ok (.ireturn, 1) := by decide +kernel
theorem dX7_addStep_19 : decode cX7_addStep 19 = .ok (.iload_n 2, 1) := by decide +kernel
theorem dX7_addStep_20 : decode cX7_addStep 20 = .ok (.iconst 0, 1) := by decide +kernel
theorem dX7_addStep_21 : decode cX7_addStep 21 = .ok (.bipush 6, 2) := by decide +kernel
theorem dX7_addStep_23 : decode cX7_addStep 23 = .ok (.invokestatic 123, 3) := by decide +kernel
theorem dX7_addStep_26 : decode cX7_addStep 26 = .ok (.ifCond .eq 11, 3) := by decide +kernel
theorem dX7_addStep_29 : decode cX7_addStep 29 = .ok (.iload_n 2, 1) := by decide +kernel
theorem dX7_addStep_30 : decode cX7_addStep 30 = .ok (.iload_n 3, 1) := by decide +kernel
theorem dX7_addStep_31 : decode cX7_addStep 31 = .ok (.invokestatic 225, 3) := by decide +kernel
theorem dX7_addStep_34 : decode cX7_addStep 34 = .ok (.ifCond .ne 9, 3) := by decide +kernel
theorem dX7_addStep_37 : decode cX7_addStep 37 = .ok (.aload_n 0, 1) := by decide +kernel
theorem dX7_addStep_38 : decode cX7_addStep 38 = .ok (.iconst 2, 1) := by decide +kernel
theorem dX7_addStep_39 : decode cX7_addStep 39 = .ok (.invokevirtual 218, 3) := by decide +kernel
theorem dX7_addStep_42 : decode cX7_addStep 42 = .ok (.ireturn, 1) := by decide +kernel
theorem dX7_addStep_43 : decode cX7_addStep 43 = .ok (.aload_n 0, 1) := by decide +kernel
theorem dX7_addStep_44 : decode cX7_addStep 44 = .ok (.getfield 46, 3) := by decide +kernel
theorem dX7_addStep_47 : decode cX7_addStep 47 = .ok (.iload_n 1, 1) := by decide +kernel
theorem dX7_addStep_48 : decode cX7_addStep 48 = .ok (.iaload, 1) := by decide +kernel
theorem dX7_addStep_49 : decode cX7_addStep 49 = .ok (.ifCond .ne 14, 3) := by decide +kernel
theorem dX7_addStep_52 : decode cX7_addStep 52 = .ok (.aload_n 0, 1) := by decide +kernel
theorem dX7_addStep_53 : decode cX7_addStep 53 = .ok (.getfield 35, 3) := by decide +kernel
theorem dX7_addStep_56 : decode cX7_addStep 56 = .ok (.iload_n 1, 1) := by decide +kernel
theorem dX7_addStep_57 : decode cX7_addStep 57 = .ok (.iaload, 1) := by decide +kernel
theorem dX7_addStep_58 : decode cX7_addStep 58 = .ok (.bipush 16, 2) := by decide +kernel
theorem dX7_addStep_60 : decode cX7_addStep 60 = .ok (.if_icmp .ne 9, 3) := by decide +kernel
theorem dX7_addStep_63 : decode cX7_addStep 63 = .ok (.aload_n 0, 1) := by decide +kernel
theorem dX7_addStep_64 : decode cX7_addStep 64 = .ok (.iconst 3, 1) := by decide +kernel
theorem dX7_addStep_65 : decode cX7_addStep 65 = .ok (.invokevirtual 218, 3) := by decide +kernel
theorem dX7_addStep_68 : decode cX7_addStep 68 = .ok (.ireturn, 1) := by decide +kernel
theorem dX7_addStep_69 : decode cX7_addStep 69 = .ok (.aload_n 0, 1) := by decide +kernel
theorem dX7_addStep_70 : decode cX7_addStep 70 = .ok (.getfield 40, 3) := by decide +kernel
theorem dX7_addStep_73 : decode cX7_addStep 73 = .ok (.iload_n 1, 1) := by decide +kernel
theorem dX7_addStep_74 : decode cX7_addStep 74 = .ok (.aaload, 1) := by decide +kernel
theorem dX7_addStep_75 : decode cX7_addStep 75 = .ok (.aload_n 0, 1) := by decide +kernel
theorem dX7_addStep_76 : decode cX7_addStep 76 = .ok (.getfield 35, 3) := by decide +kernel
theorem dX7_addStep_79 : decode cX7_addStep 79 = .ok (.iload_n 1, 1) := by decide +kernel
theorem dX7_addStep_80 : decode cX7_addStep 80 = .ok (.iaload, 1) := by decide +kernel
theorem dX7_addStep_81 : decode cX7_addStep 81 = .ok (.iload_n 2, 1) := by decide +kernel
theorem dX7_addStep_82 : decode cX7_addStep 82 = .ok (.iastore, 1) := by decide +kernel
theorem dX7_addStep_83 : decode cX7_addStep 83 = .ok (.aload_n 0, 1) := by decide +kernel
theorem dX7_addStep_84 : decode cX7_addStep 84 = .ok (.getfield 43, 3) := by decide +kernel
theorem dX7_addStep_87 : decode cX7_addStep 87 = .ok (.iload_n 1, 1) := by decide +kernel
theorem dX7_addStep_88 : decode cX7_addStep 88 = .ok (.aaload, 1) := by decide +kernel
theorem dX7_addStep_89 : decode cX7_addStep 89 = .ok (.aload_n 0, 1) := by decide +kernel
theorem dX7_addStep_90 : decode cX7_addStep 90 = .ok (.getfield 35, 3) := by decide +kernel
theorem dX7_addStep_93 : decode cX7_addStep 93 = .ok (.iload_n 1, 1) := by decide +kernel
theorem dX7_addStep_94 : decode cX7_addStep 94 = .ok (.iaload, 1) := by decide +kernel
theorem dX7_addStep_95 : decode cX7_addStep 95 = .ok (.iload_n 3, 1) := by decide +kernel
theorem dX7_addStep_96 : decode cX7_addStep 96 = .ok (.iastore, 1) := by decide +kernel
theorem dX7_addStep_97 : decode cX7_addStep 97 = .ok (.aload_n 0, 1) := by decide +kernel
theorem dX7_addStep_98 : decode cX7_addStep 98 = .ok (.getfield 35, 3) := by decide +kernel
theorem dX7_addStep_101 : decode cX7_addStep 101 = .ok (.iload_n 1, 1) := by decide +kernel
theorem dX7_addStep_102 : decode cX7_addStep 102 = .ok (.dup2, 1) := by decide +kernel
theorem dX7_addStep_103 : decode cX7_addStep 103 = .ok (.iaload, 1) := by decide +kernel
theorem dX7_addStep_104 : decode cX7_addStep 104 = .ok (.iconst 1, 1) := by decide +kernel
theorem dX7_addStep_105 : decode cX7_addStep 105 = .ok (.iadd, 1) := by decide +kernel
theorem dX7_addStep_106 : decode cX7_addStep 106 = .ok (.iastore, 1) := by decide +kernel
theorem dX7_addStep_107 : decode cX7_addStep 107 = .ok (.aload_n 0, 1) := by decide +kernel
theorem dX7_addStep_108 : decode cX7_addStep 108 = .ok (.getfield 35, 3) := by decide +kernel
theorem dX7_addStep_111 : decode cX7_addStep 111 = .ok (.iload_n 1, 1) := by decide +kernel
theorem dX7_addStep_112 : decode cX7_addStep 112 = .ok (.iaload, 1) := by decide +kernel
theorem dX7_addStep_113 : decode cX7_addStep 113 = .ok (.ireturn, 1) := by decide +kernel
theorem dX7_start_0 : decode cX7_start 0 = .ok (.aload_n 0, 1) := by decide +kernel
theorem dX7_start_1 : decode cX7_start 1 = .ok (.iconst 0, 1) := by decide +kernel
theorem dX7_start_2 : decode cX7_start 2 = .ok (.putfield 120, 3) := by decide +kernel
theorem dX7_start_5 : decode cX7_start 5 = .ok (.aload_n 0, 1) := by decide +kernel
theorem dX7_start_6 : decode cX7_start 6 = .ok (.iload_n 1, 1) := by decide +kernel
theorem dX7_start_7 : decode cX7_start 7 = .ok (.invokevirtual 221, 3) := by decide +kernel
theorem dX7_start_10 : decode cX7_start 10 = .ok (.ifCond .ne 9, 3) := by decide +kernel
theorem dX7_start_13 : decode cX7_start 13 = .ok (.aload_n 0, 1) := by decide +kernel
theorem dX7_start_14 : decode cX7_start 14 = .ok (.iconst 1, 1) := by decide +kernel
theorem dX7_start_15 : decode cX7_start 15 = .ok (.invokevirtual 218, 3) := by decide +kernel
theorem dX7_start_18 : decode cX7_start 18 = .ok (.ireturn, 1) := by decide +kernel
theorem dX7_start_19 : decode cX7_start 19 = .ok (.aload_n 0, 1) := by decide +kernel
theorem dX7_start_20 : decode cX7_start 20 = .ok (.getfield 46, 3) := by decide +kernel
theorem dX7_start_23 : decode cX7_start 23 = .ok (.iload_n 1, 1) := by decide +kernel
theorem dX7_start_24 : decode cX7_start 24 = .ok (.iaload, 1) := by decide +kernel
theorem dX7_start_25 : decode cX7_start 25 = .ok (.ifCond .ne 30, 3) := by decide +kernel
theorem dX7_start_28 : decode cX7_start 28 = .ok (.aload_n 0, 1) := by decide +kernel
theorem dX7_start_29 : decode cX7_start 29 = .ok (.getfield 35, 3) := by decide +kernel
theorem dX7_start_32 : decode cX7_start 32 = .ok (.iload_n 1, 1) := by decide +kernel
theorem dX7_start_33 : decode cX7_start 33 = .ok (.iaload, 1) := by decide +kernel
theorem dX7_start_34 : decode cX7_start 34 = .ok (.ifCond .eq 21, 3) := by decide +kernel
theorem dX7_start_37 : decode cX7_start 37 = .ok (.aload_n 0, 1) := by decide +kernel
theorem dX7_start_38 : decode cX7_start 38 = .ok (.getfield 40, 3) := by decide +kernel
theorem dX7_start_41 : decode cX7_start 41 = .ok (.iload_n 1, 1) := by decide +kernel
theorem dX7_start_42 : decode cX7_start 42 = .ok (.aaload, 1) := by decide +kernel
theorem dX7_start_43 : decode cX7_start 43 = .ok (.aload_n 0, 1) := by decide +kernel
theorem dX7_start_44 : decode cX7_start 44 = .ok (.getfield 35, 3) := by decide +kernel
theorem dX7_start_47 : decode cX7_start 47 = .ok (.iload_n 1, 1) := by decide +kernel
theorem dX7_start_48 : decode cX7_start 48 = .ok (.iaload, 1) := by decide +kernel
theorem dX7_start_49 : decode cX7_start 49 = .ok (.iconst 1, 1) := by decide +kernel
theorem dX7_start_50 : decode cX7_start 50 = .ok (.isub, 1) := by decide +kernel
theorem dX7_start_51 : decode cX7_start 51 = .ok (.iaload, 1) := by decide +kernel
theorem dX7_start_52 : decode cX7_start 52 = .ok (.ifCond .eq 9, 3) := by decide +kernel
theorem dX7_start_55 : decode cX7_start 55 = .ok (.aload_n 0, 1) := by decide +kernel
theorem dX7_start_56 : decode cX7_start 56 = .ok (.iconst 2, 1) := by decide +kernel
theorem dX7_start_57 : decode cX7_start 57 = .ok (.invokevirtual 218, 3) := by decide +kernel
theorem dX7_start_60 : decode cX7_start 60 = .ok (.ireturn, 1) := by decide +kernel
theorem dX7_start_61 : decode cX7_start 61 = .ok (.aload_n 0, 1) := by decide +kernel
theorem dX7_start_62 : decode cX7_start 62 = .ok (.getfield 64, 3) := by decide +kernel
theorem dX7_start_65 : decode cX7_start 65 = .ok (.iload_n 1, 1) := by decide +kernel
theorem dX7_start_66 : decode cX7_start 66 = .ok (.iconst 0, 1) := by decide +kernel
theorem dX7_start_67 : decode cX7_start 67 = .ok (.aload_n 0, 1) := by decide +kernel
theorem dX7_start_68 : decode cX7_start 68 = .ok (.iload_n 1, 1) := by decide +kernel
theorem dX7_start_69 : decode cX7_start 69 = .ok (.invokevirtual 143, 3) := by decide +kernel
theorem dX7_start_72 : decode cX7_start 72 = .ok (.invokestatic 140, 3) := by decide +kernel
theorem dX7_start_75 : decode cX7_start 75 = .ok (.iastore, 1) := by decide +kernel
theorem dX7_start_76 : decode cX7_start 76 = .ok (.aload_n 0, 1) := by decide +kernel
theorem dX7_start_77 : decode cX7_start 77 = .ok (.iload_n 1, 1) := by decide +kernel
theorem dX7_start_78 : decode cX7_start 78 = .ok (.invokevirtual 146, 3) := by decide +kernel
theorem dX7_start_81 : decode cX7_start 81 = .ok (.aload_n 0, 1) := by decide +kernel
theorem dX7_start_82 : decode cX7_start 82 = .ok (.getfield 58, 3) := by decide +kernel
theorem dX7_start_85 : decode cX7_start 85 = .ok (.iload_n 1, 1) := by decide +kernel
theorem dX7_start_86 : decode cX7_start 86 = .ok (.iaload, 1) := by decide +kernel
theorem dX7_start_87 : decode cX7_start 87 = .ok (.ireturn, 1) := by decide +kernel
theorem dX7_setRank_0 : decode cX7_setRank 0 = .ok (.aload_n 0, 1) := by decide +kernel
theorem dX7_setRank_1 : decode cX7_setRank 1 = .ok (.iconst 0, 1) := by decide +kernel
theorem dX7_setRank_2 : decode cX7_setRank 2 = .ok (.putfield 120, 3) := by decide +kernel
theorem dX7_setRank_5 : decode cX7_setRank 5 = .ok (.aload_n 0, 1) := by decide +kernel
theorem dX7_setRank_6 : decode cX7_setRank 6 = .ok (.iload_n 1, 1) := by decide +kernel
theorem dX7_setRank_7 : decode cX7_setRank 7 = .ok (.invokevirtual 221, 3) := by decide +kernel
theorem dX7_setRank_10 : decode cX7_setRank 10 = .ok (.ifCond .ne 9, 3) := by decide +kernel
theorem dX7_setRank_13 : decode cX7_setRank 13 = .ok (.aload_n 0, 1) := by decide +kernel
theorem dX7_setRank_14 : decode cX7_setRank 14 = .ok (.iconst 1, 1) := by decide +kernel
theorem dX7_setRank_15 : decode cX7_setRank 15 = .ok (.invokevirtual 218, 3) := by decide +kernel
theorem dX7_setRank_18 : decode cX7_setRank 18 = .ok (.ireturn, 1) := by decide +kernel
theorem dX7_setRank_19 : decode cX7_setRank 19 = .ok (.iload_n 2, 1) := by decide +kernel
theorem dX7_setRank_20 : decode cX7_setRank 20 = .ok (.iconst 0, 1) := by decide +kernel
theorem dX7_setRank_21 : decode cX7_setRank 21 = .ok (.bipush 7, 2) := by decide +kernel
theorem dX7_setRank_23 : decode cX7_setRank 23 = .ok (.invokestatic 123, 3) := by decide +kernel
theorem dX7_setRank_26 : decode cX7_setRank 26 = .ok (.ifCond .ne 9, 3) := by decide +kernel
theorem dX7_setRank_29 : decode cX7_setRank 29 = .ok (.aload_n 0, 1) := by decide +kernel
theorem dX7_setRank_30 : decode cX7_setRank 30 = .ok (.iconst 2, 1) := by decide +kernel
theorem dX7_setRank_31 : decode cX7_setRank 31 = .ok (.invokevirtual 218, 3) := by decide +kernel
theorem dX7_setRank_34 : decode cX7_setRank 34 = .ok (.ireturn, 1) := by decide +kernel
theorem dX7_setRank_35 : decode cX7_setRank 35 = .ok (.aload_n 0, 1) := by decide +kernel
theorem dX7_setRank_36 : decode cX7_setRank 36 = .ok (.getfield 26, 3) := by decide +kernel
theorem dX7_setRank_39 : decode cX7_setRank 39 = .ok (.iload_n 1, 1) := by decide +kernel
theorem dX7_setRank_40 : decode cX7_setRank 40 = .ok (.iaload, 1) := by decide +kernel
theorem dX7_setRank_41 : decode cX7_setRank 41 = .ok (.istore_n 3, 1) := by decide +kernel
theorem dX7_setRank_42 : decode cX7_setRank 42 = .ok (.aload_n 0, 1) := by decide +kernel
theorem dX7_setRank_43 : decode cX7_setRank 43 = .ok (.getfield 26, 3) := by decide +kernel
theorem dX7_setRank_46 : decode cX7_setRank 46 = .ok (.iload_n 1, 1) := by decide +kernel
theorem dX7_setRank_47 : decode cX7_setRank 47 = .ok (.iload_n 2, 1) := by decide +kernel
theorem dX7_setRank_48 : decode cX7_setRank 48 = .ok (.iastore, 1) := by decide +kernel
theorem dX7_setRank_49 : decode cX7_setRank 49 = .ok (.iload_n 3, 1) := by decide +kernel
theorem dX7_setRank_50 : decode cX7_setRank 50 = .ok (.ireturn, 1) := by decide +kernel
theorem dX7_end_0 : decode cX7_end 0 = .ok (.aload_n 0, 1) := by decide +kernel
theorem dX7_end_1 : decode cX7_end 1 = .ok (.iconst 0, 1) := by decide +kernel
theorem dX7_end_2 : decode cX7_end 2 = .ok (.putfield 120, 3) := by decide +kernel
theorem dX7_end_5 : decode cX7_end 5 = .ok (.aload_n 0, 1) := by decide +kernel
theorem dX7_end_6 : decode cX7_end 6 = .ok (.iload_n 1, 1) := by decide +kernel
theorem dX7_end_7 : decode cX7_end 7 = .ok (.invokevirtual 221, 3) := by decide +kernel
theorem dX7_end_10 : decode cX7_end 10 = .ok (.ifCond .ne 9, 3) := by decide +kernel
theorem dX7_end_13 : decode cX7_end 13 = .ok (.aload_n 0, 1) := by decide +kernel
theorem dX7_end_14 : decode cX7_end 14 = .ok (.iconst 1, 1) := by decide +kernel
theorem dX7_end_15 : decode cX7_end 15 = .ok (.invokevirtual 218, 3) := by decide +kernel
theorem dX7_end_18 : decode cX7_end 18 = .ok (.ireturn, 1) := by decide +kernel
theorem dX7_end_19 : decode cX7_end 19 = .ok (.aload_n 0, 1) := by decide +kernel
theorem dX7_end_20 : decode cX7_end 20 = .ok (.getfield 46, 3) := by decide +kernel
theorem dX7_end_23 : decode cX7_end 23 = .ok (.iload_n 1, 1) := by decide +kernel
theorem dX7_end_24 : decode cX7_end 24 = .ok (.iaload, 1) := by decide +kernel
theorem dX7_end_25 : decode cX7_end 25 = .ok (.bipush 6, 2) := by decide +kernel
theorem dX7_end_27 : decode cX7_end 27 = .ok (.if_icmp .ne 9, 3) := by decide +kernel
theorem dX7_end_30 : decode cX7_end 30 = .ok (.aload_n 0, 1) := by decide +kernel
theorem dX7_end_31 : decode cX7_end 31 = .ok (.iconst 2, 1) := by decide +kernel
theorem dX7_end_32 : decode cX7_end 32 = .ok (.invokevirtual 218, 3) := by decide +kernel
theorem dX7_end_35 : decode cX7_end 35 = .ok (.ireturn, 1) := by decide +kernel
theorem dX7_end_36 : decode cX7_end 36 = .ok (.aload_n 0, 1) := by decide +kernel
theorem dX7_end_37 : decode cX7_end 37 = .ok (.getfield 46, 3) := by decide +kernel
theorem dX7_end_40 : decode cX7_end 40 = .ok (.iload_n 1, 1) := by decide +kernel
theorem dX7_end_41 : decode cX7_end 41 = .ok (.iaload, 1) := by decide +kernel
theorem dX7_end_42 : decode cX7_end 42 = .ok (.istore_n 2, 1) := by decide +kernel
theorem dX7_end_43 : decode cX7_end 43 = .ok (.aload_n 0, 1) := by decide +kernel
theorem dX7_end_44 : decode cX7_end 44 = .ok (.iload_n 1, 1) := by decide +kernel
theorem dX7_end_45 : decode cX7_end 45 = .ok (.invokevirtual 190, 3) := by decide +kernel
theorem dX7_end_48 : decode cX7_end 48 = .ok (.iload_n 2, 1) := by decide +kernel
theorem dX7_end_49 : decode cX7_end 49 = .ok (.ireturn, 1) := by decide +kernel
theorem dX7_signal_0 : decode cX7_signal 0 = .ok (.aload_n 0, 1) := by decide +kernel
theorem dX7_signal_1 : decode cX7_signal 1 = .ok (.iconst 0, 1) := by decide +kernel
theorem dX7_signal_2 : decode cX7_signal 2 = .ok (.putfield 120, 3) := by decide +kernel
theorem dX7_signal_5 : decode cX7_signal 5 = .ok (.iload_n 1, 1) := by decide +kernel
theorem dX7_signal_6 : decode cX7_signal 6 = .ok (.iconst 0, 1) := by decide +kernel
theorem dX7_signal_7 : decode cX7_signal 7 = .ok (.iconst 5, 1) := by decide +kernel
theorem dX7_signal_8 : decode cX7_signal 8 = .ok (.invokestatic 123, 3) := by decide +kernel
theorem dX7_signal_11 : decode cX7_signal 11 = .ok (.ifCond .ne 9, 3) := by decide +kernel
theorem dX7_signal_14 : decode cX7_signal 14 = .ok (.aload_n 0, 1) := by decide +kernel
theorem dX7_signal_15 : decode cX7_signal 15 = .ok (.iconst 1, 1) := by decide +kernel
theorem dX7_signal_16 : decode cX7_signal 16 = .ok (.invokevirtual 218, 3) := by decide +kernel
theorem dX7_signal_19 : decode cX7_signal 19 = .ok (.ireturn, 1) := by decide +kernel
theorem dX7_signal_20 : decode cX7_signal 20 = .ok (.aload_n 0, 1) := by decide +kernel
theorem dX7_signal_21 : decode cX7_signal 21 = .ok (.iload_n 1, 1) := by decide +kernel
theorem dX7_signal_22 : decode cX7_signal 22 = .ok (.invokevirtual 196, 3) := by decide +kernel
theorem dX7_signal_25 : decode cX7_signal 25 = .ok (.aload_n 0, 1) := by decide +kernel
theorem dX7_signal_26 : decode cX7_signal 26 = .ok (.getfield 91, 3) := by decide +kernel
theorem dX7_signal_29 : decode cX7_signal 29 = .ok (.iload_n 1, 1) := by decide +kernel
theorem dX7_signal_30 : decode cX7_signal 30 = .ok (.iaload, 1) := by decide +kernel
theorem dX7_signal_31 : decode cX7_signal 31 = .ok (.ireturn, 1) := by decide +kernel
theorem dX7_tick_0 : decode cX7_tick 0 = .ok (.aload_n 0, 1) := by decide +kernel
theorem dX7_tick_1 : decode cX7_tick 1 = .ok (.iconst 0, 1) := by decide +kernel
theorem dX7_tick_2 : decode cX7_tick 2 = .ok (.putfield 120, 3) := by decide +kernel
theorem dX7_tick_5 : decode cX7_tick 5 = .ok (.iload_n 1, 1) := by decide +kernel
theorem dX7_tick_6 : decode cX7_tick 6 = .ok (.iconst 1, 1) := by decide +kernel
theorem dX7_tick_7 : decode cX7_tick 7 = .ok (.bipush 40, 2) := by decide +kernel
theorem dX7_tick_9 : decode cX7_tick 9 = .ok (.invokestatic 123, 3) := by decide +kernel
theorem dX7_tick_12 : decode cX7_tick 12 = .ok (.ifCond .ne 9, 3) := by decide +kernel
theorem dX7_tick_15 : decode cX7_tick 15 = .ok (.aload_n 0, 1) := by decide +kernel
theorem dX7_tick_16 : decode cX7_tick 16 = .ok (.iconst 1, 1) := by decide +kernel
theorem dX7_tick_17 : decode cX7_tick 17 = .ok (.invokevirtual 218, 3) := by decide +kernel
theorem dX7_tick_20 : decode cX7_tick 20 = .ok (.ireturn, 1) := by decide +kernel
theorem dX7_tick_21 : decode cX7_tick 21 = .ok (.iconst 0, 1) := by decide +kernel
theorem dX7_tick_22 : decode cX7_tick 22 = .ok (.istore_n 2, 1) := by decide +kernel
theorem dX7_tick_23 : decode cX7_tick 23 = .ok (.iload_n 2, 1) := by decide +kernel
theorem dX7_tick_24 : decode cX7_tick 24 = .ok (.iload_n 1, 1) := by decide +kernel
theorem dX7_tick_25 : decode cX7_tick 25 = .ok (.if_icmp .ge 13, 3) := by decide +kernel
theorem dX7_tick_28 : decode cX7_tick 28 = .ok (.aload_n 0, 1) := by decide +kernel
theorem dX7_tick_29 : decode cX7_tick 29 = .ok (.invokevirtual 228, 3) := by decide +kernel
theorem dX7_tick_32 : decode cX7_tick 32 = .ok (.iinc 2 1, 3) := by decide +kernel
theorem dX7_tick_35 : decode cX7_tick 35 = .ok (.goto (-12), 3) := by decide +kernel
theorem dX7_tick_38 : decode cX7_tick 38 = .ok (.aload_n 0, 1) := by decide +kernel
theorem dX7_tick_39 : decode cX7_tick 39 = .ok (.getfield 95, 3) := by decide +kernel
theorem dX7_tick_42 : decode cX7_tick 42 = .ok (.ireturn, 1) := by decide +kernel
theorem dX7_clock_0 : decode cX7_clock 0 = .ok (.aload_n 0, 1) := by decide +kernel
theorem dX7_clock_1 : decode cX7_clock 1 = .ok (.iconst 0, 1) := by decide +kernel
theorem dX7_clock_2 : decode cX7_clock 2 = .ok (.putfield 120, 3) := by decide +kernel
theorem dX7_clock_5 : decode cX7_clock 5 = .ok (.aload_n 0, 1) := by decide +kernel
theorem dX7_clock_6 : decode cX7_clock 6 = .ok (.getfield 95, 3) := by decide +kernel
theorem dX7_clock_9 : decode cX7_clock 9 = .ok (.ireturn, 1) := by decide +kernel
theorem dX7_tasks_0 : decode cX7_tasks 0 = .ok (.aload_n 0, 1) := by decide +kernel
theorem dX7_tasks_1 : decode cX7_tasks 1 = .ok (.iconst 0, 1) := by decide +kernel
theorem dX7_tasks_2 : decode cX7_tasks 2 = .ok (.putfield 120, 3) := by decide +kernel
theorem dX7_tasks_5 : decode cX7_tasks 5 = .ok (.aload_n 0, 1) := by decide +kernel
theorem dX7_tasks_6 : decode cX7_tasks 6 = .ok (.getfield 110, 3) := by decide +kernel
theorem dX7_tasks_9 : decode cX7_tasks 9 = .ok (.ireturn, 1) := by decide +kernel
theorem dX7_stateOf_0 : decode cX7_stateOf 0 = .ok (.aload_n 0, 1) := by decide +kernel
theorem dX7_stateOf_1 : decode cX7_stateOf 1 = .ok (.iconst 0, 1) := by decide +kernel
theorem dX7_stateOf_2 : decode cX7_stateOf 2 = .ok (.putfield 120, 3) := by decide +kernel
theorem dX7_stateOf_5 : decode cX7_stateOf 5 = .ok (.aload_n 0, 1) := by decide +kernel
theorem dX7_stateOf_6 : decode cX7_stateOf 6 = .ok (.iload_n 1, 1) := by decide +kernel
theorem dX7_stateOf_7 : decode cX7_stateOf 7 = .ok (.invokevirtual 221, 3) := by decide +kernel
theorem dX7_stateOf_10 : decode cX7_stateOf 10 = .ok (.ifCond .eq 12, 3) := by decide +kernel
theorem dX7_stateOf_13 : decode cX7_stateOf 13 = .ok (.aload_n 0, 1) := by decide +kernel
theorem dX7_stateOf_14 : decode cX7_stateOf 14 = .ok (.getfield 46, 3) := by decide +kernel
theorem dX7_stateOf_17 : decode cX7_stateOf 17 = .ok (.iload_n 1, 1) := by decide +kernel
theorem dX7_stateOf_18 : decode cX7_stateOf 18 = .ok (.iaload, 1) := by decide +kernel
theorem dX7_stateOf_19 : decode cX7_stateOf 19 = .ok (.goto 8, 3) := by decide +kernel
theorem dX7_stateOf_22 : decode cX7_stateOf 22 = .ok (.aload_n 0, 1) := by decide +kernel
theorem dX7_stateOf_23 : decode cX7_stateOf 23 = .ok (.iconst 1, 1) := by decide +kernel
theorem dX7_stateOf_24 : decode cX7_stateOf 24 = .ok (.invokevirtual 218, 3) := by decide +kernel
theorem dX7_stateOf_27 : decode cX7_stateOf 27 = .ok (.ireturn, 1) := by decide +kernel
theorem dX7_stepOf_0 : decode cX7_stepOf 0 = .ok (.aload_n 0, 1) := by decide +kernel
theorem dX7_stepOf_1 : decode cX7_stepOf 1 = .ok (.iconst 0, 1) := by decide +kernel
theorem dX7_stepOf_2 : decode cX7_stepOf 2 = .ok (.putfield 120, 3) := by decide +kernel
theorem dX7_stepOf_5 : decode cX7_stepOf 5 = .ok (.aload_n 0, 1) := by decide +kernel
theorem dX7_stepOf_6 : decode cX7_stepOf 6 = .ok (.iload_n 1, 1) := by decide +kernel
theorem dX7_stepOf_7 : decode cX7_stepOf 7 = .ok (.invokevirtual 221, 3) := by decide +kernel
theorem dX7_stepOf_10 : decode cX7_stepOf 10 = .ok (.ifCond .eq 12, 3) := by decide +kernel
theorem dX7_stepOf_13 : decode cX7_stepOf 13 = .ok (.aload_n 0, 1) := by decide +kernel
theorem dX7_stepOf_14 : decode cX7_stepOf 14 = .ok (.getfield 49, 3) := by decide +kernel
theorem dX7_stepOf_17 : decode cX7_stepOf 17 = .ok (.iload_n 1, 1) := by decide +kernel
theorem dX7_stepOf_18 : decode cX7_stepOf 18 = .ok (.iaload, 1) := by decide +kernel
theorem dX7_stepOf_19 : decode cX7_stepOf 19 = .ok (.goto 8, 3) := by decide +kernel
theorem dX7_stepOf_22 : decode cX7_stepOf 22 = .ok (.aload_n 0, 1) := by decide +kernel
theorem dX7_stepOf_23 : decode cX7_stepOf 23 = .ok (.iconst 1, 1) := by decide +kernel
theorem dX7_stepOf_24 : decode cX7_stepOf 24 = .ok (.invokevirtual 218, 3) := by decide +kernel
theorem dX7_stepOf_27 : decode cX7_stepOf 27 = .ok (.ireturn, 1) := by decide +kernel
theorem dX7_roundsOf_0 : decode cX7_roundsOf 0 = .ok (.aload_n 0, 1) := by decide +kernel
theorem dX7_roundsOf_1 : decode cX7_roundsOf 1 = .ok (.iconst 0, 1) := by decide +kernel
theorem dX7_roundsOf_2 : decode cX7_roundsOf 2 = .ok (.putfield 120, 3) := by decide +kernel
theorem dX7_roundsOf_5 : decode cX7_roundsOf 5 = .ok (.aload_n 0, 1) := by decide +kernel
theorem dX7_roundsOf_6 : decode cX7_roundsOf 6 = .ok (.iload_n 1, 1) := by decide +kernel
theorem dX7_roundsOf_7 : decode cX7_roundsOf 7 = .ok (.invokevirtual 221, 3) := by decide +kernel
theorem dX7_roundsOf_10 : decode cX7_roundsOf 10 = .ok (.ifCond .eq 12, 3) := by decide +kernel
theorem dX7_roundsOf_13 : decode cX7_roundsOf 13 = .ok (.aload_n 0, 1) := by decide +kernel
theorem dX7_roundsOf_14 : decode cX7_roundsOf 14 = .ok (.getfield 52, 3) := by decide +kernel
theorem dX7_roundsOf_17 : decode cX7_roundsOf 17 = .ok (.iload_n 1, 1) := by decide +kernel
theorem dX7_roundsOf_18 : decode cX7_roundsOf 18 = .ok (.iaload, 1) := by decide +kernel
theorem dX7_roundsOf_19 : decode cX7_roundsOf 19 = .ok (.goto 8, 3) := by decide +kernel
theorem dX7_roundsOf_22 : decode cX7_roundsOf 22 = .ok (.aload_n 0, 1) := by decide +kernel
theorem dX7_roundsOf_23 : decode cX7_roundsOf 23 = .ok (.iconst 1, 1) := by decide +kernel
theorem dX7_roundsOf_24 : decode cX7_roundsOf 24 = .ok (.invokevirtual 218, 3) := by decide +kernel
theorem dX7_roundsOf_27 : decode cX7_roundsOf 27 = .ok (.ireturn, 1) := by decide +kernel
theorem dX7_keyOf_0 : decode cX7_keyOf 0 = .ok (.aload_n 0, 1) := by decide +kernel
theorem dX7_keyOf_1 : decode cX7_keyOf 1 = .ok (.iconst 0, 1) := by decide +kernel
theorem dX7_keyOf_2 : decode cX7_keyOf 2 = .ok (.putfield 120, 3) := by decide +kernel
theorem dX7_keyOf_5 : decode cX7_keyOf 5 = .ok (.aload_n 0, 1) := by decide +kernel
theorem dX7_keyOf_6 : decode cX7_keyOf 6 = .ok (.iload_n 1, 1) := by decide +kernel
theorem dX7_keyOf_7 : decode cX7_keyOf 7 = .ok (.invokevirtual 221, 3) := by decide +kernel
theorem dX7_keyOf_10 : decode cX7_keyOf 10 = .ok (.ifCond .eq 11, 3) := by decide +kernel
theorem dX7_keyOf_13 : decode cX7_keyOf 13 = .ok (.aload_n 0, 1) := by decide +kernel
theorem dX7_keyOf_14 : decode cX7_keyOf 14 = .ok (.iload_n 1, 1) := by decide +kernel
theorem dX7_keyOf_15 : decode cX7_keyOf 15 = .ok (.invokevirtual 131, 3) := by decide +kernel
theorem dX7_keyOf_18 : decode cX7_keyOf 18 = .ok (.goto 8, 3) := by decide +kernel
theorem dX7_keyOf_21 : decode cX7_keyOf 21 = .ok (.aload_n 0, 1) := by decide +kernel
theorem dX7_keyOf_22 : decode cX7_keyOf 22 = .ok (.iconst 1, 1) := by decide +kernel
theorem dX7_keyOf_23 : decode cX7_keyOf 23 = .ok (.invokevirtual 218, 3) := by decide +kernel
theorem dX7_keyOf_26 : decode cX7_keyOf 26 = .ok (.ireturn, 1) := by decide +kernel
theorem dX7_lentKey_0 : decode cX7_lentKey 0 = .ok (.aload_n 0, 1) := by decide +kernel
theorem dX7_lentKey_1 : decode cX7_lentKey 1 = .ok (.iconst 0, 1) := by decide +kernel
theorem dX7_lentKey_2 : decode cX7_lentKey 2 = .ok (.putfield 120, 3) := by decide +kernel
theorem dX7_lentKey_5 : decode cX7_lentKey 5 = .ok (.aload_n 0, 1) := by decide +kernel
theorem dX7_lentKey_6 : decode cX7_lentKey 6 = .ok (.iload_n 1, 1) := by decide +kernel
theorem dX7_lentKey_7 : decode cX7_lentKey 7 = .ok (.invokevirtual 221, 3) := by decide +kernel
theorem dX7_lentKey_10 : decode cX7_lentKey 10 = .ok (.ifCond .eq 11, 3) := by decide +kernel
theorem dX7_lentKey_13 : decode cX7_lentKey 13 = .ok (.aload_n 0, 1) := by decide +kernel
theorem dX7_lentKey_14 : decode cX7_lentKey 14 = .ok (.iload_n 1, 1) := by decide +kernel
theorem dX7_lentKey_15 : decode cX7_lentKey 15 = .ok (.invokevirtual 150, 3) := by decide +kernel
theorem dX7_lentKey_18 : decode cX7_lentKey 18 = .ok (.goto 8, 3) := by decide +kernel
theorem dX7_lentKey_21 : decode cX7_lentKey 21 = .ok (.aload_n 0, 1) := by decide +kernel
theorem dX7_lentKey_22 : decode cX7_lentKey 22 = .ok (.iconst 1, 1) := by decide +kernel
theorem dX7_lentKey_23 : decode cX7_lentKey 23 = .ok (.invokevirtual 218, 3) := by decide +kernel
theorem dX7_lentKey_26 : decode cX7_lentKey 26 = .ok (.ireturn, 1) := by decide +kernel
theorem dX7_standOf_0 : decode cX7_standOf 0 = .ok (.aload_n 0, 1) := by decide +kernel
theorem dX7_standOf_1 : decode cX7_standOf 1 = .ok (.iconst 0, 1) := by decide +kernel
theorem dX7_standOf_2 : decode cX7_standOf 2 = .ok (.putfield 120, 3) := by decide +kernel
theorem dX7_standOf_5 : decode cX7_standOf 5 = .ok (.aload_n 0, 1) := by decide +kernel
theorem dX7_standOf_6 : decode cX7_standOf 6 = .ok (.iload_n 1, 1) := by decide +kernel
theorem dX7_standOf_7 : decode cX7_standOf 7 = .ok (.invokevirtual 221, 3) := by decide +kernel
theorem dX7_standOf_10 : decode cX7_standOf 10 = .ok (.ifCond .eq 12, 3) := by decide +kernel
theorem dX7_standOf_13 : decode cX7_standOf 13 = .ok (.aload_n 0, 1) := by decide +kernel
theorem dX7_standOf_14 : decode cX7_standOf 14 = .ok (.getfield 58, 3) := by decide +kernel
theorem dX7_standOf_17 : decode cX7_standOf 17 = .ok (.iload_n 1, 1) := by decide +kernel
theorem dX7_standOf_18 : decode cX7_standOf 18 = .ok (.iaload, 1) := by decide +kernel
theorem dX7_standOf_19 : decode cX7_standOf 19 = .ok (.goto 8, 3) := by decide +kernel
theorem dX7_standOf_22 : decode cX7_standOf 22 = .ok (.aload_n 0, 1) := by decide +kernel
theorem dX7_standOf_23 : decode cX7_standOf 23 = .ok (.iconst 1, 1) := by decide +kernel
theorem dX7_standOf_24 : decode cX7_standOf 24 = .ok (.invokevirtual 218, 3) := by decide +kernel
theorem dX7_standOf_27 : decode cX7_standOf 27 = .ok (.ireturn, 1) := by decide +kernel
theorem dX7_levelOf_0 : decode cX7_levelOf 0 = .ok (.aload_n 0, 1) := by decide +kernel
theorem dX7_levelOf_1 : decode cX7_levelOf 1 = .ok (.iconst 0, 1) := by decide +kernel
theorem dX7_levelOf_2 : decode cX7_levelOf 2 = .ok (.putfield 120, 3) := by decide +kernel
theorem dX7_levelOf_5 : decode cX7_levelOf 5 = .ok (.aload_n 0, 1) := by decide +kernel
theorem dX7_levelOf_6 : decode cX7_levelOf 6 = .ok (.iload_n 1, 1) := by decide +kernel
theorem dX7_levelOf_7 : decode cX7_levelOf 7 = .ok (.invokevirtual 221, 3) := by decide +kernel
theorem dX7_levelOf_10 : decode cX7_levelOf 10 = .ok (.ifCond .eq 12, 3) := by decide +kernel
theorem dX7_levelOf_13 : decode cX7_levelOf 13 = .ok (.aload_n 0, 1) := by decide +kernel
theorem dX7_levelOf_14 : decode cX7_levelOf 14 = .ok (.getfield 61, 3) := by decide +kernel
theorem dX7_levelOf_17 : decode cX7_levelOf 17 = .ok (.iload_n 1, 1) := by decide +kernel
theorem dX7_levelOf_18 : decode cX7_levelOf 18 = .ok (.iaload, 1) := by decide +kernel
theorem dX7_levelOf_19 : decode cX7_levelOf 19 = .ok (.goto 8, 3) := by decide +kernel
theorem dX7_levelOf_22 : decode cX7_levelOf 22 = .ok (.aload_n 0, 1) := by decide +kernel
theorem dX7_levelOf_23 : decode cX7_levelOf 23 = .ok (.iconst 1, 1) := by decide +kernel
theorem dX7_levelOf_24 : decode cX7_levelOf 24 = .ok (.invokevirtual 218, 3) := by decide +kernel
theorem dX7_levelOf_27 : decode cX7_levelOf 27 = .ok (.ireturn, 1) := by decide +kernel
theorem dX7_told_0 : decode cX7_told 0 = .ok (.aload_n 0, 1) := by decide +kernel
theorem dX7_told_1 : decode cX7_told 1 = .ok (.iconst 0, 1) := by decide +kernel
theorem dX7_told_2 : decode cX7_told 2 = .ok (.putfield 120, 3) := by decide +kernel
theorem dX7_told_5 : decode cX7_told 5 = .ok (.aload_n 0, 1) := by decide +kernel
theorem dX7_told_6 : decode cX7_told 6 = .ok (.iload_n 1, 1) := by decide +kernel
theorem dX7_told_7 : decode cX7_told 7 = .ok (.invokevirtual 221, 3) := by decide +kernel
theorem dX7_told_10 : decode cX7_told 10 = .ok (.ifCond .ne 9, 3) := by decide +kernel
theorem dX7_told_13 : decode cX7_told 13 = .ok (.aload_n 0, 1) := by decide +kernel
theorem dX7_told_14 : decode cX7_told 14 = .ok (.iconst 1, 1) := by decide +kernel
theorem dX7_told_15 : decode cX7_told 15 = .ok (.invokevirtual 218, 3) := by decide +kernel
theorem dX7_told_18 : decode cX7_told 18 = .ok (.ireturn, 1) := by decide +kernel
theorem dX7_told_19 : decode cX7_told 19 = .ok (.iload_n 2, 1) := by decide +kernel
theorem dX7_told_20 : decode cX7_told 20 = .ok (.iconst 0, 1) := by decide +kernel
theorem dX7_told_21 : decode cX7_told 21 = .ok (.iconst 4, 1) := by decide +kernel
theorem dX7_told_22 : decode cX7_told 22 = .ok (.invokestatic 123, 3) := by decide +kernel
theorem dX7_told_25 : decode cX7_told 25 = .ok (.ifCond .eq 14, 3) := by decide +kernel
theorem dX7_told_28 : decode cX7_told 28 = .ok (.aload_n 0, 1) := by decide +kernel
theorem dX7_told_29 : decode cX7_told 29 = .ok (.getfield 76, 3) := by decide +kernel
theorem dX7_told_32 : decode cX7_told 32 = .ok (.iload_n 1, 1) := by decide +kernel
theorem dX7_told_33 : decode cX7_told 33 = .ok (.aaload, 1) := by decide +kernel
theorem dX7_told_34 : decode cX7_told 34 = .ok (.iload_n 2, 1) := by decide +kernel
theorem dX7_told_35 : decode cX7_told 35 = .ok (.iaload, 1) := by decide +kernel
theorem dX7_told_36 : decode cX7_told 36 = .ok (.goto 8, 3) := by decide +kernel
theorem dX7_told_39 : decode cX7_told 39 = .ok (.aload_n 0, 1) := by decide +kernel
theorem dX7_told_40 : decode cX7_told 40 = .ok (.iconst 2, 1) := by decide +kernel
theorem dX7_told_41 : decode cX7_told 41 = .ok (.invokevirtual 218, 3) := by decide +kernel
theorem dX7_told_44 : decode cX7_told 44 = .ok (.ireturn, 1) := by decide +kernel
theorem dX7_processors_0 : decode cX7_processors 0 = .ok (.aload_n 0, 1) := by decide +kernel
theorem dX7_processors_1 : decode cX7_processors 1 = .ok (.iconst 0, 1) := by decide +kernel
theorem dX7_processors_2 : decode cX7_processors 2 = .ok (.putfield 120, 3) := by decide +kernel
theorem dX7_processors_5 : decode cX7_processors 5 = .ok (.aload_n 0, 1) := by decide +kernel
theorem dX7_processors_6 : decode cX7_processors 6 = .ok (.getfield 16, 3) := by decide +kernel
theorem dX7_processors_9 : decode cX7_processors 9 = .ok (.ireturn, 1) := by decide +kernel
theorem dX7_isProcessor_0 : decode cX7_isProcessor 0 = .ok (.iload_n 1, 1) := by decide +kernel
theorem dX7_isProcessor_1 : decode cX7_isProcessor 1 = .ok (.iconst 0, 1) := by decide +kernel
theorem dX7_isProcessor_2 : decode cX7_isProcessor 2 = .ok (.aload_n 0, 1) := by decide +kernel
theorem dX7_isProcessor_3 : decode cX7_isProcessor 3 = .ok (.getfield 16, 3) := by decide +kernel
theorem dX7_isProcessor_6 : decode cX7_isProcessor 6 = .ok (.iconst 1, 1) := by decide +kernel
theorem dX7_isProcessor_7 : decode cX7_isProcessor 7 = .ok (.isub, 1) := by decide +kernel
theorem dX7_isProcessor_8 : decode cX7_isProcessor 8 = .ok (.invokestatic 123, 3) := by decide +kernel
theorem dX7_isProcessor_11 : decode cX7_isProcessor 11 = .ok (.ireturn, 1) := by decide +kernel
theorem dX7_on_0 : decode cX7_on 0 = .ok (.aload_n 0, 1) := by decide +kernel
theorem dX7_on_1 : decode cX7_on 1 = .ok (.iconst 0, 1) := by decide +kernel
theorem dX7_on_2 : decode cX7_on 2 = .ok (.putfield 120, 3) := by decide +kernel
theorem dX7_on_5 : decode cX7_on 5 = .ok (.aload_n 0, 1) := by decide +kernel
theorem dX7_on_6 : decode cX7_on 6 = .ok (.iload_n 1, 1) := by decide +kernel
theorem dX7_on_7 : decode cX7_on 7 = .ok (.invokevirtual 231, 3) := by decide +kernel
theorem dX7_on_10 : decode cX7_on 10 = .ok (.ifCond .eq 12, 3) := by decide +kernel
theorem dX7_on_13 : decode cX7_on 13 = .ok (.aload_n 0, 1) := by decide +kernel
theorem dX7_on_14 : decode cX7_on 14 = .ok (.getfield 79, 3) := by decide +kernel
theorem dX7_on_17 : decode cX7_on 17 = .ok (.iload_n 1, 1) := by decide +kernel
theorem dX7_on_18 : decode cX7_on 18 = .ok (.iaload, 1) := by decide +kernel
theorem dX7_on_19 : decode cX7_on 19 = .ok (.goto 8, 3) := by decide +kernel
theorem dX7_on_22 : decode cX7_on 22 = .ok (.aload_n 0, 1) := by decide +kernel
theorem dX7_on_23 : decode cX7_on 23 = .ok (.iconst 1, 1) := by decide +kernel
theorem dX7_on_24 : decode cX7_on 24 = .ok (.invokevirtual 218, 3) := by decide +kernel
theorem dX7_on_27 : decode cX7_on 27 = .ok (.ireturn, 1) := by decide +kernel
theorem dX7_ranNow_0 : decode cX7_ranNow 0 = .ok (.iload_n 2, 1) := by decide +kernel
theorem dX7_ranNow_1 : decode cX7_ranNow 1 = .ok (.aload_n 0, 1) := by decide +kernel
theorem dX7_ranNow_2 : decode cX7_ranNow 2 = .ok (.getfield 95, 3) := by decide +kernel
theorem dX7_ranNow_5 : decode cX7_ranNow 5 = .ok (.if_icmp .le 8, 3) := by decide +kernel
theorem dX7_ranNow_8 : decode cX7_ranNow 8 = .ok (.bipush (-2), 2) := by decide +kernel
theorem dX7_ranNow_10 : decode cX7_ranNow 10 = .ok (.goto 13, 3) := by decide +kernel
theorem dX7_ranNow_13 : decode cX7_ranNow 13 = .ok (.aload_n 0, 1) := by decide +kernel
theorem dX7_ranNow_14 : decode cX7_ranNow 14 = .ok (.getfield 85, 3) := by decide +kernel
theorem dX7_ranNow_17 : decode cX7_ranNow 17 = .ok (.iload_n 2, 1) := by decide +kernel
theorem dX7_ranNow_18 : decode cX7_ranNow 18 = .ok (.iconst 1, 1) := by decide +kernel
theorem dX7_ranNow_19 : decode cX7_ranNow 19 = .ok (.isub, 1) := by decide +kernel
theorem dX7_ranNow_20 : decode cX7_ranNow 20 = .ok (.aaload, 1) := by decide +kernel
theorem dX7_ranNow_21 : decode cX7_ranNow 21 = .ok (.iload_n 1, 1) := by decide +kernel
theorem dX7_ranNow_22 : decode cX7_ranNow 22 = .ok (.iaload, 1) := by decide +kernel
theorem dX7_ranNow_23 : decode cX7_ranNow 23 = .ok (.ireturn, 1) := by decide +kernel
theorem dX7_ran_0 : decode cX7_ran 0 = .ok (.aload_n 0, 1) := by decide +kernel
theorem dX7_ran_1 : decode cX7_ran 1 = .ok (.iconst 0, 1) := by decide +kernel
theorem dX7_ran_2 : decode cX7_ran 2 = .ok (.putfield 120, 3) := by decide +kernel
theorem dX7_ran_5 : decode cX7_ran 5 = .ok (.aload_n 0, 1) := by decide +kernel
theorem dX7_ran_6 : decode cX7_ran 6 = .ok (.iload_n 1, 1) := by decide +kernel
theorem dX7_ran_7 : decode cX7_ran 7 = .ok (.invokevirtual 231, 3) := by decide +kernel
theorem dX7_ran_10 : decode cX7_ran 10 = .ok (.ifCond .ne 9, 3) := by decide +kernel
theorem dX7_ran_13 : decode cX7_ran 13 = .ok (.aload_n 0, 1) := by decide +kernel
theorem dX7_ran_14 : decode cX7_ran 14 = .ok (.iconst 1, 1) := by decide +kernel
theorem dX7_ran_15 : decode cX7_ran 15 = .ok (.invokevirtual 218, 3) := by decide +kernel
theorem dX7_ran_18 : decode cX7_ran 18 = .ok (.ireturn, 1) := by decide +kernel
theorem dX7_ran_19 : decode cX7_ran 19 = .ok (.iload_n 2, 1) := by decide +kernel
theorem dX7_ran_20 : decode cX7_ran 20 = .ok (.iconst 1, 1) := by decide +kernel
theorem dX7_ran_21 : decode cX7_ran 21 = .ok (.bipush 30, 2) := by decide +kernel
theorem dX7_ran_23 : decode cX7_ran 23 = .ok (.invokestatic 123, 3) := by decide +kernel
theorem dX7_ran_26 : decode cX7_ran 26 = .ok (.ifCond .eq 12, 3) := by decide +kernel
theorem dX7_ran_29 : decode cX7_ran 29 = .ok (.aload_n 0, 1) := by decide +kernel
theorem dX7_ran_30 : decode cX7_ran 30 = .ok (.iload_n 1, 1) := by decide +kernel
theorem dX7_ran_31 : decode cX7_ran 31 = .ok (.iload_n 2, 1) := by decide +kernel
theorem dX7_ran_32 : decode cX7_ran 32 = .ok (.invokevirtual 234, 3) := by decide +kernel
theorem dX7_ran_35 : decode cX7_ran 35 = .ok (.goto 8, 3) := by decide +kernel
theorem dX7_ran_38 : decode cX7_ran 38 = .ok (.aload_n 0, 1) := by decide +kernel
theorem dX7_ran_39 : decode cX7_ran 39 = .ok (.iconst 2, 1) := by decide +kernel
theorem dX7_ran_40 : decode cX7_ran 40 = .ok (.invokevirtual 218, 3) := by decide +kernel
theorem dX7_ran_43 : decode cX7_ran 43 = .ok (.ireturn, 1) := by decide +kernel
theorem dX7_switches_0 : decode cX7_switches 0 = .ok (.aload_n 0, 1) := by decide +kernel
theorem dX7_switches_1 : decode cX7_switches 1 = .ok (.iconst 0, 1) := by decide +kernel
theorem dX7_switches_2 : decode cX7_switches 2 = .ok (.putfield 120, 3) := by decide +kernel
theorem dX7_switches_5 : decode cX7_switches 5 = .ok (.aload_n 0, 1) := by decide +kernel
theorem dX7_switches_6 : decode cX7_switches 6 = .ok (.getfield 180, 3) := by decide +kernel
theorem dX7_switches_9 : decode cX7_switches 9 = .ok (.ireturn, 1) := by decide +kernel
theorem dX7_idle_0 : decode cX7_idle 0 = .ok (.aload_n 0, 1) := by decide +kernel
theorem dX7_idle_1 : decode cX7_idle 1 = .ok (.iconst 0, 1) := by decide +kernel
theorem dX7_idle_2 : decode cX7_idle 2 = .ok (.putfield 120, 3) := by decide +kernel
theorem dX7_idle_5 : decode cX7_idle 5 = .ok (.aload_n 0, 1) := by decide +kernel
theorem dX7_idle_6 : decode cX7_idle 6 = .ok (.getfield 209, 3) := by decide +kernel
theorem dX7_idle_9 : decode cX7_idle 9 = .ok (.ireturn, 1) := by decide +kernel
theorem dX7_used_0 : decode cX7_used 0 = .ok (.aload_n 0, 1) := by decide +kernel
theorem dX7_used_1 : decode cX7_used 1 = .ok (.iconst 0, 1) := by decide +kernel
theorem dX7_used_2 : decode cX7_used 2 = .ok (.putfield 120, 3) := by decide +kernel
theorem dX7_used_5 : decode cX7_used 5 = .ok (.iload_n 1, 1) := by decide +kernel
theorem dX7_used_6 : decode cX7_used 6 = .ok (.iconst 0, 1) := by decide +kernel
theorem dX7_used_7 : decode cX7_used 7 = .ok (.iconst 3, 1) := by decide +kernel
theorem dX7_used_8 : decode cX7_used 8 = .ok (.invokestatic 123, 3) := by decide +kernel
theorem dX7_used_11 : decode cX7_used 11 = .ok (.ifCond .eq 12, 3) := by decide +kernel
theorem dX7_used_14 : decode cX7_used 14 = .ok (.aload_n 0, 1) := by decide +kernel
theorem dX7_used_15 : decode cX7_used 15 = .ok (.getfield 23, 3) := by decide +kernel
theorem dX7_used_18 : decode cX7_used 18 = .ok (.iload_n 1, 1) := by decide +kernel
theorem dX7_used_19 : decode cX7_used 19 = .ok (.iaload, 1) := by decide +kernel
theorem dX7_used_20 : decode cX7_used 20 = .ok (.goto 8, 3) := by decide +kernel
theorem dX7_used_23 : decode cX7_used 23 = .ok (.aload_n 0, 1) := by decide +kernel
theorem dX7_used_24 : decode cX7_used 24 = .ok (.iconst 1, 1) := by decide +kernel
theorem dX7_used_25 : decode cX7_used 25 = .ok (.invokevirtual 218, 3) := by decide +kernel
theorem dX7_used_28 : decode cX7_used 28 = .ok (.ireturn, 1) := by decide +kernel
theorem dX7_holder_0 : decode cX7_holder 0 = .ok (.aload_n 0, 1) := by decide +kernel
theorem dX7_holder_1 : decode cX7_holder 1 = .ok (.iconst 0, 1) := by decide +kernel
theorem dX7_holder_2 : decode cX7_holder 2 = .ok (.putfield 120, 3) := by decide +kernel
theorem dX7_holder_5 : decode cX7_holder 5 = .ok (.iload_n 1, 1) := by decide +kernel
theorem dX7_holder_6 : decode cX7_holder 6 = .ok (.iconst 0, 1) := by decide +kernel
theorem dX7_holder_7 : decode cX7_holder 7 = .ok (.iconst 5, 1) := by decide +kernel
theorem dX7_holder_8 : decode cX7_holder 8 = .ok (.invokestatic 123, 3) := by decide +kernel
theorem dX7_holder_11 : decode cX7_holder 11 = .ok (.ifCond .eq 12, 3) := by decide +kernel
theorem dX7_holder_14 : decode cX7_holder 14 = .ok (.aload_n 0, 1) := by decide +kernel
theorem dX7_holder_15 : decode cX7_holder 15 = .ok (.getfield 88, 3) := by decide +kernel
theorem dX7_holder_18 : decode cX7_holder 18 = .ok (.iload_n 1, 1) := by decide +kernel
theorem dX7_holder_19 : decode cX7_holder 19 = .ok (.iaload, 1) := by decide +kernel
theorem dX7_holder_20 : decode cX7_holder 20 = .ok (.goto 8, 3) := by decide +kernel
theorem dX7_holder_23 : decode cX7_holder 23 = .ok (.aload_n 0, 1) := by decide +kernel
theorem dX7_holder_24 : decode cX7_holder 24 = .ok (.iconst 1, 1) := by decide +kernel
theorem dX7_holder_25 : decode cX7_holder 25 = .ok (.invokevirtual 218, 3) := by decide +kernel
theorem dX7_holder_28 : decode cX7_holder 28 = .ok (.ireturn, 1) := by decide +kernel
theorem dX7_those_0 : decode cX7_those 0 = .ok (.iconst 0, 1) := by decide +kernel
theorem dX7_those_1 : decode cX7_those 1 = .ok (.istore_n 3, 1) := by decide +kernel
theorem dX7_those_2 : decode cX7_those 2 = .ok (.iconst 0, 1) := by decide +kernel
theorem dX7_those_3 : decode cX7_those 3 = .ok (.istore 4, 2) := by decide +kernel
theorem dX7_those_5 : decode cX7_those 5 = .ok (.iload 4, 2) := by decide +kernel
theorem dX7_those_7 : decode cX7_those 7 = .ok (.aload_n 0, 1) := by decide +kernel
theorem dX7_those_8 : decode cX7_those 8 = .ok (.getfield 110, 3) := by decide +kernel
theorem dX7_those_11 : decode cX7_those 11 = .ok (.if_icmp .ge 42, 3) := by decide +kernel
theorem dX7_those_14 : decode cX7_those 14 = .ok (.iload_n 3, 1) := by decide +kernel
theorem dX7_those_15 : decode cX7_those 15 = .ok (.aload_n 0, 1) := by decide +kernel
theorem dX7_those_16 : decode cX7_those 16 = .ok (.getfield 46, 3) := by decide +kernel
theorem dX7_those_19 : decode cX7_those 19 = .ok (.iload 4, 2) := by decide +kernel
theorem dX7_those_21 : decode cX7_those 21 = .ok (.iaload, 1) := by decide +kernel
theorem dX7_those_22 : decode cX7_those 22 = .ok (.iload_n 1, 1) := by decide +kernel
theorem dX7_those_23 : decode cX7_those 23 = .ok (.if_icmp .ne 21, 3) := by decide +kernel
theorem dX7_those_26 : decode cX7_those 26 = .ok (.aload_n 0, 1) := by decide +kernel
theorem dX7_those_27 : decode cX7_those 27 = .ok (.getfield 70, 3) := by decide +kernel
theorem dX7_those_30 : decode cX7_those 30 = .ok (.iload 4, 2) := by decide +kernel
theorem dX7_those_32 : decode cX7_those 32 = .ok (.iaload, 1) := by decide +kernel
theorem dX7_those_33 : decode cX7_those 33 = .ok (.iload_n 2, 1) := by decide +kernel
theorem dX7_those_34 : decode cX7_those 34 = .ok (.if_icmp .ne 10, 3) := by decide +kernel
theorem dX7_those_37 : decode cX7_those 37 = .ok (.iconst 1, 1) := by decide +kernel
theorem dX7_those_38 : decode cX7_those 38 = .ok (.iload 4, 2) := by decide +kernel
theorem dX7_those_40 : decode cX7_those 40 = .ok (.ishl, 1) := by decide +kernel
theorem dX7_those_41 : decode cX7_those 41 = .ok (.goto 4, 3) := by decide +kernel
theorem dX7_those_44 : decode cX7_those 44 = .ok (.iconst 0, 1) := by decide +kernel
theorem dX7_those_45 : decode cX7_those 45 = .ok (.ior, 1) := by decide +kernel
theorem dX7_those_46 : decode cX7_those 46 = .ok (.istore_n 3, 1) := by decide +kernel
theorem dX7_those_47 : decode cX7_those 47 = .ok (.iinc 4 1, 3) := by decide +kernel
theorem dX7_those_50 : decode cX7_those 50 = .ok (.goto (-45), 3) := by decide +kernel
theorem dX7_those_53 : decode cX7_those 53 = .ok (.iload_n 3, 1) := by decide +kernel
theorem dX7_those_54 : decode cX7_those 54 = .ok (.ireturn, 1) := by decide +kernel
theorem dX7_blocked_0 : decode cX7_blocked 0 = .ok (.aload_n 0, 1) := by decide +kernel
theorem dX7_blocked_1 : decode cX7_blocked 1 = .ok (.iconst 0, 1) := by decide +kernel
theorem dX7_blocked_2 : decode cX7_blocked 2 = .ok (.putfield 120, 3) := by decide +kernel
theorem dX7_blocked_5 : decode cX7_blocked 5 = .ok (.iload_n 1, 1) := by decide +kernel
theorem dX7_blocked_6 : decode cX7_blocked 6 = .ok (.iconst 0, 1) := by decide +kernel
theorem dX7_blocked_7 : decode cX7_blocked 7 = .ok (.iconst 5, 1) := by decide +kernel
theorem dX7_blocked_8 : decode cX7_blocked 8 = .ok (.invokestatic 123, 3) := by decide +kernel
theorem dX7_blocked_11 : decode cX7_blocked 11 = .ok (.ifCond .eq 12, 3) := by decide +kernel
theorem dX7_blocked_14 : decode cX7_blocked 14 = .ok (.aload_n 0, 1) := by decide +kernel
theorem dX7_blocked_15 : decode cX7_blocked 15 = .ok (.iconst 4, 1) := by decide +kernel
theorem dX7_blocked_16 : decode cX7_blocked 16 = .ok (.iload_n 1, 1) := by decide +kernel
theorem dX7_blocked_17 : decode cX7_blocked 17 = .ok (.invokevirtual 237, 3) := by decide +kernel
theorem dX7_blocked_20 : decode cX7_blocked 20 = .ok (.goto 8, 3) := by decide +kernel
theorem dX7_blocked_23 : decode cX7_blocked 23 = .ok (.aload_n 0, 1) := by decide +kernel
theorem dX7_blocked_24 : decode cX7_blocked 24 = .ok (.iconst 1, 1) := by decide +kernel
theorem dX7_blocked_25 : decode cX7_blocked 25 = .ok (.invokevirtual 218, 3) := by decide +kernel
theorem dX7_blocked_28 : decode cX7_blocked 28 = .ok (.ireturn, 1) := by decide +kernel
theorem dX7_number_0 : decode cX7_number 0 = .ok (.aload_n 0, 1) := by decide +kernel
theorem dX7_number_1 : decode cX7_number 1 = .ok (.iconst 0, 1) := by decide +kernel
theorem dX7_number_2 : decode cX7_number 2 = .ok (.putfield 120, 3) := by decide +kernel
theorem dX7_number_5 : decode cX7_number 5 = .ok (.iload_n 1, 1) := by decide +kernel
theorem dX7_number_6 : decode cX7_number 6 = .ok (.iconst 0, 1) := by decide +kernel
theorem dX7_number_7 : decode cX7_number 7 = .ok (.iconst 5, 1) := by decide +kernel
theorem dX7_number_8 : decode cX7_number 8 = .ok (.invokestatic 123, 3) := by decide +kernel
theorem dX7_number_11 : decode cX7_number 11 = .ok (.ifCond .eq 12, 3) := by decide +kernel
theorem dX7_number_14 : decode cX7_number 14 = .ok (.aload_n 0, 1) := by decide +kernel
theorem dX7_number_15 : decode cX7_number 15 = .ok (.getfield 91, 3) := by decide +kernel
theorem dX7_number_18 : decode cX7_number 18 = .ok (.iload_n 1, 1) := by decide +kernel
theorem dX7_number_19 : decode cX7_number 19 = .ok (.iaload, 1) := by decide +kernel
theorem dX7_number_20 : decode cX7_number 20 = .ok (.goto 8, 3) := by decide +kernel
theorem dX7_number_23 : decode cX7_number 23 = .ok (.aload_n 0, 1) := by decide +kernel
theorem dX7_number_24 : decode cX7_number 24 = .ok (.iconst 1, 1) := by decide +kernel
theorem dX7_number_25 : decode cX7_number 25 = .ok (.invokevirtual 218, 3) := by decide +kernel
theorem dX7_number_28 : decode cX7_number 28 = .ok (.ireturn, 1) := by decide +kernel
theorem dX7_awaiting_0 : decode cX7_awaiting 0 = .ok (.aload_n 0, 1) := by decide +kernel
theorem dX7_awaiting_1 : decode cX7_awaiting 1 = .ok (.iconst 0, 1) := by decide +kernel
theorem dX7_awaiting_2 : decode cX7_awaiting 2 = .ok (.putfield 120, 3) := by decide +kernel
theorem dX7_awaiting_5 : decode cX7_awaiting 5 = .ok (.iload_n 1, 1) := by decide +kernel
theorem dX7_awaiting_6 : decode cX7_awaiting 6 = .ok (.iconst 0, 1) := by decide +kernel
theorem dX7_awaiting_7 : decode cX7_awaiting 7 = .ok (.iconst 5, 1) := by decide +kernel
theorem dX7_awaiting_8 : decode cX7_awaiting 8 = .ok (.invokestatic 123, 3) := by decide +kernel
theorem dX7_awaiting_11 : decode cX7_awaiting 11 = .ok (.ifCond .eq 12, 3) := by decide +kernel
theorem dX7_awaiting_14 : decode cX7_awaiting 14 = .ok (.aload_n 0, 1) := by decide +kernel
theorem dX7_awaiting_15 : decode cX7_awaiting 15 = .ok (.iconst 5, 1) := by decide +kernel
theorem dX7_awaiting_16 : decode cX7_awaiting 16 = .ok (.iload_n 1, 1) := by decide +kernel
theorem dX7_awaiting_17 : decode cX7_awaiting 17 = .ok (.invokevirtual 237, 3) := by decide +kernel
theorem dX7_awaiting_20 : decode cX7_awaiting 20 = .ok (.goto 8, 3) := by decide +kernel
theorem dX7_awaiting_23 : decode cX7_awaiting 23 = .ok (.aload_n 0, 1) := by decide +kernel
theorem dX7_awaiting_24 : decode cX7_awaiting 24 = .ok (.iconst 1, 1) := by decide +kernel
theorem dX7_awaiting_25 : decode cX7_awaiting 25 = .ok (.invokevirtual 218, 3) := by decide +kernel
theorem dX7_awaiting_28 : decode cX7_awaiting 28 = .ok (.ireturn, 1) := by decide +kernel
theorem dX7_stuckNow_0 : decode cX7_stuckNow 0 = .ok (.iconst 0, 1) := by decide +kernel
theorem dX7_stuckNow_1 : decode cX7_stuckNow 1 = .ok (.istore_n 1, 1) := by decide +kernel
theorem dX7_stuckNow_2 : decode cX7_stuckNow 2 = .ok (.iconst 0, 1) := by decide +kernel
theorem dX7_stuckNow_3 : decode cX7_stuckNow 3 = .ok (.istore_n 2, 1) := by decide +kernel
theorem dX7_stuckNow_4 : decode cX7_stuckNow 4 = .ok (.iload_n 2, 1) := by decide +kernel
theorem dX7_stuckNow_5 : decode cX7_stuckNow 5 = .ok (.aload_n 0, 1) := by decide +kernel
theorem dX7_stuckNow_6 : decode cX7_stuckNow 6 = .ok (.getfield 110, 3) := by decide +kernel
theorem dX7_stuckNow_9 : decode cX7_stuckNow 9 = .ok (.if_icmp .ge 71, 3) := by decide +kernel
theorem dX7_stuckNow_12 : decode cX7_stuckNow 12 = .ok (.iload_n 2, 1) := by decide +kernel
theorem dX7_stuckNow_13 : decode cX7_stuckNow 13 = .ok (.istore_n 3, 1) := by decide +kernel
theorem dX7_stuckNow_14 : decode cX7_stuckNow 14 = .ok (.iconst 0, 1) := by decide +kernel
theorem dX7_stuckNow_15 : decode cX7_stuckNow 15 = .ok (.istore 4, 2) := by decide +kernel
theorem dX7_stuckNow_17 : decode cX7_stuckNow 17 = .ok (.iload 4, 2) := by decide +kernel
theorem dX7_stuckNow_19 : decode cX7_stuckNow 19 = .ok (.aload_n 0, 1) := by decide +kernel
theorem dX7_stuckNow_20 : decode cX7_stuckNow 20 = .ok (.getfield 110, 3) := by decide +kernel
theorem dX7_stuckNow_23 : decode cX7_stuckNow 23 = .ok (.if_icmp .gt 31, 3) := by decide +kernel
theorem dX7_stuckNow_26 : decode cX7_stuckNow 26 = .ok (.aload_n 0, 1) := by decide +kernel
theorem dX7_stuckNow_27 : decode cX7_stuckNow 27 = .ok (.getfield 46, 3) := by decide +kernel
theorem dX7_stuckNow_30 : decode cX7_stuckNow 30 = .ok (.iload_n 3, 1) := by decide +kernel
theorem dX7_stuckNow_31 : decode cX7_stuckNow 31 = .ok (.iaload, 1) := by decide +kernel
theorem dX7_stuckNow_32 : decode cX7_stuckNow 32 = .ok (.iconst 4, 1) := by decide +kernel
theorem dX7_stuckNow_33 : decode cX7_stuckNow 33 = .ok (.if_icmp .ne 21, 3) := by decide +kernel
theorem dX7_stuckNow_36 : decode cX7_stuckNow 36 = .ok (.aload_n 0, 1) := by decide +kernel
theorem dX7_stuckNow_37 : decode cX7_stuckNow 37 = .ok (.getfield 88, 3) := by decide +kernel
theorem dX7_stuckNow_40 : decode cX7_stuckNow 40 = .ok (.aload_n 0, 1) := by decide +kernel
theorem dX7_stuckNow_41 : decode cX7_stuckNow 41 = .ok (.getfield 70, 3) := by decide +kernel
theorem dX7_stuckNow_44 : decode cX7_stuckNow 44 = .ok (.iload_n 3, 1) := by decide +kernel
theorem dX7_stuckNow_45 : decode cX7_stuckNow 45 = .ok (.iaload, 1) := by decide +kernel
theorem dX7_stuckNow_46 : decode cX7_stuckNow 46 = .ok (.iaload, 1) := by decide +kernel
theorem dX7_stuckNow_47 : decode cX7_stuckNow 47 = .ok (.istore_n 3, 1) := by decide +kernel
theorem dX7_stuckNow_48 : decode cX7_stuckNow 48 = .ok (.iinc 4 1, 3) := by decide +kernel
theorem dX7_stuckNow_51 : decode cX7_stuckNow 51 = .ok (.goto (-34), 3) := by decide +kernel
theorem dX7_stuckNow_54 : decode cX7_stuckNow 54 = .ok (.iload_n 1, 1) := by decide +kernel
theorem dX7_stuckNow_55 : decode cX7_stuckNow 55 = .ok (.aload_n 0, 1) := by decide +kernel
theorem dX7_stuckNow_56 : decode cX7_stuckNow 56 = .ok (.getfield 46, 3) := by decide +kernel
theorem dX7_stuckNow_59 : decode cX7_stuckNow 59 = .ok (.iload_n 3, 1) := by decide +kernel
theorem dX7_stuckNow_60 : decode cX7_stuckNow 60 = .ok (.iaload, 1) := by decide +kernel
theorem dX7_stuckNow_61 : decode cX7_stuckNow 61 = .ok (.iconst 4, 1) := by decide +kernel
theorem dX7_stuckNow_62 : decode cX7_stuckNow 62 = .ok (.if_icmp .ne 9, 3) := by decide +kernel
theorem dX7_stuckNow_65 : decode cX7_stuckNow 65 = .ok (.iconst 1, 1) := by decide +kernel
theorem dX7_stuckNow_66 : decode cX7_stuckNow 66 = .ok (.iload_n 2, 1) := by decide +kernel
theorem dX7_stuckNow_67 : decode cX7_stuckNow 67 = .ok (.ishl, 1) := by decide +kernel
theorem dX7_stuckNow_68 : decode cX7_stuckNow 68 = .ok (.goto 4, 3) := by decide +kernel
theorem dX7_stuckNow_71 : decode cX7_stuckNow 71 = .ok (.iconst 0, 1) := by decide +kernel
theorem dX7_stuckNow_72 : decode cX7_stuckNow 72 = .ok (.ior, 1) := by decide +kernel
theorem dX7_stuckNow_73 : decode cX7_stuckNow 73 = .ok (.istore_n 1, 1) := by decide +kernel
theorem dX7_stuckNow_74 : decode cX7_stuckNow 74 = .ok (.iinc 2 1, 3) := by decide +kernel
theorem dX7_stuckNow_77 : decode cX7_stuckNow 77 = .ok (.goto (-73), 3) := by decide +kernel
theorem dX7_stuckNow_80 : decode cX7_stuckNow 80 = .ok (.iload_n 1, 1) := by decide +kernel
theorem dX7_stuckNow_81 : decode cX7_stuckNow 81 = .ok (.ireturn, 1) := by decide +kernel
theorem dX7_stuck_0 : decode cX7_stuck 0 = .ok (.aload_n 0, 1) := by decide +kernel
theorem dX7_stuck_1 : decode cX7_stuck 1 = .ok (.iconst 0, 1) := by decide +kernel
theorem dX7_stuck_2 : decode cX7_stuck 2 = .ok (.putfield 120, 3) := by decide +kernel
theorem dX7_stuck_5 : decode cX7_stuck 5 = .ok (.aload_n 0, 1) := by decide +kernel
theorem dX7_stuck_6 : decode cX7_stuck 6 = .ok (.invokevirtual 240, 3) := by decide +kernel
theorem dX7_stuck_9 : decode cX7_stuck 9 = .ok (.ireturn, 1) := by decide +kernel
theorem dX7_load_0 : decode cX7_load 0 = .ok (.aload_n 0, 1) := by decide +kernel
theorem dX7_load_1 : decode cX7_load 1 = .ok (.iconst 0, 1) := by decide +kernel
theorem dX7_load_2 : decode cX7_load 2 = .ok (.putfield 120, 3) := by decide +kernel
theorem dX7_load_5 : decode cX7_load 5 = .ok (.aload_n 0, 1) := by decide +kernel
theorem dX7_load_6 : decode cX7_load 6 = .ok (.getfield 215, 3) := by decide +kernel
theorem dX7_load_9 : decode cX7_load 9 = .ok (.ifCond .ne 7, 3) := by decide +kernel
theorem dX7_load_12 : decode cX7_load 12 = .ok (.dconst 0, 1) := by decide +kernel
theorem dX7_load_13 : decode cX7_load 13 = .ok (.goto 14, 3) := by decide +kernel
theorem dX7_load_16 : decode cX7_load 16 = .ok (.aload_n 0, 1) := by decide +kernel
theorem dX7_load_17 : decode cX7_load 17 = .ok (.getfield 212, 3) := by decide +kernel
theorem dX7_load_20 : decode cX7_load 20 = .ok (.i2d, 1) := by decide +kernel
theorem dX7_load_21 : decode cX7_load 21 = .ok (.aload_n 0, 1) := by decide +kernel
theorem dX7_load_22 : decode cX7_load 22 = .ok (.getfield 215, 3) := by decide +kernel
theorem dX7_load_25 : decode cX7_load 25 = .ok (.i2d, 1) := by decide +kernel
theorem dX7_load_26 : decode cX7_load 26 = .ok (.ddiv, 1) := by decide +kernel
theorem dX7_load_27 : decode cX7_load 27 = .ok (.dreturn, 1) := by decide +kernel
theorem dX7_doneAhead_0 : decode cX7_doneAhead 0 = .ok (.iconst 0, 1) := by decide +kernel
theorem dX7_doneAhead_1 : decode cX7_doneAhead 1 = .ok (.istore_n 3, 1) := by decide +kernel
theorem dX7_doneAhead_2 : decode cX7_doneAhead 2 = .ok (.iload_n 3, 1) := by decide +kernel
theorem dX7_doneAhead_3 : decode cX7_doneAhead 3 = .ok (.iload_n 2, 1) := by decide +kernel
theorem dX7_doneAhead_4 : decode cX7_doneAhead 4 = .ok (.if_icmp .gt 31, 3) := by decide +kernel
theorem dX7_doneAhead_7 : decode cX7_doneAhead 7 = .ok (.aload_n 0, 1) := by decide +kernel
theorem dX7_doneAhead_8 : decode cX7_doneAhead 8 = .ok (.getfield 46, 3) := by decide +kernel
theorem dX7_doneAhead_11 : decode cX7_doneAhead 11 = .ok (.iload_n 1, 1) := by decide +kernel
theorem dX7_doneAhead_12 : decode cX7_doneAhead 12 = .ok (.iaload, 1) := by decide +kernel
theorem dX7_doneAhead_13 : decode cX7_doneAhead 13 = .ok (.bipush 6, 2) := by decide +kernel
theorem dX7_doneAhead_15 : decode cX7_doneAhead 15 = .ok (.if_icmp .ne 5, 3) := by decide +kernel
theorem dX7_doneAhead_18 : decode cX7_doneAhead 18 = .ok (.iload_n 3, 1) := by decide +kernel
theorem dX7_doneAhead_19 : decode cX7_doneAhead 19 = .ok (.ireturn, 1) := by decide +kernel
theorem dX7_doneAhead_20 : decode cX7_doneAhead 20 = .ok (.iload_n 3, 1) := by decide +kernel
theorem dX7_doneAhead_21 : decode cX7_doneAhead 21 = .ok (.iload_n 2, 1) := by decide +kernel
theorem dX7_doneAhead_22 : decode cX7_doneAhead 22 = .ok (.if_icmp .ge 7, 3) := by decide +kernel
theorem dX7_doneAhead_25 : decode cX7_doneAhead 25 = .ok (.aload_n 0, 1) := by decide +kernel
theorem dX7_doneAhead_26 : decode cX7_doneAhead 26 = .ok (.invokevirtual 228, 3) := by decide +kernel
theorem dX7_doneAhead_29 : decode cX7_doneAhead 29 = .ok (.iinc 3 1, 3) := by decide +kernel
theorem dX7_doneAhead_32 : decode cX7_doneAhead 32 = .ok (.goto (-30), 3) := by decide +kernel
theorem dX7_doneAhead_35 : decode cX7_doneAhead 35 = .ok (.iconst (-1), 1) := by decide +kernel
theorem dX7_doneAhead_36 : decode cX7_doneAhead 36 = .ok (.ireturn, 1) := by decide +kernel
theorem dX7_doneIn_0 : decode cX7_doneIn 0 = .ok (.aload_n 0, 1) := by decide +kernel
theorem dX7_doneIn_1 : decode cX7_doneIn 1 = .ok (.iconst 0, 1) := by decide +kernel
theorem dX7_doneIn_2 : decode cX7_doneIn 2 = .ok (.putfield 120, 3) := by decide +kernel
theorem dX7_doneIn_5 : decode cX7_doneIn 5 = .ok (.aload_n 0, 1) := by decide +kernel
theorem dX7_doneIn_6 : decode cX7_doneIn 6 = .ok (.iload_n 1, 1) := by decide +kernel
theorem dX7_doneIn_7 : decode cX7_doneIn 7 = .ok (.invokevirtual 221, 3) := by decide +kernel
theorem dX7_doneIn_10 : decode cX7_doneIn 10 = .ok (.ifCond .ne 9, 3) := by decide +kernel
theorem dX7_doneIn_13 : decode cX7_doneIn 13 = .ok (.aload_n 0, 1) := by decide +kernel
theorem dX7_doneIn_14 : decode cX7_doneIn 14 = .ok (.iconst 1, 1) := by decide +kernel
theorem dX7_doneIn_15 : decode cX7_doneIn 15 = .ok (.invokevirtual 218, 3) := by decide +kernel
theorem dX7_doneIn_18 : decode cX7_doneIn 18 = .ok (.ireturn, 1) := by decide +kernel
theorem dX7_doneIn_19 : decode cX7_doneIn 19 = .ok (.iload_n 2, 1) := by decide +kernel
theorem dX7_doneIn_20 : decode cX7_doneIn 20 = .ok (.iconst 1, 1) := by decide +kernel
theorem dX7_doneIn_21 : decode cX7_doneIn 21 = .ok (.bipush 60, 2) := by decide +kernel
theorem dX7_doneIn_23 : decode cX7_doneIn 23 = .ok (.invokestatic 123, 3) := by decide +kernel
theorem dX7_doneIn_26 : decode cX7_doneIn 26 = .ok (.ifCond .eq 15, 3) := by decide +kernel
theorem dX7_doneIn_29 : decode cX7_doneIn 29 = .ok (.aload_n 0, 1) := by decide +kernel
theorem dX7_doneIn_30 : decode cX7_doneIn 30 = .ok (.invokevirtual 244, 3) := by decide +kernel
theorem dX7_doneIn_33 : decode cX7_doneIn 33 = .ok (.iload_n 1, 1) := by decide +kernel
theorem dX7_doneIn_34 : decode cX7_doneIn 34 = .ok (.iload_n 2, 1) := by decide +kernel
theorem dX7_doneIn_35 : decode cX7_doneIn 35 = .ok (.invokestatic 248, 3) := by decide +kernel
theorem dX7_doneIn_38 : decode cX7_doneIn 38 = .ok (.goto 8, 3) := by decide +kernel
theorem dX7_doneIn_41 : decode cX7_doneIn 41 = .ok (.aload_n 0, 1) := by decide +kernel
theorem dX7_doneIn_42 : decode cX7_doneIn 42 = .ok (.iconst 2, 1) := by decide +kernel
theorem dX7_doneIn_43 : decode cX7_doneIn 43 = .ok (.invokevirtual 218, 3) := by decide +kernel
theorem dX7_doneIn_46 : decode cX7_doneIn 46 = .ok (.ireturn, 1) := by decide +kernel
theorem dX7_doneWith_0 : decode cX7_doneWith 0 = .ok (.aload_n 0, 1) := by decide +kernel
theorem dX7_doneWith_1 : decode cX7_doneWith 1 = .ok (.iconst 0, 1) := by decide +kernel
theorem dX7_doneWith_2 : decode cX7_doneWith 2 = .ok (.putfield 120, 3) := by decide +kernel
theorem dX7_doneWith_5 : decode cX7_doneWith 5 = .ok (.aload_n 0, 1) := by decide +kernel
theorem dX7_doneWith_6 : decode cX7_doneWith 6 = .ok (.iload_n 1, 1) := by decide +kernel
theorem dX7_doneWith_7 : decode cX7_doneWith 7 = .ok (.invokevirtual 221, 3) := by decide +kernel
theorem dX7_doneWith_10 : decode cX7_doneWith 10 = .ok (.ifCond .ne 9, 3) := by decide +kernel
theorem dX7_doneWith_13 : decode cX7_doneWith 13 = .ok (.aload_n 0, 1) := by decide +kernel
theorem dX7_doneWith_14 : decode cX7_doneWith 14 = .ok (.iconst 1, 1) := by decide +kernel
theorem dX7_doneWith_15 : decode cX7_doneWith 15 = .ok (.invokevirtual 218, 3) := by decide +kernel
theorem dX7_doneWith_18 : decode cX7_doneWith 18 = .ok (.ireturn, 1) := by decide +kernel
theorem dX7_doneWith_19 : decode cX7_doneWith 19 = .ok (.iload_n 2, 1) := by decide +kernel
theorem dX7_doneWith_20 : decode cX7_doneWith 20 = .ok (.iconst 0, 1) := by decide +kernel
theorem dX7_doneWith_21 : decode cX7_doneWith 21 = .ok (.bipush 7, 2) := by decide +kernel
theorem dX7_doneWith_23 : decode cX7_doneWith 23 = .ok (.invokestatic 123, 3) := by decide +kernel
theorem dX7_doneWith_26 : decode cX7_doneWith 26 = .ok (.ifCond .eq 13, 3) := by decide +kernel
theorem dX7_doneWith_29 : decode cX7_doneWith 29 = .ok (.iload_n 3, 1) := by decide +kernel
theorem dX7_doneWith_30 : decode cX7_doneWith 30 = .ok (.iconst 1, 1) := by decide +kernel
theorem dX7_doneWith_31 : decode cX7_doneWith 31 = .ok (.bipush 60, 2) := by decide +kernel
theorem dX7_doneWith_33 : decode cX7_doneWith 33 = .ok (.invokestatic 123, 3) := by decide +kernel
theorem dX7_doneWith_36 : decode cX7_doneWith 36 = .ok (.ifCond .ne 9, 3) := by decide +kernel
theorem dX7_doneWith_39 : decode cX7_doneWith 39 = .ok (.aload_n 0, 1) := by decide +kernel
theorem dX7_doneWith_40 : decode cX7_doneWith 40 = .ok (.iconst 2, 1) := by decide +kernel
theorem dX7_doneWith_41 : decode cX7_doneWith 41 = .ok (.invokevirtual 218, 3) := by decide +kernel
theorem dX7_doneWith_44 : decode cX7_doneWith 44 = .ok (.ireturn, 1) := by decide +kernel
theorem dX7_doneWith_45 : decode cX7_doneWith 45 = .ok (.aload_n 0, 1) := by decide +kernel
theorem dX7_doneWith_46 : decode cX7_doneWith 46 = .ok (.invokevirtual 244, 3) := by decide +kernel
theorem dX7_doneWith_49 : decode cX7_doneWith 49 = .ok (.astore 4, 2) := by decide +kernel
theorem dX7_doneWith_51 : decode cX7_doneWith 51 = .ok (.aload 4, 2) := by decide +kernel
theorem dX7_doneWith_53 : decode cX7_doneWith 53 = .ok (.getfield 26, 3) := by decide +kernel
theorem dX7_doneWith_56 : decode cX7_doneWith 56 = .ok (.iload_n 1, 1) := by decide +kernel
theorem dX7_doneWith_57 : decode cX7_doneWith 57 = .ok (.iload_n 2, 1) := by decide +kernel
theorem dX7_doneWith_58 : decode cX7_doneWith 58 = .ok (.iastore, 1) := by decide +kernel
theorem dX7_doneWith_59 : decode cX7_doneWith 59 = .ok (.aload 4, 2) := by decide +kernel
theorem dX7_doneWith_61 : decode cX7_doneWith 61 = .ok (.iload_n 1, 1) := by decide +kernel
theorem dX7_doneWith_62 : decode cX7_doneWith 62 = .ok (.iload_n 3, 1) := by decide +kernel
theorem dX7_doneWith_63 : decode cX7_doneWith 63 = .ok (.invokestatic 248, 3) := by decide +kernel
theorem dX7_doneWith_66 : decode cX7_doneWith 66 = .ok (.ireturn, 1) := by decide +kernel
theorem dX7_idleIn_0 : decode cX7_idleIn 0 = .ok (.aload_n 0, 1) := by decide +kernel
theorem dX7_idleIn_1 : decode cX7_idleIn 1 = .ok (.iconst 0, 1) := by decide +kernel
theorem dX7_idleIn_2 : decode cX7_idleIn 2 = .ok (.putfield 120, 3) := by decide +kernel
theorem dX7_idleIn_5 : decode cX7_idleIn 5 = .ok (.iload_n 1, 1) := by decide +kernel
theorem dX7_idleIn_6 : decode cX7_idleIn 6 = .ok (.iconst 1, 1) := by decide +kernel
theorem dX7_idleIn_7 : decode cX7_idleIn 7 = .ok (.bipush 60, 2) := by decide +kernel
theorem dX7_idleIn_9 : decode cX7_idleIn 9 = .ok (.invokestatic 123, 3) := by decide +kernel
theorem dX7_idleIn_12 : decode cX7_idleIn 12 = .ok (.ifCond .ne 9, 3) := by decide +kernel
theorem dX7_idleIn_15 : decode cX7_idleIn 15 = .ok (.aload_n 0, 1) := by decide +kernel
theorem dX7_idleIn_16 : decode cX7_idleIn 16 = .ok (.iconst 1, 1) := by decide +kernel
theorem dX7_idleIn_17 : decode cX7_idleIn 17 = .ok (.invokevirtual 218, 3) := by decide +kernel
theorem dX7_idleIn_20 : decode cX7_idleIn 20 = .ok (.ireturn, 1) := by decide +kernel
theorem dX7_idleIn_21 : decode cX7_idleIn 21 = .ok (.aload_n 0, 1) := by decide +kernel
theorem dX7_idleIn_22 : decode cX7_idleIn 22 = .ok (.invokevirtual 244, 3) := by decide +kernel
theorem dX7_idleIn_25 : decode cX7_idleIn 25 = .ok (.astore_n 2, 1) := by decide +kernel
theorem dX7_idleIn_26 : decode cX7_idleIn 26 = .ok (.iconst 0, 1) := by decide +kernel
theorem dX7_idleIn_27 : decode cX7_idleIn 27 = .ok (.istore_n 3, 1) := by decide +kernel
theorem dX7_idleIn_28 : decode cX7_idleIn 28 = .ok (.iload_n 3, 1) := by decide +kernel
theorem dX7_idleIn_29 : decode cX7_idleIn 29 = .ok (.iload_n 1, 1) := by decide +kernel
theorem dX7_idleIn_30 : decode cX7_idleIn 30 = .ok (.if_icmp .ge 13, 3) := by decide +kernel
theorem dX7_idleIn_33 : decode cX7_idleIn 33 = .ok (.aload_n 2, 1) := by decide +kernel
theorem dX7_idleIn_34 : decode cX7_idleIn 34 = .ok (.invokevirtual 228, 3) := by decide +kernel
theorem dX7_idleIn_37 : decode cX7_idleIn 37 = .ok (.iinc 3 1, 3) := by decide +kernel
theorem dX7_idleIn_40 : decode cX7_idleIn 40 = .ok (.goto (-12), 3) := by decide +kernel
theorem dX7_idleIn_43 : decode cX7_idleIn 43 = .ok (.aload_n 2, 1) := by decide +kernel
theorem dX7_idleIn_44 : decode cX7_idleIn 44 = .ok (.getfield 209, 3) := by decide +kernel
theorem dX7_idleIn_47 : decode cX7_idleIn 47 = .ok (.ireturn, 1) := by decide +kernel
theorem dX7_stuckIn_0 : decode cX7_stuckIn 0 = .ok (.aload_n 0, 1) := by decide +kernel
theorem dX7_stuckIn_1 : decode cX7_stuckIn 1 = .ok (.iconst 0, 1) := by decide +kernel
theorem dX7_stuckIn_2 : decode cX7_stuckIn 2 = .ok (.putfield 120, 3) := by decide +kernel
theorem dX7_stuckIn_5 : decode cX7_stuckIn 5 = .ok (.iload_n 1, 1) := by decide +kernel
theorem dX7_stuckIn_6 : decode cX7_stuckIn 6 = .ok (.iconst 1, 1) := by decide +kernel
theorem dX7_stuckIn_7 : decode cX7_stuckIn 7 = .ok (.bipush 60, 2) := by decide +kernel
theorem dX7_stuckIn_9 : decode cX7_stuckIn 9 = .ok (.invokestatic 123, 3) := by decide +kernel
theorem dX7_stuckIn_12 : decode cX7_stuckIn 12 = .ok (.ifCond .ne 9, 3) := by decide +kernel
theorem dX7_stuckIn_15 : decode cX7_stuckIn 15 = .ok (.aload_n 0, 1) := by decide +kernel
theorem dX7_stuckIn_16 : decode cX7_stuckIn 16 = .ok (.iconst 1, 1) := by decide +kernel
theorem dX7_stuckIn_17 : decode cX7_stuckIn 17 = .ok (.invokevirtual 218, 3) := by decide +kernel
theorem dX7_stuckIn_20 : decode cX7_stuckIn 20 = .ok (.ireturn, 1) := by decide +kernel
theorem dX7_stuckIn_21 : decode cX7_stuckIn 21 = .ok (.aload_n 0, 1) := by decide +kernel
theorem dX7_stuckIn_22 : decode cX7_stuckIn 22 = .ok (.invokevirtual 244, 3) := by decide +kernel
theorem dX7_stuckIn_25 : decode cX7_stuckIn 25 = .ok (.astore_n 2, 1) := by decide +kernel
theorem dX7_stuckIn_26 : decode cX7_stuckIn 26 = .ok (.iconst 0, 1) := by decide +kernel
theorem dX7_stuckIn_27 : decode cX7_stuckIn 27 = .ok (.istore_n 3, 1) := by decide +kernel
theorem dX7_stuckIn_28 : decode cX7_stuckIn 28 = .ok (.iload_n 3, 1) := by decide +kernel
theorem dX7_stuckIn_29 : decode cX7_stuckIn 29 = .ok (.iload_n 1, 1) := by decide +kernel
theorem dX7_stuckIn_30 : decode cX7_stuckIn 30 = .ok (.if_icmp .gt 27, 3) := by decide +kernel
theorem dX7_stuckIn_33 : decode cX7_stuckIn 33 = .ok (.aload_n 2, 1) := by decide +kernel
theorem dX7_stuckIn_34 : decode cX7_stuckIn 34 = .ok (.invokevirtual 240, 3) := by decide +kernel
theorem dX7_stuckIn_37 : decode cX7_stuckIn 37 = .ok (.ifCond .eq 5, 3) := by decide +kernel
theorem dX7_stuckIn_40 : decode cX7_stuckIn 40 = .ok (.iload_n 3, 1) := by decide +kernel
theorem dX7_stuckIn_41 : decode cX7_stuckIn 41 = .ok (.ireturn, 1) := by decide +kernel
theorem dX7_stuckIn_42 : decode cX7_stuckIn 42 = .ok (.iload_n 3, 1) := by decide +kernel
theorem dX7_stuckIn_43 : decode cX7_stuckIn 43 = .ok (.iload_n 1, 1) := by decide +kernel
theorem dX7_stuckIn_44 : decode cX7_stuckIn 44 = .ok (.if_icmp .ge 7, 3) := by decide +kernel
theorem dX7_stuckIn_47 : decode cX7_stuckIn 47 = .ok (.aload_n 2, 1) := by decide +kernel
theorem dX7_stuckIn_48 : decode cX7_stuckIn 48 = .ok (.invokevirtual 228, 3) := by decide +kernel
theorem dX7_stuckIn_51 : decode cX7_stuckIn 51 = .ok (.iinc 3 1, 3) := by decide +kernel
theorem dX7_stuckIn_54 : decode cX7_stuckIn 54 = .ok (.goto (-26), 3) := by decide +kernel
theorem dX7_stuckIn_57 : decode cX7_stuckIn 57 = .ok (.iconst (-1), 1) := by decide +kernel
theorem dX7_stuckIn_58 : decode cX7_stuckIn 58 = .ok (.ireturn, 1) := by decide +kernel
theorem dX7_add_0 : decode cX7_add 0 = .ok (.aload_n 0, 1) := by decide +kernel
theorem dX7_add_1 : decode cX7_add 1 = .ok (.aload_n 0, 1) := by decide +kernel
theorem dX7_add_2 : decode cX7_add 2 = .ok (.getfield 252, 3) := by decide +kernel
theorem dX7_add_5 : decode cX7_add 5 = .ok (.ldc2_w 256, 3) := by decide +kernel
theorem dX7_add_8 : decode cX7_add 8 = .ok (.lmul, 1) := by decide +kernel
theorem dX7_add_9 : decode cX7_add 9 = .ok (.iload_n 1, 1) := by decide +kernel
theorem dX7_add_10 : decode cX7_add 10 = .ok (.i2l, 1) := by decide +kernel
theorem dX7_add_11 : decode cX7_add 11 = .ok (.ladd, 1) := by decide +kernel
theorem dX7_add_12 : decode cX7_add 12 = .ok (.putfield 252, 3) := by decide +kernel
theorem dX7_add_15 : decode cX7_add 15 = .ok (.return_, 1) := by decide +kernel
theorem dX7_digest_0 : decode cX7_digest 0 = .ok (.aload_n 0, 1) := by decide +kernel
theorem dX7_digest_1 : decode cX7_digest 1 = .ok (.iconst 0, 1) := by decide +kernel
theorem dX7_digest_2 : decode cX7_digest 2 = .ok (.putfield 120, 3) := by decide +kernel
theorem dX7_digest_5 : decode cX7_digest 5 = .ok (.aload_n 0, 1) := by decide +kernel
theorem dX7_digest_6 : decode cX7_digest 6 = .ok (.ldc2_w 258, 3) := by decide +kernel
theorem dX7_digest_9 : decode cX7_digest 9 = .ok (.putfield 252, 3) := by decide +kernel
theorem dX7_digest_12 : decode cX7_digest 12 = .ok (.bipush 6, 2) := by decide +kernel
theorem dX7_digest_14 : decode cX7_digest 14 = .ok (.newarray .int, 2) := by decide +kernel
theorem dX7_digest_16 : decode cX7_digest 16 = .ok (.dup, 1) := by decide +kernel
theorem dX7_digest_17 : decode cX7_digest 17 = .ok (.iconst 0, 1) := by decide +kernel
theorem dX7_digest_18 : decode cX7_digest 18 = .ok (.aload_n 0, 1) := by decide +kernel
theorem dX7_digest_19 : decode cX7_digest 19 = .ok (.getfield 95, 3) := by decide +kernel
theorem dX7_digest_22 : decode cX7_digest 22 = .ok (.iastore, 1) := by decide +kernel
theorem dX7_digest_23 : decode cX7_digest 23 = .ok (.dup, 1) := by decide +kernel
theorem dX7_digest_24 : decode cX7_digest 24 = .ok (.iconst 1, 1) := by decide +kernel
theorem dX7_digest_25 : decode cX7_digest 25 = .ok (.aload_n 0, 1) := by decide +kernel
theorem dX7_digest_26 : decode cX7_digest 26 = .ok (.getfield 110, 3) := by decide +kernel
theorem dX7_digest_29 : decode cX7_digest 29 = .ok (.iastore, 1) := by decide +kernel
theorem dX7_digest_30 : decode cX7_digest 30 = .ok (.dup, 1) := by decide +kernel
theorem dX7_digest_31 : decode cX7_digest 31 = .ok (.iconst 2, 1) := by decide +kernel
theorem dX7_digest_32 : decode cX7_digest 32 = .ok (.aload_n 0, 1) := by decide +kernel
theorem dX7_digest_33 : decode cX7_digest 33 = .ok (.getfield 16, 3) := by decide +kernel
theorem dX7_digest_36 : decode cX7_digest 36 = .ok (.iastore, 1) := by decide +kernel
theorem dX7_digest_37 : decode cX7_digest 37 = .ok (.dup, 1) := by decide +kernel
theorem dX7_digest_38 : decode cX7_digest 38 = .ok (.iconst 3, 1) := by decide +kernel
theorem dX7_digest_39 : decode cX7_digest 39 = .ok (.aload_n 0, 1) := by decide +kernel
theorem dX7_digest_40 : decode cX7_digest 40 = .ok (.getfield 180, 3) := by decide +kernel
theorem dX7_digest_43 : decode cX7_digest 43 = .ok (.iastore, 1) := by decide +kernel
theorem dX7_digest_44 : decode cX7_digest 44 = .ok (.dup, 1) := by decide +kernel
theorem dX7_digest_45 : decode cX7_digest 45 = .ok (.iconst 4, 1) := by decide +kernel
theorem dX7_digest_46 : decode cX7_digest 46 = .ok (.aload_n 0, 1) := by decide +kernel
theorem dX7_digest_47 : decode cX7_digest 47 = .ok (.getfield 209, 3) := by decide +kernel
theorem dX7_digest_50 : decode cX7_digest 50 = .ok (.iastore, 1) := by decide +kernel
theorem dX7_digest_51 : decode cX7_digest 51 = .ok (.dup, 1) := by decide +kernel
theorem dX7_digest_52 : decode cX7_digest 52 = .ok (.iconst 5, 1) := by decide +kernel
theorem dX7_digest_53 : decode cX7_digest 53 = .ok (.aload_n 0, 1) := by decide +kernel
theorem dX7_digest_54 : decode cX7_digest 54 = .ok (.invokevirtual 240, 3) := by decide +kernel
theorem dX7_digest_57 : decode cX7_digest 57 = .ok (.iastore, 1) := by decide +kernel
theorem dX7_digest_58 : decode cX7_digest 58 = .ok (.astore_n 1, 1) := by decide +kernel
theorem dX7_digest_59 : decode cX7_digest 59 = .ok (.aload_n 1, 1) := by decide +kernel
theorem dX7_digest_60 : decode cX7_digest 60 = .ok (.astore_n 2, 1) := by decide +kernel
theorem dX7_digest_61 : decode cX7_digest 61 = .ok (.aload_n 2, 1) := by decide +kernel
theorem dX7_digest_62 : decode cX7_digest 62 = .ok (.arraylength, 1) := by decide +kernel
theorem dX7_digest_63 : decode cX7_digest 63 = .ok (.istore_n 3, 1) := by decide +kernel
theorem dX7_digest_64 : decode cX7_digest 64 = .ok (.iconst 0, 1) := by decide +kernel
theorem dX7_digest_65 : decode cX7_digest 65 = .ok (.istore 4, 2) := by decide +kernel
theorem dX7_digest_67 : decode cX7_digest 67 = .ok (.iload 4, 2) := by decide +kernel
theorem dX7_digest_69 : decode cX7_digest 69 = .ok (.iload_n 3, 1) := by decide +kernel
theorem dX7_digest_70 : decode cX7_digest 70 = .ok (.if_icmp .ge 21, 3) := by decide +kernel
theorem dX7_digest_73 : decode cX7_digest 73 = .ok (.aload_n 2, 1) := by decide +kernel
theorem dX7_digest_74 : decode cX7_digest 74 = .ok (.iload 4, 2) := by decide +kernel
theorem dX7_digest_76 : decode cX7_digest 76 = .ok (.iaload, 1) := by decide +kernel
theorem dX7_digest_77 : decode cX7_digest 77 = .ok (.istore 5, 2) := by decide +kernel
theorem dX7_digest_79 : decode cX7_digest 79 = .ok (.aload_n 0, 1) := by decide +kernel
theorem dX7_digest_80 : decode cX7_digest 80 = .ok (.iload 5, 2) := by decide +kernel
theorem dX7_digest_82 : decode cX7_digest 82 = .ok (.invokevirtual 260, 3) := by decide +kernel
theorem dX7_digest_85 : decode cX7_digest 85 = .ok (.iinc 4 1, 3) := by decide +kernel
theorem dX7_digest_88 : decode cX7_digest 88 = .ok (.goto (-21), 3) := by decide +kernel
theorem dX7_digest_91 : decode cX7_digest 91 = .ok (.iconst 0, 1) := by decide +kernel
theorem dX7_digest_92 : decode cX7_digest 92 = .ok (.istore_n 2, 1) := by decide +kernel
theorem dX7_digest_93 : decode cX7_digest 93 = .ok (.iload_n 2, 1) := by decide +kernel
theorem dX7_digest_94 : decode cX7_digest 94 = .ok (.aload_n 0, 1) := by decide +kernel
theorem dX7_digest_95 : decode cX7_digest 95 = .ok (.getfield 110, 3) := by decide +kernel
theorem dX7_digest_98 : decode cX7_digest 98 = .ok (.if_icmp .ge 155, 3) := by decide +kernel
theorem dX7_digest_101 : decode cX7_digest 101 = .ok (.bipush 7, 2) := by decide +kernel
theorem dX7_digest_103 : decode cX7_digest 103 = .ok (.newarray .int, 2) := by decide +kernel
theorem dX7_digest_105 : decode cX7_digest 105 = .ok (.dup, 1) := by decide +kernel
theorem dX7_digest_106 : decode cX7_digest 106 = .ok (.iconst 0, 1) := by decide +kernel
theorem dX7_digest_107 : decode cX7_digest 107 = .ok (.aload_n 0, 1) := by decide +kernel
theorem dX7_digest_108 : decode cX7_digest 108 = .ok (.getfield 46, 3) := by decide +kernel
theorem dX7_digest_111 : decode cX7_digest 111 = .ok (.iload_n 2, 1) := by decide +kernel
theorem dX7_digest_112 : decode cX7_digest 112 = .ok (.iaload, 1) := by decide +kernel
theorem dX7_digest_113 : decode cX7_digest 113 = .ok (.iastore, 1) := by decide +kernel
theorem dX7_digest_114 : decode cX7_digest 114 = .ok (.dup, 1) := by decide +kernel
theorem dX7_digest_115 : decode cX7_digest 115 = .ok (.iconst 1, 1) := by decide +kernel
theorem dX7_digest_116 : decode cX7_digest 116 = .ok (.aload_n 0, 1) := by decide +kernel
theorem dX7_digest_117 : decode cX7_digest 117 = .ok (.getfield 49, 3) := by decide +kernel
theorem dX7_digest_120 : decode cX7_digest 120 = .ok (.iload_n 2, 1) := by decide +kernel
theorem dX7_digest_121 : decode cX7_digest 121 = .ok (.iaload, 1) := by decide +kernel
theorem dX7_digest_122 : decode cX7_digest 122 = .ok (.iastore, 1) := by decide +kernel
theorem dX7_digest_123 : decode cX7_digest 123 = .ok (.dup, 1) := by decide +kernel
theorem dX7_digest_124 : decode cX7_digest 124 = .ok (.iconst 2, 1) := by decide +kernel
theorem dX7_digest_125 : decode cX7_digest 125 = .ok (.aload_n 0, 1) := by decide +kernel
theorem dX7_digest_126 : decode cX7_digest 126 = .ok (.getfield 52, 3) := by decide +kernel
theorem dX7_digest_129 : decode cX7_digest 129 = .ok (.iload_n 2, 1) := by decide +kernel
theorem dX7_digest_130 : decode cX7_digest 130 = .ok (.iaload, 1) := by decide +kernel
theorem dX7_digest_131 : decode cX7_digest 131 = .ok (.iastore, 1) := by decide +kernel
theorem dX7_digest_132 : decode cX7_digest 132 = .ok (.dup, 1) := by decide +kernel
theorem dX7_digest_133 : decode cX7_digest 133 = .ok (.iconst 3, 1) := by decide +kernel
theorem dX7_digest_134 : decode cX7_digest 134 = .ok (.aload_n 0, 1) := by decide +kernel
theorem dX7_digest_135 : decode cX7_digest 135 = .ok (.iload_n 2, 1) := by decide +kernel
theorem dX7_digest_136 : decode cX7_digest 136 = .ok (.invokevirtual 131, 3) := by decide +kernel
theorem dX7_digest_139 : decode cX7_digest 139 = .ok (.iastore, 1) := by decide +kernel
theorem dX7_digest_140 : decode cX7_digest 140 = .ok (.dup, 1) := by decide +kernel
theorem dX7_digest_141 : decode cX7_digest 141 = .ok (.iconst 4, 1) := by decide +kernel
theorem dX7_digest_142 : decode cX7_digest 142 = .ok (.aload_n 0, 1) := by decide +kernel
theorem dX7_digest_143 : decode cX7_digest 143 = .ok (.iload_n 2, 1) := by decide +kernel
theorem dX7_digest_144 : decode cX7_digest 144 = .ok (.invokevirtual 150, 3) := by decide +kernel
theorem dX7_digest_147 : decode cX7_digest 147 = .ok (.iastore, 1) := by decide +kernel
theorem dX7_digest_148 : decode cX7_digest 148 = .ok (.dup, 1) := by decide +kernel
theorem dX7_digest_149 : decode cX7_digest 149 = .ok (.iconst 5, 1) := by decide +kernel
theorem dX7_digest_150 : decode cX7_digest 150 = .ok (.aload_n 0, 1) := by decide +kernel
theorem dX7_digest_151 : decode cX7_digest 151 = .ok (.getfield 58, 3) := by decide +kernel
theorem dX7_digest_154 : decode cX7_digest 154 = .ok (.iload_n 2, 1) := by decide +kernel
theorem dX7_digest_155 : decode cX7_digest 155 = .ok (.iaload, 1) := by decide +kernel
theorem dX7_digest_156 : decode cX7_digest 156 = .ok (.iastore, 1) := by decide +kernel
theorem dX7_digest_157 : decode cX7_digest 157 = .ok (.dup, 1) := by decide +kernel
theorem dX7_digest_158 : decode cX7_digest 158 = .ok (.bipush 6, 2) := by decide +kernel
theorem dX7_digest_160 : decode cX7_digest 160 = .ok (.aload_n 0, 1) := by decide +kernel
theorem dX7_digest_161 : decode cX7_digest 161 = .ok (.getfield 61, 3) := by decide +kernel
theorem dX7_digest_164 : decode cX7_digest 164 = .ok (.iload_n 2, 1) := by decide +kernel
theorem dX7_digest_165 : decode cX7_digest 165 = .ok (.iaload, 1) := by decide +kernel
theorem dX7_digest_166 : decode cX7_digest 166 = .ok (.iastore, 1) := by decide +kernel
theorem dX7_digest_167 : decode cX7_digest 167 = .ok (.astore_n 3, 1) := by decide +kernel
theorem dX7_digest_168 : decode cX7_digest 168 = .ok (.aload_n 3, 1) := by decide +kernel
theorem dX7_digest_169 : decode cX7_digest 169 = .ok (.astore 4, 2) := by decide +kernel
theorem dX7_digest_171 : decode cX7_digest 171 = .ok (.aload 4, 2) := by decide +kernel
theorem dX7_digest_173 : decode cX7_digest 173 = .ok (.arraylength, 1) := by decide +kernel
theorem dX7_digest_174 : decode cX7_digest 174 = .ok (.istore 5, 2) := by decide +kernel
theorem dX7_digest_176 : decode cX7_digest 176 = .ok (.iconst 0, 1) := by decide +kernel
theorem dX7_digest_177 : decode cX7_digest 177 = .ok (.istore 6, 2) := by decide +kernel
theorem dX7_digest_179 : decode cX7_digest 179 = .ok (.iload 6, 2) := by decide +kernel
theorem dX7_digest_181 : decode cX7_digest 181 = .ok (.iload 5, 2) := by decide +kernel
theorem dX7_digest_183 : decode cX7_digest 183 = .ok (.if_icmp .ge 22, 3) := by decide +kernel
theorem dX7_digest_186 : decode cX7_digest 186 = .ok (.aload 4, 2) := by decide +kernel
theorem dX7_digest_188 : decode cX7_digest 188 = .ok (.iload 6, 2) := by decide +kernel
theorem dX7_digest_190 : decode cX7_digest 190 = .ok (.iaload, 1) := by decide +kernel
theorem dX7_digest_191 : decode cX7_digest 191 = .ok (.istore 7, 2) := by decide +kernel
theorem dX7_digest_193 : decode cX7_digest 193 = .ok (.aload_n 0, 1) := by decide +kernel
theorem dX7_digest_194 : decode cX7_digest 194 = .ok (.iload 7, 2) := by decide +kernel
theorem dX7_digest_196 : decode cX7_digest 196 = .ok (.invokevirtual 260, 3) := by decide +kernel
theorem dX7_digest_199 : decode cX7_digest 199 = .ok (.iinc 6 1, 3) := by decide +kernel
theorem dX7_digest_202 : decode cX7_digest 202 = .ok (.goto (-23), 3) := by decide +kernel
theorem dX7_digest_205 : decode cX7_digest 205 = .ok (.aload_n 0, 1) := by decide +kernel
theorem dX7_digest_206 : decode cX7_digest 206 = .ok (.getfield 76, 3) := by decide +kernel
theorem dX7_digest_209 : decode cX7_digest 209 = .ok (.iload_n 2, 1) := by decide +kernel
theorem dX7_digest_210 : decode cX7_digest 210 = .ok (.aaload, 1) := by decide +kernel
theorem dX7_digest_211 : decode cX7_digest 211 = .ok (.astore 4, 2) := by decide +kernel
theorem dX7_digest_213 : decode cX7_digest 213 = .ok (.aload 4, 2) := by decide +kernel
theorem dX7_digest_215 : decode cX7_digest 215 = .ok (.arraylength, 1) := by decide +kernel
theorem dX7_digest_216 : decode cX7_digest 216 = .ok (.istore 5, 2) := by decide +kernel
theorem dX7_digest_218 : decode cX7_digest 218 = .ok (.iconst 0, 1) := by decide +kernel
theorem dX7_digest_219 : decode cX7_digest 219 = .ok (.istore 6, 2) := by decide +kernel
theorem dX7_digest_221 : decode cX7_digest 221 = .ok (.iload 6, 2) := by decide +kernel
theorem dX7_digest_223 : decode cX7_digest 223 = .ok (.iload 5, 2) := by decide +kernel
theorem dX7_digest_225 : decode cX7_digest 225 = .ok (.if_icmp .ge 22, 3) := by decide +kernel
theorem dX7_digest_228 : decode cX7_digest 228 = .ok (.aload 4, 2) := by decide +kernel
theorem dX7_digest_230 : decode cX7_digest 230 = .ok (.iload 6, 2) := by decide +kernel
theorem dX7_digest_232 : decode cX7_digest 232 = .ok (.iaload, 1) := by decide +kernel
theorem dX7_digest_233 : decode cX7_digest 233 = .ok (.istore 7, 2) := by decide +kernel
theorem dX7_digest_235 : decode cX7_digest 235 = .ok (.aload_n 0, 1) := by decide +kernel
theorem dX7_digest_236 : decode cX7_digest 236 = .ok (.iload 7, 2) := by decide +kernel
theorem dX7_digest_238 : decode cX7_digest 238 = .ok (.invokevirtual 260, 3) := by decide +kernel
theorem dX7_digest_241 : decode cX7_digest 241 = .ok (.iinc 6 1, 3) := by decide +kernel
theorem dX7_digest_244 : decode cX7_digest 244 = .ok (.goto (-23), 3) := by decide +kernel
theorem dX7_digest_247 : decode cX7_digest 247 = .ok (.iinc 2 1, 3) := by decide +kernel
theorem dX7_digest_250 : decode cX7_digest 250 = .ok (.goto (-157), 3) := by decide +kernel
theorem dX7_digest_253 : decode cX7_digest 253 = .ok (.iconst 0, 1) := by decide +kernel
theorem dX7_digest_254 : decode cX7_digest 254 = .ok (.istore_n 2, 1) := by decide +kernel
theorem dX7_digest_255 : decode cX7_digest 255 = .ok (.iload_n 2, 1) := by decide +kernel
theorem dX7_digest_256 : decode cX7_digest 256 = .ok (.aload_n 0, 1) := by decide +kernel
theorem dX7_digest_257 : decode cX7_digest 257 = .ok (.getfield 16, 3) := by decide +kernel
theorem dX7_digest_260 : decode cX7_digest 260 = .ok (.if_icmp .ge 42, 3) := by decide +kernel
theorem dX7_digest_263 : decode cX7_digest 263 = .ok (.aload_n 0, 1) := by decide +kernel
theorem dX7_digest_264 : decode cX7_digest 264 = .ok (.aload_n 0, 1) := by decide +kernel
theorem dX7_digest_265 : decode cX7_digest 265 = .ok (.getfield 79, 3) := by decide +kernel
theorem dX7_digest_268 : decode cX7_digest 268 = .ok (.iload_n 2, 1) := by decide +kernel
theorem dX7_digest_269 : decode cX7_digest 269 = .ok (.iaload, 1) := by decide +kernel
theorem dX7_digest_270 : decode cX7_digest 270 = .ok (.invokevirtual 260, 3) := by decide +kernel
theorem dX7_digest_273 : decode cX7_digest 273 = .ok (.iconst 1, 1) := by decide +kernel
theorem dX7_digest_274 : decode cX7_digest 274 = .ok (.istore_n 3, 1) := by decide +kernel
theorem dX7_digest_275 : decode cX7_digest 275 = .ok (.iload_n 3, 1) := by decide +kernel
theorem dX7_digest_276 : decode cX7_digest 276 = .ok (.iconst 5, 1) := by decide +kernel
theorem dX7_digest_277 : decode cX7_digest 277 = .ok (.if_icmp .gt 19, 3) := by decide +kernel
theorem dX7_digest_280 : decode cX7_digest 280 = .ok (.aload_n 0, 1) := by decide +kernel
theorem dX7_digest_281 : decode cX7_digest 281 = .ok (.aload_n 0, 1) := by decide +kernel
theorem dX7_digest_282 : decode cX7_digest 282 = .ok (.iload_n 2, 1) := by decide +kernel
theorem dX7_digest_283 : decode cX7_digest 283 = .ok (.iload_n 3, 1) := by decide +kernel
theorem dX7_digest_284 : decode cX7_digest 284 = .ok (.invokevirtual 234, 3) := by decide +kernel
theorem dX7_digest_287 : decode cX7_digest 287 = .ok (.invokevirtual 260, 3) := by decide +kernel
theorem dX7_digest_290 : decode cX7_digest 290 = .ok (.iinc 3 1, 3) := by decide +kernel
theorem dX7_digest_293 : decode cX7_digest 293 = .ok (.goto (-18), 3) := by decide +kernel
theorem dX7_digest_296 : decode cX7_digest 296 = .ok (.iinc 2 1, 3) := by decide +kernel
theorem dX7_digest_299 : decode cX7_digest 299 = .ok (.goto (-44), 3) := by decide +kernel
theorem dX7_digest_302 : decode cX7_digest 302 = .ok (.aload_n 0, 1) := by decide +kernel
theorem dX7_digest_303 : decode cX7_digest 303 = .ok (.getfield 23, 3) := by decide +kernel
theorem dX7_digest_306 : decode cX7_digest 306 = .ok (.astore_n 2, 1) := by decide +kernel
theorem dX7_digest_307 : decode cX7_digest 307 = .ok (.aload_n 2, 1) := by decide +kernel
theorem dX7_digest_308 : decode cX7_digest 308 = .ok (.arraylength, 1) := by decide +kernel
theorem dX7_digest_309 : decode cX7_digest 309 = .ok (.istore_n 3, 1) := by decide +kernel
theorem dX7_digest_310 : decode cX7_digest 310 = .ok (.iconst 0, 1) := by decide +kernel
theorem dX7_digest_311 : decode cX7_digest 311 = .ok (.istore 4, 2) := by decide +kernel
theorem dX7_digest_313 : decode cX7_digest 313 = .ok (.iload 4, 2) := by decide +kernel
theorem dX7_digest_315 : decode cX7_digest 315 = .ok (.iload_n 3, 1) := by decide +kernel
theorem dX7_digest_316 : decode cX7_digest 316 = .ok (.if_icmp .ge 21, 3) := by decide +kernel
theorem dX7_digest_319 : decode cX7_digest 319 = .ok (.aload_n 2, 1) := by decide +kernel
theorem dX7_digest_320 : decode cX7_digest 320 = .ok (.iload 4, 2) := by decide +kernel
theorem dX7_digest_322 : decode cX7_digest 322 = .ok (.iaload, 1) := by decide +kernel
theorem dX7_digest_323 : decode cX7_digest 323 = .ok (.istore 5, 2) := by decide +kernel
theorem dX7_digest_325 : decode cX7_digest 325 = .ok (.aload_n 0, 1) := by decide +kernel
theorem dX7_digest_326 : decode cX7_digest 326 = .ok (.iload 5, 2) := by decide +kernel
theorem dX7_digest_328 : decode cX7_digest 328 = .ok (.invokevirtual 260, 3) := by decide +kernel
theorem dX7_digest_331 : decode cX7_digest 331 = .ok (.iinc 4 1, 3) := by decide +kernel
theorem dX7_digest_334 : decode cX7_digest 334 = .ok (.goto (-21), 3) := by decide +kernel
theorem dX7_digest_337 : decode cX7_digest 337 = .ok (.iconst 0, 1) := by decide +kernel
theorem dX7_digest_338 : decode cX7_digest 338 = .ok (.istore_n 2, 1) := by decide +kernel
theorem dX7_digest_339 : decode cX7_digest 339 = .ok (.iload_n 2, 1) := by decide +kernel
theorem dX7_digest_340 : decode cX7_digest 340 = .ok (.bipush 6, 2) := by decide +kernel
theorem dX7_digest_342 : decode cX7_digest 342 = .ok (.if_icmp .ge 29, 3) := by decide +kernel
theorem dX7_digest_345 : decode cX7_digest 345 = .ok (.aload_n 0, 1) := by decide +kernel
theorem dX7_digest_346 : decode cX7_digest 346 = .ok (.aload_n 0, 1) := by decide +kernel
theorem dX7_digest_347 : decode cX7_digest 347 = .ok (.getfield 88, 3) := by decide +kernel
theorem dX7_digest_350 : decode cX7_digest 350 = .ok (.iload_n 2, 1) := by decide +kernel
theorem dX7_digest_351 : decode cX7_digest 351 = .ok (.iaload, 1) := by decide +kernel
theorem dX7_digest_352 : decode cX7_digest 352 = .ok (.invokevirtual 260, 3) := by decide +kernel
theorem dX7_digest_355 : decode cX7_digest 355 = .ok (.aload_n 0, 1) := by decide +kernel
theorem dX7_digest_356 : decode cX7_digest 356 = .ok (.aload_n 0, 1) := by decide +kernel
theorem dX7_digest_357 : decode cX7_digest 357 = .ok (.iconst 4, 1) := by decide +kernel
theorem dX7_digest_358 : decode cX7_digest 358 = .ok (.iload_n 2, 1) := by decide +kernel
theorem dX7_digest_359 : decode cX7_digest 359 = .ok (.invokevirtual 237, 3) := by decide +kernel
theorem dX7_digest_362 : decode cX7_digest 362 = .ok (.invokevirtual 260, 3) := by decide +kernel
theorem dX7_digest_365 : decode cX7_digest 365 = .ok (.iinc 2 1, 3) := by decide +kernel
theorem dX7_digest_368 : decode cX7_digest 368 = .ok (.goto (-29), 3) := by decide +kernel
theorem dX7_digest_371 : decode cX7_digest 371 = .ok (.iconst 0, 1) := by decide +kernel
theorem dX7_digest_372 : decode cX7_digest 372 = .ok (.istore_n 2, 1) := by decide +kernel
theorem dX7_digest_373 : decode cX7_digest 373 = .ok (.iload_n 2, 1) := by decide +kernel
theorem dX7_digest_374 : decode cX7_digest 374 = .ok (.bipush 6, 2) := by decide +kernel
theorem dX7_digest_376 : decode cX7_digest 376 = .ok (.if_icmp .ge 29, 3) := by decide +kernel
theorem dX7_digest_379 : decode cX7_digest 379 = .ok (.aload_n 0, 1) := by decide +kernel
theorem dX7_digest_380 : decode cX7_digest 380 = .ok (.aload_n 0, 1) := by decide +kernel
theorem dX7_digest_381 : decode cX7_digest 381 = .ok (.getfield 91, 3) := by decide +kernel
theorem dX7_digest_384 : decode cX7_digest 384 = .ok (.iload_n 2, 1) := by decide +kernel
theorem dX7_digest_385 : decode cX7_digest 385 = .ok (.iaload, 1) := by decide +kernel
theorem dX7_digest_386 : decode cX7_digest 386 = .ok (.invokevirtual 260, 3) := by decide +kernel
theorem dX7_digest_389 : decode cX7_digest 389 = .ok (.aload_n 0, 1) := by decide +kernel
theorem dX7_digest_390 : decode cX7_digest 390 = .ok (.aload_n 0, 1) := by decide +kernel
theorem dX7_digest_391 : decode cX7_digest 391 = .ok (.iconst 5, 1) := by decide +kernel
theorem dX7_digest_392 : decode cX7_digest 392 = .ok (.iload_n 2, 1) := by decide +kernel
theorem dX7_digest_393 : decode cX7_digest 393 = .ok (.invokevirtual 237, 3) := by decide +kernel
theorem dX7_digest_396 : decode cX7_digest 396 = .ok (.invokevirtual 260, 3) := by decide +kernel
theorem dX7_digest_399 : decode cX7_digest 399 = .ok (.iinc 2 1, 3) := by decide +kernel
theorem dX7_digest_402 : decode cX7_digest 402 = .ok (.goto (-29), 3) := by decide +kernel
theorem dX7_digest_405 : decode cX7_digest 405 = .ok (.aload_n 0, 1) := by decide +kernel
theorem dX7_digest_406 : decode cX7_digest 406 = .ok (.getfield 252, 3) := by decide +kernel
theorem dX7_digest_409 : decode cX7_digest 409 = .ok (.lreturn, 1) := by decide +kernel
