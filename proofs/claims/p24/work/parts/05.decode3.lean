theorem dL_size_48 : decode cL_size 48 = .ok (.if_icmp .ne 7, 3) := by decide +kernel
theorem dL_size_51 : decode cL_size 51 = .ok (.iconst 1, 1) := by decide +kernel
theorem dL_size_52 : decode cL_size 52 = .ok (.goto 4, 3) := by decide +kernel
theorem dL_size_55 : decode cL_size 55 = .ok (.iconst 0, 1) := by decide +kernel
theorem dL_size_56 : decode cL_size 56 = .ok (.iadd, 1) := by decide +kernel
theorem dL_size_57 : decode cL_size 57 = .ok (.istore 6, 2) := by decide +kernel
theorem dL_size_59 : decode cL_size 59 = .ok (.iinc 7 1, 3) := by decide +kernel
theorem dL_size_62 : decode cL_size 62 = .ok (.goto (-37), 3) := by decide +kernel
theorem dL_size_65 : decode cL_size 65 = .ok (.aload_n 3, 1) := by decide +kernel
theorem dL_size_66 : decode cL_size 66 = .ok (.iconst 0, 1) := by decide +kernel
theorem dL_size_67 : decode cL_size 67 = .ok (.iaload, 1) := by decide +kernel
theorem dL_size_68 : decode cL_size 68 = .ok (.iconst 2, 1) := by decide +kernel
theorem dL_size_69 : decode cL_size 69 = .ok (.isub, 1) := by decide +kernel
theorem dL_size_70 : decode cL_size 70 = .ok (.iload 6, 2) := by decide +kernel
theorem dL_size_72 : decode cL_size 72 = .ok (.isub, 1) := by decide +kernel
theorem dL_size_73 : decode cL_size 73 = .ok (.iload 6, 2) := by decide +kernel
theorem dL_size_75 : decode cL_size 75 = .ok (.iconst 1, 1) := by decide +kernel
theorem dL_size_76 : decode cL_size 76 = .ok (.isub, 1) := by decide +kernel
theorem dL_size_77 : decode cL_size 77 = .ok (.iload 5, 2) := by decide +kernel
theorem dL_size_79 : decode cL_size 79 = .ok (.iload 4, 2) := by decide +kernel
theorem dL_size_81 : decode cL_size 81 = .ok (.isub, 1) := by decide +kernel
theorem dL_size_82 : decode cL_size 82 = .ok (.imul, 1) := by decide +kernel
theorem dL_size_83 : decode cL_size 83 = .ok (.iadd, 1) := by decide +kernel
theorem dL_size_84 : decode cL_size 84 = .ok (.ireturn, 1) := by decide +kernel
theorem dL_rewrite_0 : decode cL_rewrite 0 = .ok (.aload_n 1, 1) := by decide +kernel
theorem dL_rewrite_1 : decode cL_rewrite 1 = .ok (.iload_n 0, 1) := by decide +kernel
theorem dL_rewrite_2 : decode cL_rewrite 2 = .ok (.iconst 1, 1) := by decide +kernel
theorem dL_rewrite_3 : decode cL_rewrite 3 = .ok (.iadd, 1) := by decide +kernel
theorem dL_rewrite_4 : decode cL_rewrite 4 = .ok (.invokestatic 10, 3) := by decide +kernel
theorem dL_rewrite_7 : decode cL_rewrite 7 = .ok (.istore 8, 2) := by decide +kernel
theorem dL_rewrite_9 : decode cL_rewrite 9 = .ok (.aload_n 1, 1) := by decide +kernel
theorem dL_rewrite_10 : decode cL_rewrite 10 = .ok (.iload 8, 2) := by decide +kernel
theorem dL_rewrite_12 : decode cL_rewrite 12 = .ok (.invokestatic 10, 3) := by decide +kernel
theorem dL_rewrite_15 : decode cL_rewrite 15 = .ok (.istore 9, 2) := by decide +kernel
theorem dL_rewrite_17 : decode cL_rewrite 17 = .ok (.iconst 0, 1) := by decide +kernel
theorem dL_rewrite_18 : decode cL_rewrite 18 = .ok (.istore 10, 2) := by decide +kernel
theorem dL_rewrite_20 : decode cL_rewrite 20 = .ok (.iconst 0, 1) := by decide +kernel
theorem dL_rewrite_21 : decode cL_rewrite 21 = .ok (.istore 11, 2) := by decide +kernel
theorem dL_rewrite_23 : decode cL_rewrite 23 = .ok (.iload 11, 2) := by decide +kernel
theorem dL_rewrite_25 : decode cL_rewrite 25 = .ok (.aload_n 3, 1) := by decide +kernel
theorem dL_rewrite_26 : decode cL_rewrite 26 = .ok (.iconst 0, 1) := by decide +kernel
theorem dL_rewrite_27 : decode cL_rewrite 27 = .ok (.iaload, 1) := by decide +kernel
theorem dL_rewrite_28 : decode cL_rewrite 28 = .ok (.if_icmp .ge 186, 3) := by decide +kernel
theorem dL_rewrite_31 : decode cL_rewrite 31 = .ok (.iload 11, 2) := by decide +kernel
theorem dL_rewrite_33 : decode cL_rewrite 33 = .ok (.iload_n 0, 1) := by decide +kernel
theorem dL_rewrite_34 : decode cL_rewrite 34 = .ok (.if_icmp .eq 174, 3) := by decide +kernel
theorem dL_rewrite_37 : decode cL_rewrite 37 = .ok (.iload 11, 2) := by decide +kernel
theorem dL_rewrite_39 : decode cL_rewrite 39 = .ok (.iload_n 0, 1) := by decide +kernel
theorem dL_rewrite_40 : decode cL_rewrite 40 = .ok (.iconst 1, 1) := by decide +kernel
theorem dL_rewrite_41 : decode cL_rewrite 41 = .ok (.iadd, 1) := by decide +kernel
theorem dL_rewrite_42 : decode cL_rewrite 42 = .ok (.if_icmp .eq 166, 3) := by decide +kernel
theorem dL_rewrite_45 : decode cL_rewrite 45 = .ok (.iload 11, 2) := by decide +kernel
theorem dL_rewrite_47 : decode cL_rewrite 47 = .ok (.iload 8, 2) := by decide +kernel
theorem dL_rewrite_49 : decode cL_rewrite 49 = .ok (.if_icmp .lt 13, 3) := by decide +kernel
theorem dL_rewrite_52 : decode cL_rewrite 52 = .ok (.iload 11, 2) := by decide +kernel
theorem dL_rewrite_54 : decode cL_rewrite 54 = .ok (.iload 9, 2) := by decide +kernel
theorem dL_rewrite_56 : decode cL_rewrite 56 = .ok (.if_icmp .ge 6, 3) := by decide +kernel
theorem dL_rewrite_59 : decode cL_rewrite 59 = .ok (.goto 149, 3) := by decide +kernel
theorem dL_rewrite_62 : decode cL_rewrite 62 = .ok (.aload_n 1, 1) := by decide +kernel
theorem dL_rewrite_63 : decode cL_rewrite 63 = .ok (.iload 11, 2) := by decide +kernel
theorem dL_rewrite_65 : decode cL_rewrite 65 = .ok (.iaload, 1) := by decide +kernel
theorem dL_rewrite_66 : decode cL_rewrite 66 = .ok (.ifCond .ne 97, 3) := by decide +kernel
theorem dL_rewrite_69 : decode cL_rewrite 69 = .ok (.aload_n 2, 1) := by decide +kernel
theorem dL_rewrite_70 : decode cL_rewrite 70 = .ok (.iload 11, 2) := by decide +kernel
theorem dL_rewrite_72 : decode cL_rewrite 72 = .ok (.iaload, 1) := by decide +kernel
theorem dL_rewrite_73 : decode cL_rewrite 73 = .ok (.iload_n 0, 1) := by decide +kernel
theorem dL_rewrite_74 : decode cL_rewrite 74 = .ok (.iconst 1, 1) := by decide +kernel
theorem dL_rewrite_75 : decode cL_rewrite 75 = .ok (.iadd, 1) := by decide +kernel
theorem dL_rewrite_76 : decode cL_rewrite 76 = .ok (.if_icmp .ne 87, 3) := by decide +kernel
theorem dL_rewrite_79 : decode cL_rewrite 79 = .ok (.iload 8, 2) := by decide +kernel
theorem dL_rewrite_81 : decode cL_rewrite 81 = .ok (.istore 12, 2) := by decide +kernel
theorem dL_rewrite_83 : decode cL_rewrite 83 = .ok (.iload 12, 2) := by decide +kernel
theorem dL_rewrite_85 : decode cL_rewrite 85 = .ok (.iload 9, 2) := by decide +kernel
theorem dL_rewrite_87 : decode cL_rewrite 87 = .ok (.if_icmp .ge 73, 3) := by decide +kernel
theorem dL_rewrite_90 : decode cL_rewrite 90 = .ok (.aload 7, 2) := by decide +kernel
theorem dL_rewrite_92 : decode cL_rewrite 92 = .ok (.iload 12, 2) := by decide +kernel
theorem dL_rewrite_94 : decode cL_rewrite 94 = .ok (.iload 10, 2) := by decide +kernel
theorem dL_rewrite_96 : decode cL_rewrite 96 = .ok (.iastore, 1) := by decide +kernel
theorem dL_rewrite_97 : decode cL_rewrite 97 = .ok (.aload 4, 2) := by decide +kernel
theorem dL_rewrite_99 : decode cL_rewrite 99 = .ok (.iload 10, 2) := by decide +kernel
theorem dL_rewrite_101 : decode cL_rewrite 101 = .ok (.aload_n 1, 1) := by decide +kernel
theorem dL_rewrite_102 : decode cL_rewrite 102 = .ok (.iload 12, 2) := by decide +kernel
theorem dL_rewrite_104 : decode cL_rewrite 104 = .ok (.iaload, 1) := by decide +kernel
theorem dL_rewrite_105 : decode cL_rewrite 105 = .ok (.iastore, 1) := by decide +kernel
theorem dL_rewrite_106 : decode cL_rewrite 106 = .ok (.aload 5, 2) := by decide +kernel
theorem dL_rewrite_108 : decode cL_rewrite 108 = .ok (.iload 10, 2) := by decide +kernel
theorem dL_rewrite_110 : decode cL_rewrite 110 = .ok (.iinc 10 1, 3) := by decide +kernel
theorem dL_rewrite_113 : decode cL_rewrite 113 = .ok (.aload_n 1, 1) := by decide +kernel
theorem dL_rewrite_114 : decode cL_rewrite 114 = .ok (.iload 12, 2) := by decide +kernel
theorem dL_rewrite_116 : decode cL_rewrite 116 = .ok (.iaload, 1) := by decide +kernel
theorem dL_rewrite_117 : decode cL_rewrite 117 = .ok (.ifCond .eq 10, 3) := by decide +kernel
theorem dL_rewrite_120 : decode cL_rewrite 120 = .ok (.aload_n 2, 1) := by decide +kernel
theorem dL_rewrite_121 : decode cL_rewrite 121 = .ok (.iload 12, 2) := by decide +kernel
theorem dL_rewrite_123 : decode cL_rewrite 123 = .ok (.iaload, 1) := by decide +kernel
theorem dL_rewrite_124 : decode cL_rewrite 124 = .ok (.goto 29, 3) := by decide +kernel
theorem dL_rewrite_127 : decode cL_rewrite 127 = .ok (.aload_n 2, 1) := by decide +kernel
theorem dL_rewrite_128 : decode cL_rewrite 128 = .ok (.iload 12, 2) := by decide +kernel
theorem dL_rewrite_130 : decode cL_rewrite 130 = .ok (.iaload, 1) := by decide +kernel
theorem dL_rewrite_131 : decode cL_rewrite 131 = .ok (.iload 8, 2) := by decide +kernel
theorem dL_rewrite_133 : decode cL_rewrite 133 = .ok (.if_icmp .lt 13, 3) := by decide +kernel
theorem dL_rewrite_136 : decode cL_rewrite 136 = .ok (.aload 7, 2) := by decide +kernel
theorem dL_rewrite_138 : decode cL_rewrite 138 = .ok (.aload_n 2, 1) := by decide +kernel
theorem dL_rewrite_139 : decode cL_rewrite 139 = .ok (.iload 12, 2) := by decide +kernel
theorem dL_rewrite_141 : decode cL_rewrite 141 = .ok (.iaload, 1) := by decide +kernel
theorem dL_rewrite_142 : decode cL_rewrite 142 = .ok (.iaload, 1) := by decide +kernel
theorem dL_rewrite_143 : decode cL_rewrite 143 = .ok (.goto 10, 3) := by decide +kernel
theorem dL_rewrite_146 : decode cL_rewrite 146 = .ok (.aload 6, 2) := by decide +kernel
theorem dL_rewrite_148 : decode cL_rewrite 148 = .ok (.aload_n 2, 1) := by decide +kernel
theorem dL_rewrite_149 : decode cL_rewrite 149 = .ok (.iload 12, 2) := by decide +kernel
theorem dL_rewrite_151 : decode cL_rewrite 151 = .ok (.iaload, 1) := by decide +kernel
theorem dL_rewrite_152 : decode cL_rewrite 152 = .ok (.iaload, 1) := by decide +kernel
theorem dL_rewrite_153 : decode cL_rewrite 153 = .ok (.iastore, 1) := by decide +kernel
theorem dL_rewrite_154 : decode cL_rewrite 154 = .ok (.iinc 12 1, 3) := by decide +kernel
theorem dL_rewrite_157 : decode cL_rewrite 157 = .ok (.goto (-74), 3) := by decide +kernel
theorem dL_rewrite_160 : decode cL_rewrite 160 = .ok (.goto 48, 3) := by decide +kernel
theorem dL_rewrite_163 : decode cL_rewrite 163 = .ok (.aload 6, 2) := by decide +kernel
theorem dL_rewrite_165 : decode cL_rewrite 165 = .ok (.iload 11, 2) := by decide +kernel
theorem dL_rewrite_167 : decode cL_rewrite 167 = .ok (.iload 10, 2) := by decide +kernel
theorem dL_rewrite_169 : decode cL_rewrite 169 = .ok (.iastore, 1) := by decide +kernel
theorem dL_rewrite_170 : decode cL_rewrite 170 = .ok (.aload 4, 2) := by decide +kernel
theorem dL_rewrite_172 : decode cL_rewrite 172 = .ok (.iload 10, 2) := by decide +kernel
theorem dL_rewrite_174 : decode cL_rewrite 174 = .ok (.aload_n 1, 1) := by decide +kernel
theorem dL_rewrite_175 : decode cL_rewrite 175 = .ok (.iload 11, 2) := by decide +kernel
theorem dL_rewrite_177 : decode cL_rewrite 177 = .ok (.iaload, 1) := by decide +kernel
theorem dL_rewrite_178 : decode cL_rewrite 178 = .ok (.iastore, 1) := by decide +kernel
theorem dL_rewrite_179 : decode cL_rewrite 179 = .ok (.aload 5, 2) := by decide +kernel
theorem dL_rewrite_181 : decode cL_rewrite 181 = .ok (.iload 10, 2) := by decide +kernel
theorem dL_rewrite_183 : decode cL_rewrite 183 = .ok (.iinc 10 1, 3) := by decide +kernel
theorem dL_rewrite_186 : decode cL_rewrite 186 = .ok (.aload_n 1, 1) := by decide +kernel
theorem dL_rewrite_187 : decode cL_rewrite 187 = .ok (.iload 11, 2) := by decide +kernel
theorem dL_rewrite_189 : decode cL_rewrite 189 = .ok (.iaload, 1) := by decide +kernel
theorem dL_rewrite_190 : decode cL_rewrite 190 = .ok (.ifCond .ne 13, 3) := by decide +kernel
theorem dL_rewrite_193 : decode cL_rewrite 193 = .ok (.aload 6, 2) := by decide +kernel
theorem dL_rewrite_195 : decode cL_rewrite 195 = .ok (.aload_n 2, 1) := by decide +kernel
theorem dL_rewrite_196 : decode cL_rewrite 196 = .ok (.iload 11, 2) := by decide +kernel
theorem dL_rewrite_198 : decode cL_rewrite 198 = .ok (.iaload, 1) := by decide +kernel
theorem dL_rewrite_199 : decode cL_rewrite 199 = .ok (.iaload, 1) := by decide +kernel
theorem dL_rewrite_200 : decode cL_rewrite 200 = .ok (.goto 7, 3) := by decide +kernel
theorem dL_rewrite_203 : decode cL_rewrite 203 = .ok (.aload_n 2, 1) := by decide +kernel
theorem dL_rewrite_204 : decode cL_rewrite 204 = .ok (.iload 11, 2) := by decide +kernel
theorem dL_rewrite_206 : decode cL_rewrite 206 = .ok (.iaload, 1) := by decide +kernel
theorem dL_rewrite_207 : decode cL_rewrite 207 = .ok (.iastore, 1) := by decide +kernel
theorem dL_rewrite_208 : decode cL_rewrite 208 = .ok (.iinc 11 1, 3) := by decide +kernel
theorem dL_rewrite_211 : decode cL_rewrite 211 = .ok (.goto (-188), 3) := by decide +kernel
theorem dL_rewrite_214 : decode cL_rewrite 214 = .ok (.aload_n 3, 1) := by decide +kernel
theorem dL_rewrite_215 : decode cL_rewrite 215 = .ok (.iconst 0, 1) := by decide +kernel
theorem dL_rewrite_216 : decode cL_rewrite 216 = .ok (.iload 10, 2) := by decide +kernel
theorem dL_rewrite_218 : decode cL_rewrite 218 = .ok (.iastore, 1) := by decide +kernel
theorem dL_rewrite_219 : decode cL_rewrite 219 = .ok (.iconst 0, 1) := by decide +kernel
theorem dL_rewrite_220 : decode cL_rewrite 220 = .ok (.istore 11, 2) := by decide +kernel
theorem dL_rewrite_222 : decode cL_rewrite 222 = .ok (.iload 11, 2) := by decide +kernel
theorem dL_rewrite_224 : decode cL_rewrite 224 = .ok (.iload 10, 2) := by decide +kernel
theorem dL_rewrite_226 : decode cL_rewrite 226 = .ok (.if_icmp .ge 27, 3) := by decide +kernel
theorem dL_rewrite_229 : decode cL_rewrite 229 = .ok (.aload_n 1, 1) := by decide +kernel
theorem dL_rewrite_230 : decode cL_rewrite 230 = .ok (.iload 11, 2) := by decide +kernel
theorem dL_rewrite_232 : decode cL_rewrite 232 = .ok (.aload 4, 2) := by decide +kernel
theorem dL_rewrite_234 : decode cL_rewrite 234 = .ok (.iload 11, 2) := by decide +kernel
theorem dL_rewrite_236 : decode cL_rewrite 236 = .ok (.iaload, 1) := by decide +kernel
theorem dL_rewrite_237 : decode cL_rewrite 237 = .ok (.iastore, 1) := by decide +kernel
theorem dL_rewrite_238 : decode cL_rewrite 238 = .ok (.aload_n 2, 1) := by decide +kernel
theorem dL_rewrite_239 : decode cL_rewrite 239 = .ok (.iload 11, 2) := by decide +kernel
theorem dL_rewrite_241 : decode cL_rewrite 241 = .ok (.aload 5, 2) := by decide +kernel
theorem dL_rewrite_243 : decode cL_rewrite 243 = .ok (.iload 11, 2) := by decide +kernel
theorem dL_rewrite_245 : decode cL_rewrite 245 = .ok (.iaload, 1) := by decide +kernel
theorem dL_rewrite_246 : decode cL_rewrite 246 = .ok (.iastore, 1) := by decide +kernel
theorem dL_rewrite_247 : decode cL_rewrite 247 = .ok (.iinc 11 1, 3) := by decide +kernel
theorem dL_rewrite_250 : decode cL_rewrite 250 = .ok (.goto (-28), 3) := by decide +kernel
theorem dL_rewrite_253 : decode cL_rewrite 253 = .ok (.return_, 1) := by decide +kernel
theorem dL_same_0 : decode cL_same 0 = .ok (.aload_n 2, 1) := by decide +kernel
theorem dL_same_1 : decode cL_same 1 = .ok (.aload 4, 2) := by decide +kernel
theorem dL_same_3 : decode cL_same 3 = .ok (.aload 5, 2) := by decide +kernel
theorem dL_same_5 : decode cL_same 5 = .ok (.aload 6, 2) := by decide +kernel
theorem dL_same_7 : decode cL_same 7 = .ok (.invokestatic 16, 3) := by decide +kernel
theorem dL_same_10 : decode cL_same 10 = .ok (.iconst 4, 1) := by decide +kernel
theorem dL_same_11 : decode cL_same 11 = .ok (.newarray .int, 2) := by decide +kernel
theorem dL_same_13 : decode cL_same 13 = .ok (.astore 7, 2) := by decide +kernel
theorem dL_same_15 : decode cL_same 15 = .ok (.iconst 0, 1) := by decide +kernel
theorem dL_same_16 : decode cL_same 16 = .ok (.istore 8, 2) := by decide +kernel
theorem dL_same_18 : decode cL_same 18 = .ok (.iconst 0, 1) := by decide +kernel
theorem dL_same_19 : decode cL_same 19 = .ok (.istore 9, 2) := by decide +kernel
theorem dL_same_21 : decode cL_same 21 = .ok (.bipush (-6), 2) := by decide +kernel
theorem dL_same_23 : decode cL_same 23 = .ok (.istore 10, 2) := by decide +kernel
theorem dL_same_25 : decode cL_same 25 = .ok (.iconst 0, 1) := by decide +kernel
theorem dL_same_26 : decode cL_same 26 = .ok (.istore 11, 2) := by decide +kernel
theorem dL_same_28 : decode cL_same 28 = .ok (.iconst 0, 1) := by decide +kernel
theorem dL_same_29 : decode cL_same 29 = .ok (.istore 12, 2) := by decide +kernel
theorem dL_same_31 : decode cL_same 31 = .ok (.iload 12, 2) := by decide +kernel
theorem dL_same_33 : decode cL_same 33 = .ok (.aload 4, 2) := by decide +kernel
theorem dL_same_35 : decode cL_same 35 = .ok (.iconst 0, 1) := by decide +kernel
theorem dL_same_36 : decode cL_same 36 = .ok (.iaload, 1) := by decide +kernel
theorem dL_same_37 : decode cL_same 37 = .ok (.if_icmp .ge 321, 3) := by decide +kernel
theorem dL_same_40 : decode cL_same 40 = .ok (.aload 5, 2) := by decide +kernel
theorem dL_same_42 : decode cL_same 42 = .ok (.iload 12, 2) := by decide +kernel
theorem dL_same_44 : decode cL_same 44 = .ok (.invokestatic 20, 3) := by decide +kernel
theorem dL_same_47 : decode cL_same 47 = .ok (.istore 13, 2) := by decide +kernel
theorem dL_same_49 : decode cL_same 49 = .ok (.aload_n 2, 1) := by decide +kernel
theorem dL_same_50 : decode cL_same 50 = .ok (.iload 12, 2) := by decide +kernel
theorem dL_same_52 : decode cL_same 52 = .ok (.iaload, 1) := by decide +kernel
theorem dL_same_53 : decode cL_same 53 = .ok (.ifCond .ne 14, 3) := by decide +kernel
theorem dL_same_56 : decode cL_same 56 = .ok (.aload_n 3, 1) := by decide +kernel
theorem dL_same_57 : decode cL_same 57 = .ok (.aload 5, 2) := by decide +kernel
theorem dL_same_59 : decode cL_same 59 = .ok (.iload 12, 2) := by decide +kernel
theorem dL_same_61 : decode cL_same 61 = .ok (.invokestatic 23, 3) := by decide +kernel
theorem dL_same_64 : decode cL_same 64 = .ok (.goto 19, 3) := by decide +kernel
theorem dL_same_67 : decode cL_same 67 = .ok (.aload_n 2, 1) := by decide +kernel
theorem dL_same_68 : decode cL_same 68 = .ok (.iload 12, 2) := by decide +kernel
theorem dL_same_70 : decode cL_same 70 = .ok (.iaload, 1) := by decide +kernel
theorem dL_same_71 : decode cL_same 71 = .ok (.iconst 1, 1) := by decide +kernel
theorem dL_same_72 : decode cL_same 72 = .ok (.if_icmp .ne 10, 3) := by decide +kernel
theorem dL_same_75 : decode cL_same 75 = .ok (.aload_n 3, 1) := by decide +kernel
theorem dL_same_76 : decode cL_same 76 = .ok (.iload 12, 2) := by decide +kernel
theorem dL_same_78 : decode cL_same 78 = .ok (.iaload, 1) := by decide +kernel
theorem dL_same_79 : decode cL_same 79 = .ok (.goto 4, 3) := by decide +kernel
theorem dL_same_82 : decode cL_same 82 = .ok (.iconst 0, 1) := by decide +kernel
theorem dL_same_83 : decode cL_same 83 = .ok (.istore 14, 2) := by decide +kernel
theorem dL_same_85 : decode cL_same 85 = .ok (.aload 7, 2) := by decide +kernel
theorem dL_same_87 : decode cL_same 87 = .ok (.aload_n 2, 1) := by decide +kernel
theorem dL_same_88 : decode cL_same 88 = .ok (.iload 12, 2) := by decide +kernel
theorem dL_same_90 : decode cL_same 90 = .ok (.iaload, 1) := by decide +kernel
theorem dL_same_91 : decode cL_same 91 = .ok (.dup2, 1) := by decide +kernel
theorem dL_same_92 : decode cL_same 92 = .ok (.iaload, 1) := by decide +kernel
theorem dL_same_93 : decode cL_same 93 = .ok (.iconst 1, 1) := by decide +kernel
theorem dL_same_94 : decode cL_same 94 = .ok (.iadd, 1) := by decide +kernel
theorem dL_same_95 : decode cL_same 95 = .ok (.iastore, 1) := by decide +kernel
theorem dL_same_96 : decode cL_same 96 = .ok (.iload 13, 2) := by decide +kernel
theorem dL_same_98 : decode cL_same 98 = .ok (.iload 8, 2) := by decide +kernel
theorem dL_same_100 : decode cL_same 100 = .ok (.if_icmp .le 8, 3) := by decide +kernel
theorem dL_same_103 : decode cL_same 103 = .ok (.iload 13, 2) := by decide +kernel
theorem dL_same_105 : decode cL_same 105 = .ok (.goto 5, 3) := by decide +kernel
theorem dL_same_108 : decode cL_same 108 = .ok (.iload 8, 2) := by decide +kernel
theorem dL_same_110 : decode cL_same 110 = .ok (.istore 8, 2) := by decide +kernel
theorem dL_same_112 : decode cL_same 112 = .ok (.iload 9, 2) := by decide +kernel
theorem dL_same_114 : decode cL_same 114 = .ok (.aload_n 2, 1) := by decide +kernel
theorem dL_same_115 : decode cL_same 115 = .ok (.iload 12, 2) := by decide +kernel
theorem dL_same_117 : decode cL_same 117 = .ok (.iaload, 1) := by decide +kernel
theorem dL_same_118 : decode cL_same 118 = .ok (.iconst 3, 1) := by decide +kernel
theorem dL_same_119 : decode cL_same 119 = .ok (.if_icmp .ne 17, 3) := by decide +kernel
theorem dL_same_122 : decode cL_same 122 = .ok (.aload_n 2, 1) := by decide +kernel
theorem dL_same_123 : decode cL_same 123 = .ok (.iload 12, 2) := by decide +kernel
theorem dL_same_125 : decode cL_same 125 = .ok (.iconst 1, 1) := by decide +kernel
theorem dL_same_126 : decode cL_same 126 = .ok (.iadd, 1) := by decide +kernel
theorem dL_same_127 : decode cL_same 127 = .ok (.iaload, 1) := by decide +kernel
theorem dL_same_128 : decode cL_same 128 = .ok (.iconst 2, 1) := by decide +kernel
theorem dL_same_129 : decode cL_same 129 = .ok (.if_icmp .ne 7, 3) := by decide +kernel
theorem dL_same_132 : decode cL_same 132 = .ok (.iconst 1, 1) := by decide +kernel
theorem dL_same_133 : decode cL_same 133 = .ok (.goto 4, 3) := by decide +kernel
theorem dL_same_136 : decode cL_same 136 = .ok (.iconst 0, 1) := by decide +kernel
theorem dL_same_137 : decode cL_same 137 = .ok (.iadd, 1) := by decide +kernel
theorem dL_same_138 : decode cL_same 138 = .ok (.istore 9, 2) := by decide +kernel
theorem dL_same_140 : decode cL_same 140 = .ok (.aload_n 2, 1) := by decide +kernel
theorem dL_same_141 : decode cL_same 141 = .ok (.iload 12, 2) := by decide +kernel
theorem dL_same_143 : decode cL_same 143 = .ok (.iaload, 1) := by decide +kernel
theorem dL_same_144 : decode cL_same 144 = .ok (.ifCond .ne 15, 3) := by decide +kernel
theorem dL_same_147 : decode cL_same 147 = .ok (.iload 14, 2) := by decide +kernel
theorem dL_same_149 : decode cL_same 149 = .ok (.iload 10, 2) := by decide +kernel
theorem dL_same_151 : decode cL_same 151 = .ok (.if_icmp .le 8, 3) := by decide +kernel
theorem dL_same_154 : decode cL_same 154 = .ok (.iload 14, 2) := by decide +kernel
theorem dL_same_156 : decode cL_same 156 = .ok (.goto 5, 3) := by decide +kernel
theorem dL_same_159 : decode cL_same 159 = .ok (.iload 10, 2) := by decide +kernel
theorem dL_same_161 : decode cL_same 161 = .ok (.istore 10, 2) := by decide +kernel
theorem dL_same_163 : decode cL_same 163 = .ok (.aload_n 0, 1) := by decide +kernel
theorem dL_same_164 : decode cL_same 164 = .ok (.iload_n 1, 1) := by decide +kernel
theorem dL_same_165 : decode cL_same 165 = .ok (.iload 12, 2) := by decide +kernel
theorem dL_same_167 : decode cL_same 167 = .ok (.iconst 0, 1) := by decide +kernel
theorem dL_same_168 : decode cL_same 168 = .ok (.invokevirtual 27, 3) := by decide +kernel
theorem dL_same_171 : decode cL_same 171 = .ok (.aload_n 2, 1) := by decide +kernel
theorem dL_same_172 : decode cL_same 172 = .ok (.iload 12, 2) := by decide +kernel
theorem dL_same_174 : decode cL_same 174 = .ok (.iaload, 1) := by decide +kernel
theorem dL_same_175 : decode cL_same 175 = .ok (.if_icmp .ne 73, 3) := by decide +kernel
theorem dL_same_178 : decode cL_same 178 = .ok (.aload_n 0, 1) := by decide +kernel
theorem dL_same_179 : decode cL_same 179 = .ok (.iload_n 1, 1) := by decide +kernel
theorem dL_same_180 : decode cL_same 180 = .ok (.iload 12, 2) := by decide +kernel
theorem dL_same_182 : decode cL_same 182 = .ok (.iconst 1, 1) := by decide +kernel
theorem dL_same_183 : decode cL_same 183 = .ok (.invokevirtual 27, 3) := by decide +kernel
theorem dL_same_186 : decode cL_same 186 = .ok (.iload 14, 2) := by decide +kernel
theorem dL_same_188 : decode cL_same 188 = .ok (.if_icmp .ne 60, 3) := by decide +kernel
theorem dL_same_191 : decode cL_same 191 = .ok (.aload_n 0, 1) := by decide +kernel
theorem dL_same_192 : decode cL_same 192 = .ok (.iload_n 1, 1) := by decide +kernel
theorem dL_same_193 : decode cL_same 193 = .ok (.iload 12, 2) := by decide +kernel
theorem dL_same_195 : decode cL_same 195 = .ok (.iconst 2, 1) := by decide +kernel
theorem dL_same_196 : decode cL_same 196 = .ok (.invokevirtual 27, 3) := by decide +kernel
theorem dL_same_199 : decode cL_same 199 = .ok (.iload 13, 2) := by decide +kernel
theorem dL_same_201 : decode cL_same 201 = .ok (.if_icmp .ne 47, 3) := by decide +kernel
theorem dL_same_204 : decode cL_same 204 = .ok (.aload_n 0, 1) := by decide +kernel
theorem dL_same_205 : decode cL_same 205 = .ok (.iload_n 1, 1) := by decide +kernel
theorem dL_same_206 : decode cL_same 206 = .ok (.iload 12, 2) := by decide +kernel
theorem dL_same_208 : decode cL_same 208 = .ok (.iconst 3, 1) := by decide +kernel
theorem dL_same_209 : decode cL_same 209 = .ok (.invokevirtual 27, 3) := by decide +kernel
theorem dL_same_212 : decode cL_same 212 = .ok (.aload_n 2, 1) := by decide +kernel
theorem dL_same_213 : decode cL_same 213 = .ok (.iload 12, 2) := by decide +kernel
theorem dL_same_215 : decode cL_same 215 = .ok (.invokestatic 10, 3) := by decide +kernel
theorem dL_same_218 : decode cL_same 218 = .ok (.if_icmp .ne 30, 3) := by decide +kernel
theorem dL_same_221 : decode cL_same 221 = .ok (.aload_n 0, 1) := by decide +kernel
theorem dL_same_222 : decode cL_same 222 = .ok (.iload_n 1, 1) := by decide +kernel
theorem dL_same_223 : decode cL_same 223 = .ok (.iload 12, 2) := by decide +kernel
theorem dL_same_225 : decode cL_same 225 = .ok (.iconst 4, 1) := by decide +kernel
theorem dL_same_226 : decode cL_same 226 = .ok (.invokevirtual 27, 3) := by decide +kernel
theorem dL_same_229 : decode cL_same 229 = .ok (.aload_n 2, 1) := by decide +kernel
theorem dL_same_230 : decode cL_same 230 = .ok (.iload 12, 2) := by decide +kernel
theorem dL_same_232 : decode cL_same 232 = .ok (.iaload, 1) := by decide +kernel
theorem dL_same_233 : decode cL_same 233 = .ok (.ifCond .ne 10, 3) := by decide +kernel
theorem dL_same_236 : decode cL_same 236 = .ok (.aload_n 3, 1) := by decide +kernel
theorem dL_same_237 : decode cL_same 237 = .ok (.iload 12, 2) := by decide +kernel
theorem dL_same_239 : decode cL_same 239 = .ok (.iaload, 1) := by decide +kernel
theorem dL_same_240 : decode cL_same 240 = .ok (.goto 5, 3) := by decide +kernel
theorem dL_same_243 : decode cL_same 243 = .ok (.bipush (-6), 2) := by decide +kernel
theorem dL_same_245 : decode cL_same 245 = .ok (.if_icmp .eq 5, 3) := by decide +kernel
theorem dL_same_248 : decode cL_same 248 = .ok (.iconst 0, 1) := by decide +kernel
theorem dL_same_249 : decode cL_same 249 = .ok (.ireturn, 1) := by decide +kernel
theorem dL_same_250 : decode cL_same 250 = .ok (.aload_n 2, 1) := by decide +kernel
theorem dL_same_251 : decode cL_same 251 = .ok (.iload 12, 2) := by decide +kernel
theorem dL_same_253 : decode cL_same 253 = .ok (.iaload, 1) := by decide +kernel
theorem dL_same_254 : decode cL_same 254 = .ok (.iconst 2, 1) := by decide +kernel
theorem dL_same_255 : decode cL_same 255 = .ok (.if_icmp .ne 20, 3) := by decide +kernel
theorem dL_same_258 : decode cL_same 258 = .ok (.aload_n 0, 1) := by decide +kernel
theorem dL_same_259 : decode cL_same 259 = .ok (.iload_n 1, 1) := by decide +kernel
theorem dL_same_260 : decode cL_same 260 = .ok (.iload 11, 2) := by decide +kernel
theorem dL_same_262 : decode cL_same 262 = .ok (.iinc 11 1, 3) := by decide +kernel
theorem dL_same_265 : decode cL_same 265 = .ok (.invokevirtual 33, 3) := by decide +kernel
theorem dL_same_268 : decode cL_same 268 = .ok (.bipush 76, 2) := by decide +kernel
theorem dL_same_270 : decode cL_same 270 = .ok (.if_icmp .eq 5, 3) := by decide +kernel
theorem dL_same_273 : decode cL_same 273 = .ok (.iconst 0, 1) := by decide +kernel
theorem dL_same_274 : decode cL_same 274 = .ok (.ireturn, 1) := by decide +kernel
theorem dL_same_275 : decode cL_same 275 = .ok (.aload_n 2, 1) := by decide +kernel
theorem dL_same_276 : decode cL_same 276 = .ok (.iload 12, 2) := by decide +kernel
theorem dL_same_278 : decode cL_same 278 = .ok (.iaload, 1) := by decide +kernel
theorem dL_same_279 : decode cL_same 279 = .ok (.iconst 3, 1) := by decide +kernel
theorem dL_same_280 : decode cL_same 280 = .ok (.if_icmp .ne 8, 3) := by decide +kernel
theorem dL_same_283 : decode cL_same 283 = .ok (.bipush 64, 2) := by decide +kernel
theorem dL_same_285 : decode cL_same 285 = .ok (.goto 48, 3) := by decide +kernel
theorem dL_same_288 : decode cL_same 288 = .ok (.aload_n 2, 1) := by decide +kernel
theorem dL_same_289 : decode cL_same 289 = .ok (.iload 12, 2) := by decide +kernel
theorem dL_same_291 : decode cL_same 291 = .ok (.iaload, 1) := by decide +kernel
theorem dL_same_292 : decode cL_same 292 = .ok (.iconst 1, 1) := by decide +kernel
theorem dL_same_293 : decode cL_same 293 = .ok (.if_icmp .ne 13, 3) := by decide +kernel
theorem dL_same_296 : decode cL_same 296 = .ok (.bipush 97, 2) := by decide +kernel
theorem dL_same_298 : decode cL_same 298 = .ok (.aload_n 3, 1) := by decide +kernel
theorem dL_same_299 : decode cL_same 299 = .ok (.iload 12, 2) := by decide +kernel
theorem dL_same_301 : decode cL_same 301 = .ok (.iaload, 1) := by decide +kernel
theorem dL_same_302 : decode cL_same 302 = .ok (.iadd, 1) := by decide +kernel
theorem dL_same_303 : decode cL_same 303 = .ok (.goto 30, 3) := by decide +kernel
theorem dL_same_306 : decode cL_same 306 = .ok (.bipush 103, 2) := by decide +kernel
theorem dL_same_308 : decode cL_same 308 = .ok (.aload_n 2, 1) := by decide +kernel
theorem dL_same_309 : decode cL_same 309 = .ok (.iload 12, 2) := by decide +kernel
theorem dL_same_311 : decode cL_same 311 = .ok (.iaload, 1) := by decide +kernel
theorem dL_same_312 : decode cL_same 312 = .ok (.ifCond .ne 15, 3) := by decide +kernel
theorem dL_same_315 : decode cL_same 315 = .ok (.aload 5, 2) := by decide +kernel
theorem dL_same_317 : decode cL_same 317 = .ok (.aload_n 3, 1) := by decide +kernel
theorem dL_same_318 : decode cL_same 318 = .ok (.iload 12, 2) := by decide +kernel
theorem dL_same_320 : decode cL_same 320 = .ok (.iaload, 1) := by decide +kernel
theorem dL_same_321 : decode cL_same 321 = .ok (.invokestatic 20, 3) := by decide +kernel
theorem dL_same_324 : decode cL_same 324 = .ok (.goto 5, 3) := by decide +kernel
theorem dL_same_327 : decode cL_same 327 = .ok (.iload 13, 2) := by decide +kernel
theorem dL_same_329 : decode cL_same 329 = .ok (.bipush 20, 2) := by decide +kernel
theorem dL_same_331 : decode cL_same 331 = .ok (.irem, 1) := by decide +kernel
theorem dL_same_332 : decode cL_same 332 = .ok (.iadd, 1) := by decide +kernel
theorem dL_same_333 : decode cL_same 333 = .ok (.istore 15, 2) := by decide +kernel
theorem dL_same_335 : decode cL_same 335 = .ok (.aload_n 0, 1) := by decide +kernel
theorem dL_same_336 : decode cL_same 336 = .ok (.iload_n 1, 1) := by decide +kernel
theorem dL_same_337 : decode cL_same 337 = .ok (.iload 11, 2) := by decide +kernel
theorem dL_same_339 : decode cL_same 339 = .ok (.iinc 11 1, 3) := by decide +kernel
theorem dL_same_342 : decode cL_same 342 = .ok (.invokevirtual 33, 3) := by decide +kernel
theorem dL_same_345 : decode cL_same 345 = .ok (.iload 15, 2) := by decide +kernel
theorem dL_same_347 : decode cL_same 347 = .ok (.if_icmp .eq 5, 3) := by decide +kernel
theorem dL_same_350 : decode cL_same 350 = .ok (.iconst 0, 1) := by decide +kernel
theorem dL_same_351 : decode cL_same 351 = .ok (.ireturn, 1) := by decide +kernel
theorem dL_same_352 : decode cL_same 352 = .ok (.iinc 12 1, 3) := by decide +kernel
theorem dL_same_355 : decode cL_same 355 = .ok (.goto (-324), 3) := by decide +kernel
theorem dL_same_358 : decode cL_same 358 = .ok (.iconst 0, 1) := by decide +kernel
theorem dL_same_359 : decode cL_same 359 = .ok (.istore 12, 2) := by decide +kernel
theorem dL_same_361 : decode cL_same 361 = .ok (.iload 12, 2) := by decide +kernel
theorem dL_same_363 : decode cL_same 363 = .ok (.iconst 3, 1) := by decide +kernel
theorem dL_same_364 : decode cL_same 364 = .ok (.if_icmp .ge 34, 3) := by decide +kernel
theorem dL_same_367 : decode cL_same 367 = .ok (.aload_n 0, 1) := by decide +kernel
theorem dL_same_368 : decode cL_same 368 = .ok (.iload_n 1, 1) := by decide +kernel
theorem dL_same_369 : decode cL_same 369 = .ok (.bipush 7, 2) := by decide +kernel
theorem dL_same_371 : decode cL_same 371 = .ok (.iload 12, 2) := by decide +kernel
theorem dL_same_373 : decode cL_same 373 = .ok (.iadd, 1) := by decide +kernel
theorem dL_same_374 : decode cL_same 374 = .ok (.invokevirtual 37, 3) := by decide +kernel
theorem dL_same_377 : decode cL_same 377 = .ok (.iload 12, 2) := by decide +kernel
theorem dL_same_379 : decode cL_same 379 = .ok (.aload_n 2, 1) := by decide +kernel
theorem dL_same_380 : decode cL_same 380 = .ok (.aload 4, 2) := by decide +kernel
theorem dL_same_382 : decode cL_same 382 = .ok (.aload 5, 2) := by decide +kernel
theorem dL_same_384 : decode cL_same 384 = .ok (.invokestatic 40, 3) := by decide +kernel
theorem dL_same_387 : decode cL_same 387 = .ok (.if_icmp .eq 5, 3) := by decide +kernel
theorem dL_same_390 : decode cL_same 390 = .ok (.iconst 0, 1) := by decide +kernel
theorem dL_same_391 : decode cL_same 391 = .ok (.ireturn, 1) := by decide +kernel
theorem dL_same_392 : decode cL_same 392 = .ok (.iinc 12 1, 3) := by decide +kernel
theorem dL_same_395 : decode cL_same 395 = .ok (.goto (-34), 3) := by decide +kernel
theorem dL_same_398 : decode cL_same 398 = .ok (.aload_n 0, 1) := by decide +kernel
theorem dL_same_399 : decode cL_same 399 = .ok (.iload_n 1, 1) := by decide +kernel
theorem dL_same_400 : decode cL_same 400 = .ok (.iconst 0, 1) := by decide +kernel
theorem dL_same_401 : decode cL_same 401 = .ok (.invokevirtual 37, 3) := by decide +kernel
theorem dL_same_404 : decode cL_same 404 = .ok (.aload 4, 2) := by decide +kernel
theorem dL_same_406 : decode cL_same 406 = .ok (.iconst 0, 1) := by decide +kernel
theorem dL_same_407 : decode cL_same 407 = .ok (.iaload, 1) := by decide +kernel
theorem dL_same_408 : decode cL_same 408 = .ok (.if_icmp .ne 105, 3) := by decide +kernel
theorem dL_same_411 : decode cL_same 411 = .ok (.aload_n 0, 1) := by decide +kernel
theorem dL_same_412 : decode cL_same 412 = .ok (.iload_n 1, 1) := by decide +kernel
theorem dL_same_413 : decode cL_same 413 = .ok (.iconst 1, 1) := by decide +kernel
theorem dL_same_414 : decode cL_same 414 = .ok (.invokevirtual 37, 3) := by decide +kernel
theorem dL_same_417 : decode cL_same 417 = .ok (.aload 7, 2) := by decide +kernel
theorem dL_same_419 : decode cL_same 419 = .ok (.iconst 2, 1) := by decide +kernel
theorem dL_same_420 : decode cL_same 420 = .ok (.iaload, 1) := by decide +kernel
theorem dL_same_421 : decode cL_same 421 = .ok (.if_icmp .ne 92, 3) := by decide +kernel
theorem dL_same_424 : decode cL_same 424 = .ok (.aload_n 0, 1) := by decide +kernel
theorem dL_same_425 : decode cL_same 425 = .ok (.iload_n 1, 1) := by decide +kernel
theorem dL_same_426 : decode cL_same 426 = .ok (.iconst 2, 1) := by decide +kernel
theorem dL_same_427 : decode cL_same 427 = .ok (.invokevirtual 37, 3) := by decide +kernel
theorem dL_same_430 : decode cL_same 430 = .ok (.aload 7, 2) := by decide +kernel
theorem dL_same_432 : decode cL_same 432 = .ok (.iconst 3, 1) := by decide +kernel
theorem dL_same_433 : decode cL_same 433 = .ok (.iaload, 1) := by decide +kernel
theorem dL_same_434 : decode cL_same 434 = .ok (.if_icmp .ne 79, 3) := by decide +kernel
theorem dL_same_437 : decode cL_same 437 = .ok (.aload_n 0, 1) := by decide +kernel
theorem dL_same_438 : decode cL_same 438 = .ok (.iload_n 1, 1) := by decide +kernel
theorem dL_same_439 : decode cL_same 439 = .ok (.iconst 3, 1) := by decide +kernel
theorem dL_same_440 : decode cL_same 440 = .ok (.invokevirtual 37, 3) := by decide +kernel
theorem dL_same_443 : decode cL_same 443 = .ok (.aload 7, 2) := by decide +kernel
theorem dL_same_445 : decode cL_same 445 = .ok (.iconst 0, 1) := by decide +kernel
theorem dL_same_446 : decode cL_same 446 = .ok (.iaload, 1) := by decide +kernel
theorem dL_same_447 : decode cL_same 447 = .ok (.if_icmp .ne 66, 3) := by decide +kernel
theorem dL_same_450 : decode cL_same 450 = .ok (.aload_n 0, 1) := by decide +kernel
theorem dL_same_451 : decode cL_same 451 = .ok (.iload_n 1, 1) := by decide +kernel
theorem dL_same_452 : decode cL_same 452 = .ok (.iconst 4, 1) := by decide +kernel
theorem dL_same_453 : decode cL_same 453 = .ok (.invokevirtual 37, 3) := by decide +kernel
theorem dL_same_456 : decode cL_same 456 = .ok (.aload 7, 2) := by decide +kernel
theorem dL_same_458 : decode cL_same 458 = .ok (.iconst 1, 1) := by decide +kernel
theorem dL_same_459 : decode cL_same 459 = .ok (.iaload, 1) := by decide +kernel
theorem dL_same_460 : decode cL_same 460 = .ok (.if_icmp .ne 53, 3) := by decide +kernel
theorem dL_same_463 : decode cL_same 463 = .ok (.aload_n 0, 1) := by decide +kernel
theorem dL_same_464 : decode cL_same 464 = .ok (.iload_n 1, 1) := by decide +kernel
theorem dL_same_465 : decode cL_same 465 = .ok (.iconst 5, 1) := by decide +kernel
theorem dL_same_466 : decode cL_same 466 = .ok (.invokevirtual 37, 3) := by decide +kernel
theorem dL_same_469 : decode cL_same 469 = .ok (.iload 8, 2) := by decide +kernel
theorem dL_same_471 : decode cL_same 471 = .ok (.if_icmp .ne 42, 3) := by decide +kernel
theorem dL_same_474 : decode cL_same 474 = .ok (.aload_n 0, 1) := by decide +kernel
theorem dL_same_475 : decode cL_same 475 = .ok (.iload_n 1, 1) := by decide +kernel
theorem dL_same_476 : decode cL_same 476 = .ok (.bipush 6, 2) := by decide +kernel
theorem dL_same_478 : decode cL_same 478 = .ok (.invokevirtual 37, 3) := by decide +kernel
theorem dL_same_481 : decode cL_same 481 = .ok (.iload 9, 2) := by decide +kernel
theorem dL_same_483 : decode cL_same 483 = .ok (.if_icmp .ne 30, 3) := by decide +kernel
theorem dL_same_486 : decode cL_same 486 = .ok (.aload_n 0, 1) := by decide +kernel
theorem dL_same_487 : decode cL_same 487 = .ok (.iload_n 1, 1) := by decide +kernel
theorem dL_same_488 : decode cL_same 488 = .ok (.bipush 10, 2) := by decide +kernel
theorem dL_same_490 : decode cL_same 490 = .ok (.invokevirtual 37, 3) := by decide +kernel
theorem dL_same_493 : decode cL_same 493 = .ok (.iload 10, 2) := by decide +kernel
theorem dL_same_495 : decode cL_same 495 = .ok (.if_icmp .ne 18, 3) := by decide +kernel
theorem dL_same_498 : decode cL_same 498 = .ok (.aload_n 0, 1) := by decide +kernel
theorem dL_same_499 : decode cL_same 499 = .ok (.iload_n 1, 1) := by decide +kernel
theorem dL_same_500 : decode cL_same 500 = .ok (.iload 11, 2) := by decide +kernel
theorem dL_same_502 : decode cL_same 502 = .ok (.invokevirtual 33, 3) := by decide +kernel
theorem dL_same_505 : decode cL_same 505 = .ok (.iconst (-1), 1) := by decide +kernel
theorem dL_same_506 : decode cL_same 506 = .ok (.if_icmp .ne 7, 3) := by decide +kernel
theorem dL_same_509 : decode cL_same 509 = .ok (.iconst 1, 1) := by decide +kernel
theorem dL_same_510 : decode cL_same 510 = .ok (.goto 4, 3) := by decide +kernel
theorem dL_same_513 : decode cL_same 513 = .ok (.iconst 0, 1) := by decide +kernel
theorem dL_same_514 : decode cL_same 514 = .ok (.ireturn, 1) := by decide +kernel
theorem dL_types_0 : decode cL_types 0 = .ok (.aload_n 0, 1) := by decide +kernel
theorem dL_types_1 : decode cL_types 1 = .ok (.invokevirtual 44, 3) := by decide +kernel
theorem dL_types_4 : decode cL_types 4 = .ok (.pop, 1) := by decide +kernel
theorem dL_types_5 : decode cL_types 5 = .ok (.aload 5, 2) := by decide +kernel
theorem dL_types_7 : decode cL_types 7 = .ok (.iconst 0, 1) := by decide +kernel
theorem dL_types_8 : decode cL_types 8 = .ok (.iconst 0, 1) := by decide +kernel
theorem dL_types_9 : decode cL_types 9 = .ok (.iastore, 1) := by decide +kernel
theorem dL_types_10 : decode cL_types 10 = .ok (.iconst 1, 1) := by decide +kernel
theorem dL_types_11 : decode cL_types 11 = .ok (.istore 8, 2) := by decide +kernel
theorem dL_types_13 : decode cL_types 13 = .ok (.aload 7, 2) := by decide +kernel
theorem dL_types_15 : decode cL_types 15 = .ok (.iconst 0, 1) := by decide +kernel
theorem dL_types_16 : decode cL_types 16 = .ok (.iconst (-1), 1) := by decide +kernel
theorem dL_types_17 : decode cL_types 17 = .ok (.iastore, 1) := by decide +kernel
theorem dL_types_18 : decode cL_types 18 = .ok (.iload 8, 2) := by decide +kernel
theorem dL_types_20 : decode cL_types 20 = .ok (.ifCond .le 349, 3) := by decide +kernel
theorem dL_types_23 : decode cL_types 23 = .ok (.aload 5, 2) := by decide +kernel
theorem dL_types_25 : decode cL_types 25 = .ok (.iconst 0, 1) := by decide +kernel
theorem dL_types_26 : decode cL_types 26 = .ok (.dup2, 1) := by decide +kernel
theorem dL_types_27 : decode cL_types 27 = .ok (.iaload, 1) := by decide +kernel
theorem dL_types_28 : decode cL_types 28 = .ok (.dup_x2, 1) := by decide +kernel
theorem dL_types_29 : decode cL_types 29 = .ok (.iconst 1, 1) := by decide +kernel
theorem dL_types_30 : decode cL_types 30 = .ok (.iadd, 1) := by decide +kernel
theorem dL_types_31 : decode cL_types 31 = .ok (.iastore, 1) := by decide +kernel
theorem dL_types_32 : decode cL_types 32 = .ok (.istore 9, 2) := by decide +kernel
theorem dL_types_34 : decode cL_types 34 = .ok (.iload 9, 2) := by decide +kernel
theorem dL_types_36 : decode cL_types 36 = .ok (.bipush 12, 2) := by decide +kernel
theorem dL_types_38 : decode cL_types 38 = .ok (.if_icmp .ge 12, 3) := by decide +kernel
theorem dL_types_41 : decode cL_types 41 = .ok (.iload_n 1, 1) := by decide +kernel
theorem dL_types_42 : decode cL_types 42 = .ok (.iconst 2, 1) := by decide +kernel
theorem dL_types_43 : decode cL_types 43 = .ok (.iload 9, 2) := by decide +kernel
theorem dL_types_45 : decode cL_types 45 = .ok (.imul, 1) := by decide +kernel
theorem dL_types_46 : decode cL_types 46 = .ok (.ishr, 1) := by decide +kernel
theorem dL_types_47 : decode cL_types 47 = .ok (.goto 12, 3) := by decide +kernel
theorem dL_types_50 : decode cL_types 50 = .ok (.iload_n 2, 1) := by decide +kernel
theorem dL_types_51 : decode cL_types 51 = .ok (.iconst 2, 1) := by decide +kernel
theorem dL_types_52 : decode cL_types 52 = .ok (.iload 9, 2) := by decide +kernel
theorem dL_types_54 : decode cL_types 54 = .ok (.bipush 12, 2) := by decide +kernel
theorem dL_types_56 : decode cL_types 56 = .ok (.isub, 1) := by decide +kernel
theorem dL_types_57 : decode cL_types 57 = .ok (.imul, 1) := by decide +kernel
theorem dL_types_58 : decode cL_types 58 = .ok (.ishr, 1) := by decide +kernel
theorem dL_types_59 : decode cL_types 59 = .ok (.istore 10, 2) := by decide +kernel
theorem dL_types_61 : decode cL_types 61 = .ok (.aload 6, 2) := by decide +kernel
theorem dL_types_63 : decode cL_types 63 = .ok (.iload 9, 2) := by decide +kernel
theorem dL_types_65 : decode cL_types 65 = .ok (.aload 7, 2) := by decide +kernel
theorem dL_types_67 : decode cL_types 67 = .ok (.iinc 8 (-1), 3) := by decide +kernel
theorem dL_types_70 : decode cL_types 70 = .ok (.iload 8, 2) := by decide +kernel
theorem dL_types_72 : decode cL_types 72 = .ok (.iaload, 1) := by decide +kernel
theorem dL_types_73 : decode cL_types 73 = .ok (.iastore, 1) := by decide +kernel
theorem dL_types_74 : decode cL_types 74 = .ok (.aload 6, 2) := by decide +kernel
theorem dL_types_76 : decode cL_types 76 = .ok (.iload 9, 2) := by decide +kernel
theorem dL_types_78 : decode cL_types 78 = .ok (.invokestatic 20, 3) := by decide +kernel
theorem dL_types_81 : decode cL_types 81 = .ok (.istore 11, 2) := by decide +kernel
theorem dL_types_83 : decode cL_types 83 = .ok (.iload 10, 2) := by decide +kernel
theorem dL_types_85 : decode cL_types 85 = .ok (.iconst 4, 1) := by decide +kernel
theorem dL_types_86 : decode cL_types 86 = .ok (.invokestatic 48, 3) := by decide +kernel
theorem dL_types_89 : decode cL_types 89 = .ok (.istore 12, 2) := by decide +kernel
theorem dL_types_91 : decode cL_types 91 = .ok (.iload 9, 2) := by decide +kernel
theorem dL_types_93 : decode cL_types 93 = .ok (.iload 8, 2) := by decide +kernel
theorem dL_types_95 : decode cL_types 95 = .ok (.iadd, 1) := by decide +kernel
theorem dL_types_96 : decode cL_types 96 = .ok (.bipush 18, 2) := by decide +kernel
theorem dL_types_98 : decode cL_types 98 = .ok (.if_icmp .le 15, 3) := by decide +kernel
theorem dL_types_101 : decode cL_types 101 = .ok (.iload 11, 2) := by decide +kernel
theorem dL_types_103 : decode cL_types 103 = .ok (.ifCond .le 7, 3) := by decide +kernel
theorem dL_types_106 : decode cL_types 106 = .ok (.iconst 0, 1) := by decide +kernel
theorem dL_types_107 : decode cL_types 107 = .ok (.goto 4, 3) := by decide +kernel
theorem dL_types_110 : decode cL_types 110 = .ok (.iconst 1, 1) := by decide +kernel
theorem dL_types_111 : decode cL_types 111 = .ok (.istore 12, 2) := by decide +kernel
theorem dL_types_113 : decode cL_types 113 = .ok (.iload 9, 2) := by decide +kernel
theorem dL_types_115 : decode cL_types 115 = .ok (.ifCond .ne 6, 3) := by decide +kernel
theorem dL_types_118 : decode cL_types 118 = .ok (.iconst 3, 1) := by decide +kernel
theorem dL_types_119 : decode cL_types 119 = .ok (.istore 12, 2) := by decide +kernel
theorem dL_types_121 : decode cL_types 121 = .ok (.iload 9, 2) := by decide +kernel
theorem dL_types_123 : decode cL_types 123 = .ok (.iconst 1, 1) := by decide +kernel
theorem dL_types_124 : decode cL_types 124 = .ok (.if_icmp .ne 14, 3) := by decide +kernel
theorem dL_types_127 : decode cL_types 127 = .ok (.iload_n 2, 1) := by decide +kernel
theorem dL_types_128 : decode cL_types 128 = .ok (.iconst 3, 1) := by decide +kernel
theorem dL_types_129 : decode cL_types 129 = .ok (.invokestatic 48, 3) := by decide +kernel
theorem dL_types_132 : decode cL_types 132 = .ok (.ifCond .le 6, 3) := by decide +kernel
theorem dL_types_135 : decode cL_types 135 = .ok (.iconst 2, 1) := by decide +kernel
theorem dL_types_136 : decode cL_types 136 = .ok (.istore 12, 2) := by decide +kernel
theorem dL_types_138 : decode cL_types 138 = .ok (.iload 12, 2) := by decide +kernel
theorem dL_types_140 : decode cL_types 140 = .ok (.ifCond .ne 11, 3) := by decide +kernel
theorem dL_types_143 : decode cL_types 143 = .ok (.iload 11, 2) := by decide +kernel
theorem dL_types_145 : decode cL_types 145 = .ok (.ifCond .ne 6, 3) := by decide +kernel
theorem dL_types_148 : decode cL_types 148 = .ok (.iconst 1, 1) := by decide +kernel
theorem dL_types_149 : decode cL_types 149 = .ok (.istore 12, 2) := by decide +kernel
theorem dL_types_151 : decode cL_types 151 = .ok (.aload_n 3, 1) := by decide +kernel
theorem dL_types_152 : decode cL_types 152 = .ok (.iload 9, 2) := by decide +kernel
theorem dL_types_154 : decode cL_types 154 = .ok (.iload 12, 2) := by decide +kernel
theorem dL_types_156 : decode cL_types 156 = .ok (.iastore, 1) := by decide +kernel
theorem dL_types_157 : decode cL_types 157 = .ok (.aload 4, 2) := by decide +kernel
theorem dL_types_159 : decode cL_types 159 = .ok (.iload 9, 2) := by decide +kernel
theorem dL_types_161 : decode cL_types 161 = .ok (.iconst 0, 1) := by decide +kernel
theorem dL_types_162 : decode cL_types 162 = .ok (.iastore, 1) := by decide +kernel
theorem dL_types_163 : decode cL_types 163 = .ok (.iload 12, 2) := by decide +kernel
theorem dL_types_165 : decode cL_types 165 = .ok (.ifCond .ne 85, 3) := by decide +kernel
theorem dL_types_168 : decode cL_types 168 = .ok (.iload 10, 2) := by decide +kernel
theorem dL_types_170 : decode cL_types 170 = .ok (.iconst 2, 1) := by decide +kernel
theorem dL_types_171 : decode cL_types 171 = .ok (.ishr, 1) := by decide +kernel
theorem dL_types_172 : decode cL_types 172 = .ok (.iload 11, 2) := by decide +kernel
theorem dL_types_174 : decode cL_types 174 = .ok (.bipush 10, 2) := by decide +kernel
theorem dL_types_176 : decode cL_types 176 = .ok (.if_icmp .ge 8, 3) := by decide +kernel
theorem dL_types_179 : decode cL_types 179 = .ok (.iload 11, 2) := by decide +kernel
theorem dL_types_181 : decode cL_types 181 = .ok (.goto 5, 3) := by decide +kernel
theorem dL_types_184 : decode cL_types 184 = .ok (.bipush 10, 2) := by decide +kernel
theorem dL_types_186 : decode cL_types 186 = .ok (.invokestatic 48, 3) := by decide +kernel
theorem dL_types_189 : decode cL_types 189 = .ok (.istore 13, 2) := by decide +kernel
theorem dL_types_191 : decode cL_types 191 = .ok (.aload 6, 2) := by decide +kernel
theorem dL_types_193 : decode cL_types 193 = .ok (.iload 9, 2) := by decide +kernel
theorem dL_types_195 : decode cL_types 195 = .ok (.iaload, 1) := by decide +kernel
theorem dL_types_196 : decode cL_types 196 = .ok (.istore 14, 2) := by decide +kernel
theorem dL_types_198 : decode cL_types 198 = .ok (.iconst 0, 1) := by decide +kernel
theorem dL_types_199 : decode cL_types 199 = .ok (.istore 15, 2) := by decide +kernel
theorem dL_types_201 : decode cL_types 201 = .ok (.iload 15, 2) := by decide +kernel
theorem dL_types_203 : decode cL_types 203 = .ok (.iload 13, 2) := by decide +kernel
theorem dL_types_205 : decode cL_types 205 = .ok (.if_icmp .ge 16, 3) := by decide +kernel
theorem dL_types_208 : decode cL_types 208 = .ok (.aload 6, 2) := by decide +kernel
theorem dL_types_210 : decode cL_types 210 = .ok (.iload 14, 2) := by decide +kernel
theorem dL_types_212 : decode cL_types 212 = .ok (.iaload, 1) := by decide +kernel
theorem dL_types_213 : decode cL_types 213 = .ok (.istore 14, 2) := by decide +kernel
theorem dL_types_215 : decode cL_types 215 = .ok (.iinc 15 1, 3) := by decide +kernel
theorem dL_types_218 : decode cL_types 218 = .ok (.goto (-17), 3) := by decide +kernel
theorem dL_types_221 : decode cL_types 221 = .ok (.aload 4, 2) := by decide +kernel
theorem dL_types_223 : decode cL_types 223 = .ok (.iload 9, 2) := by decide +kernel
theorem dL_types_225 : decode cL_types 225 = .ok (.iload 14, 2) := by decide +kernel
theorem dL_types_227 : decode cL_types 227 = .ok (.iastore, 1) := by decide +kernel
theorem dL_types_228 : decode cL_types 228 = .ok (.aload_n 0, 1) := by decide +kernel
theorem dL_types_229 : decode cL_types 229 = .ok (.bipush 48, 2) := by decide +kernel
theorem dL_types_231 : decode cL_types 231 = .ok (.iload 13, 2) := by decide +kernel
theorem dL_types_233 : decode cL_types 233 = .ok (.iadd, 1) := by decide +kernel
theorem dL_types_234 : decode cL_types 234 = .ok (.i2l, 1) := by decide +kernel
theorem dL_types_235 : decode cL_types 235 = .ok (.invokevirtual 51, 3) := by decide +kernel
theorem dL_types_238 : decode cL_types 238 = .ok (.iload 9, 2) := by decide +kernel
theorem dL_types_240 : decode cL_types 240 = .ok (.iconst 1, 1) := by decide +kernel
theorem dL_types_241 : decode cL_types 241 = .ok (.iadd, 1) := by decide +kernel
theorem dL_types_242 : decode cL_types 242 = .ok (.if_icmp .eq 5, 3) := by decide +kernel
theorem dL_types_245 : decode cL_types 245 = .ok (.iconst 0, 1) := by decide +kernel
theorem dL_types_246 : decode cL_types 246 = .ok (.ireturn, 1) := by decide +kernel
theorem dL_types_247 : decode cL_types 247 = .ok (.goto 119, 3) := by decide +kernel
theorem dL_types_250 : decode cL_types 250 = .ok (.iload 12, 2) := by decide +kernel
theorem dL_types_252 : decode cL_types 252 = .ok (.iconst 1, 1) := by decide +kernel
theorem dL_types_253 : decode cL_types 253 = .ok (.if_icmp .ne 39, 3) := by decide +kernel
theorem dL_types_256 : decode cL_types 256 = .ok (.aload 4, 2) := by decide +kernel
theorem dL_types_258 : decode cL_types 258 = .ok (.iload 9, 2) := by decide +kernel
theorem dL_types_260 : decode cL_types 260 = .ok (.iload 10, 2) := by decide +kernel
theorem dL_types_262 : decode cL_types 262 = .ok (.iconst 2, 1) := by decide +kernel
theorem dL_types_263 : decode cL_types 263 = .ok (.ishr, 1) := by decide +kernel
theorem dL_types_264 : decode cL_types 264 = .ok (.bipush 6, 2) := by decide +kernel
theorem dL_types_266 : decode cL_types 266 = .ok (.invokestatic 48, 3) := by decide +kernel
theorem dL_types_269 : decode cL_types 269 = .ok (.iastore, 1) := by decide +kernel
theorem dL_types_270 : decode cL_types 270 = .ok (.aload_n 0, 1) := by decide +kernel
theorem dL_types_271 : decode cL_types 271 = .ok (.bipush 97, 2) := by decide +kernel
theorem dL_types_273 : decode cL_types 273 = .ok (.aload 4, 2) := by decide +kernel
theorem dL_types_275 : decode cL_types 275 = .ok (.iload 9, 2) := by decide +kernel
theorem dL_types_277 : decode cL_types 277 = .ok (.iaload, 1) := by decide +kernel
theorem dL_types_278 : decode cL_types 278 = .ok (.iadd, 1) := by decide +kernel
theorem dL_types_279 : decode cL_types 279 = .ok (.i2l, 1) := by decide +kernel
theorem dL_types_280 : decode cL_types 280 = .ok (.invokevirtual 51, 3) := by decide +kernel
theorem dL_types_283 : decode cL_types 283 = .ok (.iload 9, 2) := by decide +kernel
theorem dL_types_285 : decode cL_types 285 = .ok (.iconst 1, 1) := by decide +kernel
theorem dL_types_286 : decode cL_types 286 = .ok (.iadd, 1) := by decide +kernel
theorem dL_types_287 : decode cL_types 287 = .ok (.if_icmp .eq 79, 3) := by decide +kernel
theorem dL_types_290 : decode cL_types 290 = .ok (.iconst 0, 1) := by decide +kernel
theorem dL_types_291 : decode cL_types 291 = .ok (.ireturn, 1) := by decide +kernel
theorem dL_types_292 : decode cL_types 292 = .ok (.iload 12, 2) := by decide +kernel
theorem dL_types_294 : decode cL_types 294 = .ok (.iconst 2, 1) := by decide +kernel
theorem dL_types_295 : decode cL_types 295 = .ok (.if_icmp .ne 29, 3) := by decide +kernel
theorem dL_types_298 : decode cL_types 298 = .ok (.aload 7, 2) := by decide +kernel
theorem dL_types_300 : decode cL_types 300 = .ok (.iload 8, 2) := by decide +kernel
theorem dL_types_302 : decode cL_types 302 = .ok (.iinc 8 1, 3) := by decide +kernel
theorem dL_types_305 : decode cL_types 305 = .ok (.iload 9, 2) := by decide +kernel
theorem dL_types_307 : decode cL_types 307 = .ok (.iastore, 1) := by decide +kernel
theorem dL_types_308 : decode cL_types 308 = .ok (.aload_n 0, 1) := by decide +kernel
theorem dL_types_309 : decode cL_types 309 = .ok (.ldc2_w 55, 3) := by decide +kernel
theorem dL_types_312 : decode cL_types 312 = .ok (.invokevirtual 51, 3) := by decide +kernel
theorem dL_types_315 : decode cL_types 315 = .ok (.iload 9, 2) := by decide +kernel
theorem dL_types_317 : decode cL_types 317 = .ok (.iconst 1, 1) := by decide +kernel
theorem dL_types_318 : decode cL_types 318 = .ok (.iadd, 1) := by decide +kernel
theorem dL_types_319 : decode cL_types 319 = .ok (.if_icmp .eq 47, 3) := by decide +kernel
theorem dL_types_322 : decode cL_types 322 = .ok (.iconst 0, 1) := by decide +kernel
theorem dL_types_323 : decode cL_types 323 = .ok (.ireturn, 1) := by decide +kernel
theorem dL_types_324 : decode cL_types 324 = .ok (.aload 7, 2) := by decide +kernel
theorem dL_types_326 : decode cL_types 326 = .ok (.iload 8, 2) := by decide +kernel
theorem dL_types_328 : decode cL_types 328 = .ok (.iinc 8 1, 3) := by decide +kernel
theorem dL_types_331 : decode cL_types 331 = .ok (.aload 6, 2) := by decide +kernel
theorem dL_types_333 : decode cL_types 333 = .ok (.iload 9, 2) := by decide +kernel
theorem dL_types_335 : decode cL_types 335 = .ok (.iaload, 1) := by decide +kernel
theorem dL_types_336 : decode cL_types 336 = .ok (.iastore, 1) := by decide +kernel
theorem dL_types_337 : decode cL_types 337 = .ok (.aload 7, 2) := by decide +kernel
theorem dL_types_339 : decode cL_types 339 = .ok (.iload 8, 2) := by decide +kernel
theorem dL_types_341 : decode cL_types 341 = .ok (.iinc 8 1, 3) := by decide +kernel
theorem dL_types_344 : decode cL_types 344 = .ok (.aload 6, 2) := by decide +kernel
theorem dL_types_346 : decode cL_types 346 = .ok (.iload 9, 2) := by decide +kernel
theorem dL_types_348 : decode cL_types 348 = .ok (.iaload, 1) := by decide +kernel
theorem dL_types_349 : decode cL_types 349 = .ok (.iastore, 1) := by decide +kernel
theorem dL_types_350 : decode cL_types 350 = .ok (.aload_n 0, 1) := by decide +kernel
theorem dL_types_351 : decode cL_types 351 = .ok (.ldc2_w 57, 3) := by decide +kernel
theorem dL_types_354 : decode cL_types 354 = .ok (.invokevirtual 51, 3) := by decide +kernel
theorem dL_types_357 : decode cL_types 357 = .ok (.iload 9, 2) := by decide +kernel
theorem dL_types_359 : decode cL_types 359 = .ok (.iconst 1, 1) := by decide +kernel
theorem dL_types_360 : decode cL_types 360 = .ok (.iadd, 1) := by decide +kernel
theorem dL_types_361 : decode cL_types 361 = .ok (.if_icmp .eq 5, 3) := by decide +kernel
theorem dL_types_364 : decode cL_types 364 = .ok (.iconst 0, 1) := by decide +kernel
theorem dL_types_365 : decode cL_types 365 = .ok (.ireturn, 1) := by decide +kernel
theorem dL_types_366 : decode cL_types 366 = .ok (.goto (-348), 3) := by decide +kernel
theorem dL_types_369 : decode cL_types 369 = .ok (.aload_n 0, 1) := by decide +kernel
theorem dL_types_370 : decode cL_types 370 = .ok (.invokevirtual 59, 3) := by decide +kernel
theorem dL_types_373 : decode cL_types 373 = .ok (.bipush (-6), 2) := by decide +kernel
theorem dL_types_375 : decode cL_types 375 = .ok (.if_icmp .ne 7, 3) := by decide +kernel
theorem dL_types_378 : decode cL_types 378 = .ok (.iconst 1, 1) := by decide +kernel
theorem dL_types_379 : decode cL_types 379 = .ok (.goto 4, 3) := by decide +kernel
theorem dL_types_382 : decode cL_types 382 = .ok (.iconst 0, 1) := by decide +kernel
theorem dL_types_383 : decode cL_types 383 = .ok (.ireturn, 1) := by decide +kernel
theorem dL_law_0 : decode cL_law 0 = .ok (.new 28, 3) := by decide +kernel
theorem dL_law_3 : decode cL_law 3 = .ok (.dup, 1) := by decide +kernel
theorem dL_law_4 : decode cL_law 4 = .ok (.invokespecial 62, 3) := by decide +kernel
theorem dL_law_7 : decode cL_law 7 = .ok (.astore_n 1, 1) := by decide +kernel
theorem dL_law_8 : decode cL_law 8 = .ok (.bipush 64, 2) := by decide +kernel
theorem dL_law_10 : decode cL_law 10 = .ok (.newarray .int, 2) := by decide +kernel
theorem dL_law_12 : decode cL_law 12 = .ok (.astore_n 2, 1) := by decide +kernel
theorem dL_law_13 : decode cL_law 13 = .ok (.bipush 64, 2) := by decide +kernel
theorem dL_law_15 : decode cL_law 15 = .ok (.newarray .int, 2) := by decide +kernel
theorem dL_law_17 : decode cL_law 17 = .ok (.astore_n 3, 1) := by decide +kernel
theorem dL_law_18 : decode cL_law 18 = .ok (.bipush 64, 2) := by decide +kernel
theorem dL_law_20 : decode cL_law 20 = .ok (.newarray .int, 2) := by decide +kernel
theorem dL_law_22 : decode cL_law 22 = .ok (.astore 4, 2) := by decide +kernel
theorem dL_law_24 : decode cL_law 24 = .ok (.bipush 64, 2) := by decide +kernel
theorem dL_law_26 : decode cL_law 26 = .ok (.newarray .int, 2) := by decide +kernel
theorem dL_law_28 : decode cL_law 28 = .ok (.astore 5, 2) := by decide +kernel
theorem dL_law_30 : decode cL_law 30 = .ok (.bipush 64, 2) := by decide +kernel
theorem dL_law_32 : decode cL_law 32 = .ok (.newarray .int, 2) := by decide +kernel
theorem dL_law_34 : decode cL_law 34 = .ok (.astore 6, 2) := by decide +kernel
theorem dL_law_36 : decode cL_law 36 = .ok (.bipush 64, 2) := by decide +kernel
theorem dL_law_38 : decode cL_law 38 = .ok (.newarray .int, 2) := by decide +kernel
theorem dL_law_40 : decode cL_law 40 = .ok (.astore 7, 2) := by decide +kernel
theorem dL_law_42 : decode cL_law 42 = .ok (.bipush 64, 2) := by decide +kernel
theorem dL_law_44 : decode cL_law 44 = .ok (.newarray .int, 2) := by decide +kernel
theorem dL_law_46 : decode cL_law 46 = .ok (.astore 8, 2) := by decide +kernel
theorem dL_law_48 : decode cL_law 48 = .ok (.bipush 64, 2) := by decide +kernel
theorem dL_law_50 : decode cL_law 50 = .ok (.newarray .int, 2) := by decide +kernel
theorem dL_law_52 : decode cL_law 52 = .ok (.astore 9, 2) := by decide +kernel
theorem dL_law_54 : decode cL_law 54 = .ok (.iconst 1, 1) := by decide +kernel
theorem dL_law_55 : decode cL_law 55 = .ok (.newarray .int, 2) := by decide +kernel
theorem dL_law_57 : decode cL_law 57 = .ok (.astore 10, 2) := by decide +kernel
theorem dL_law_59 : decode cL_law 59 = .ok (.iconst 0, 1) := by decide +kernel
theorem dL_law_60 : decode cL_law 60 = .ok (.istore 11, 2) := by decide +kernel
theorem dL_law_62 : decode cL_law 62 = .ok (.iload 11, 2) := by decide +kernel
theorem dL_law_64 : decode cL_law 64 = .ok (.iconst 5, 1) := by decide +kernel
theorem dL_law_65 : decode cL_law 65 = .ok (.if_icmp .ge 475, 3) := by decide +kernel
theorem dL_law_68 : decode cL_law 68 = .ok (.aload_n 0, 1) := by decide +kernel
theorem dL_law_69 : decode cL_law 69 = .ok (.iconst 4, 1) := by decide +kernel
theorem dL_law_70 : decode cL_law 70 = .ok (.iload 11, 2) := by decide +kernel
theorem dL_law_72 : decode cL_law 72 = .ok (.imul, 1) := by decide +kernel
theorem dL_law_73 : decode cL_law 73 = .ok (.invokestatic 63, 3) := by decide +kernel
theorem dL_law_76 : decode cL_law 76 = .ok (.bipush 6, 2) := by decide +kernel
theorem dL_law_78 : decode cL_law 78 = .ok (.invokestatic 48, 3) := by decide +kernel
theorem dL_law_81 : decode cL_law 81 = .ok (.istore 12, 2) := by decide +kernel
theorem dL_law_83 : decode cL_law 83 = .ok (.aload_n 1, 1) := by decide +kernel
theorem dL_law_84 : decode cL_law 84 = .ok (.aload_n 0, 1) := by decide +kernel
theorem dL_law_85 : decode cL_law 85 = .ok (.iconst 4, 1) := by decide +kernel
theorem dL_law_86 : decode cL_law 86 = .ok (.iload 11, 2) := by decide +kernel
theorem dL_law_88 : decode cL_law 88 = .ok (.imul, 1) := by decide +kernel
theorem dL_law_89 : decode cL_law 89 = .ok (.iconst 1, 1) := by decide +kernel
theorem dL_law_90 : decode cL_law 90 = .ok (.iadd, 1) := by decide +kernel
theorem dL_law_91 : decode cL_law 91 = .ok (.invokestatic 63, 3) := by decide +kernel
theorem dL_law_94 : decode cL_law 94 = .ok (.aload_n 0, 1) := by decide +kernel
theorem dL_law_95 : decode cL_law 95 = .ok (.iconst 4, 1) := by decide +kernel
theorem dL_law_96 : decode cL_law 96 = .ok (.iload 11, 2) := by decide +kernel
theorem dL_law_98 : decode cL_law 98 = .ok (.imul, 1) := by decide +kernel
theorem dL_law_99 : decode cL_law 99 = .ok (.iconst 2, 1) := by decide +kernel
theorem dL_law_100 : decode cL_law 100 = .ok (.iadd, 1) := by decide +kernel
theorem dL_law_101 : decode cL_law 101 = .ok (.invokestatic 63, 3) := by decide +kernel
theorem dL_law_104 : decode cL_law 104 = .ok (.aload_n 2, 1) := by decide +kernel
theorem dL_law_105 : decode cL_law 105 = .ok (.aload_n 3, 1) := by decide +kernel
theorem dL_law_106 : decode cL_law 106 = .ok (.aload 10, 2) := by decide +kernel
theorem dL_law_108 : decode cL_law 108 = .ok (.aload 4, 2) := by decide +kernel
theorem dL_law_110 : decode cL_law 110 = .ok (.aload 5, 2) := by decide +kernel
theorem dL_law_112 : decode cL_law 112 = .ok (.invokestatic 66, 3) := by decide +kernel
theorem dL_law_115 : decode cL_law 115 = .ok (.ifCond .eq 33, 3) := by decide +kernel
theorem dL_law_118 : decode cL_law 118 = .ok (.aload_n 1, 1) := by decide +kernel
theorem dL_law_119 : decode cL_law 119 = .ok (.iload 12, 2) := by decide +kernel
theorem dL_law_121 : decode cL_law 121 = .ok (.invokevirtual 70, 3) := by decide +kernel
theorem dL_law_124 : decode cL_law 124 = .ok (.aload 10, 2) := by decide +kernel
theorem dL_law_126 : decode cL_law 126 = .ok (.iconst 0, 1) := by decide +kernel
theorem dL_law_127 : decode cL_law 127 = .ok (.iaload, 1) := by decide +kernel
theorem dL_law_128 : decode cL_law 128 = .ok (.if_icmp .ne 20, 3) := by decide +kernel
theorem dL_law_131 : decode cL_law 131 = .ok (.aload_n 1, 1) := by decide +kernel
theorem dL_law_132 : decode cL_law 132 = .ok (.iload 12, 2) := by decide +kernel
theorem dL_law_134 : decode cL_law 134 = .ok (.aload_n 2, 1) := by decide +kernel
theorem dL_law_135 : decode cL_law 135 = .ok (.aload_n 3, 1) := by decide +kernel
theorem dL_law_136 : decode cL_law 136 = .ok (.aload 10, 2) := by decide +kernel
theorem dL_law_138 : decode cL_law 138 = .ok (.aload 4, 2) := by decide +kernel
theorem dL_law_140 : decode cL_law 140 = .ok (.aload 5, 2) := by decide +kernel
theorem dL_law_142 : decode cL_law 142 = .ok (.invokestatic 74, 3) := by decide +kernel
theorem dL_law_145 : decode cL_law 145 = .ok (.ifCond .ne 5, 3) := by decide +kernel
theorem dL_law_148 : decode cL_law 148 = .ok (.iconst 0, 1) := by decide +kernel
theorem dL_law_149 : decode cL_law 149 = .ok (.ireturn, 1) := by decide +kernel
theorem dL_law_150 : decode cL_law 150 = .ok (.aload_n 0, 1) := by decide +kernel
theorem dL_law_151 : decode cL_law 151 = .ok (.iconst 4, 1) := by decide +kernel
theorem dL_law_152 : decode cL_law 152 = .ok (.iload 11, 2) := by decide +kernel
theorem dL_law_154 : decode cL_law 154 = .ok (.imul, 1) := by decide +kernel
theorem dL_law_155 : decode cL_law 155 = .ok (.iconst 3, 1) := by decide +kernel
theorem dL_law_156 : decode cL_law 156 = .ok (.iadd, 1) := by decide +kernel
theorem dL_law_157 : decode cL_law 157 = .ok (.invokestatic 63, 3) := by decide +kernel
theorem dL_law_160 : decode cL_law 160 = .ok (.istore 13, 2) := by decide +kernel
theorem dL_law_162 : decode cL_law 162 = .ok (.iconst 0, 1) := by decide +kernel
theorem dL_law_163 : decode cL_law 163 = .ok (.istore 14, 2) := by decide +kernel
theorem dL_law_165 : decode cL_law 165 = .ok (.iload 14, 2) := by decide +kernel
theorem dL_law_167 : decode cL_law 167 = .ok (.bipush 8, 2) := by decide +kernel
theorem dL_law_169 : decode cL_law 169 = .ok (.if_icmp .ge 157, 3) := by decide +kernel
theorem dL_law_172 : decode cL_law 172 = .ok (.iload 13, 2) := by decide +kernel
theorem dL_law_174 : decode cL_law 174 = .ok (.iconst 2, 1) := by decide +kernel
theorem dL_law_175 : decode cL_law 175 = .ok (.iload 14, 2) := by decide +kernel
theorem dL_law_177 : decode cL_law 177 = .ok (.imul, 1) := by decide +kernel
theorem dL_law_178 : decode cL_law 178 = .ok (.ishr, 1) := by decide +kernel
theorem dL_law_179 : decode cL_law 179 = .ok (.iconst 3, 1) := by decide +kernel
theorem dL_law_180 : decode cL_law 180 = .ok (.invokestatic 48, 3) := by decide +kernel
theorem dL_law_183 : decode cL_law 183 = .ok (.istore 15, 2) := by decide +kernel
theorem dL_law_185 : decode cL_law 185 = .ok (.aload_n 2, 1) := by decide +kernel
theorem dL_law_186 : decode cL_law 186 = .ok (.aload 10, 2) := by decide +kernel
theorem dL_law_188 : decode cL_law 188 = .ok (.aload 4, 2) := by decide +kernel
theorem dL_law_190 : decode cL_law 190 = .ok (.aload 5, 2) := by decide +kernel
theorem dL_law_192 : decode cL_law 192 = .ok (.invokestatic 16, 3) := by decide +kernel
theorem dL_law_195 : decode cL_law 195 = .ok (.iload 15, 2) := by decide +kernel
theorem dL_law_197 : decode cL_law 197 = .ok (.aload_n 2, 1) := by decide +kernel
theorem dL_law_198 : decode cL_law 198 = .ok (.aload 10, 2) := by decide +kernel
theorem dL_law_200 : decode cL_law 200 = .ok (.aload 4, 2) := by decide +kernel
theorem dL_law_202 : decode cL_law 202 = .ok (.invokestatic 40, 3) := by decide +kernel
theorem dL_law_205 : decode cL_law 205 = .ok (.istore 16, 2) := by decide +kernel
theorem dL_law_207 : decode cL_law 207 = .ok (.iload 16, 2) := by decide +kernel
theorem dL_law_209 : decode cL_law 209 = .ok (.ifCond .ge 30, 3) := by decide +kernel
theorem dL_law_212 : decode cL_law 212 = .ok (.aload_n 1, 1) := by decide +kernel
theorem dL_law_213 : decode cL_law 213 = .ok (.iload 12, 2) := by decide +kernel
theorem dL_law_215 : decode cL_law 215 = .ok (.iload 15, 2) := by decide +kernel
theorem dL_law_217 : decode cL_law 217 = .ok (.iconst 5, 1) := by decide +kernel
theorem dL_law_218 : decode cL_law 218 = .ok (.invokevirtual 78, 3) := by decide +kernel
theorem dL_law_221 : decode cL_law 221 = .ok (.ifCond .ne 16, 3) := by decide +kernel
theorem dL_law_224 : decode cL_law 224 = .ok (.aload_n 1, 1) := by decide +kernel
theorem dL_law_225 : decode cL_law 225 = .ok (.iload 12, 2) := by decide +kernel
theorem dL_law_227 : decode cL_law 227 = .ok (.iload 15, 2) := by decide +kernel
theorem dL_law_229 : decode cL_law 229 = .ok (.invokevirtual 81, 3) := by decide +kernel
theorem dL_law_232 : decode cL_law 232 = .ok (.bipush (-5), 2) := by decide +kernel
theorem dL_law_234 : decode cL_law 234 = .ok (.if_icmp .eq 86, 3) := by decide +kernel
theorem dL_law_237 : decode cL_law 237 = .ok (.iconst 0, 1) := by decide +kernel
theorem dL_law_238 : decode cL_law 238 = .ok (.ireturn, 1) := by decide +kernel
theorem dL_law_239 : decode cL_law 239 = .ok (.iload 16, 2) := by decide +kernel
theorem dL_law_241 : decode cL_law 241 = .ok (.aload_n 2, 1) := by decide +kernel
theorem dL_law_242 : decode cL_law 242 = .ok (.aload_n 3, 1) := by decide +kernel
theorem dL_law_243 : decode cL_law 243 = .ok (.aload 10, 2) := by decide +kernel
theorem dL_law_245 : decode cL_law 245 = .ok (.invokestatic 84, 3) := by decide +kernel
theorem dL_law_248 : decode cL_law 248 = .ok (.istore 17, 2) := by decide +kernel
theorem dL_law_250 : decode cL_law 250 = .ok (.iload 17, 2) := by decide +kernel
theorem dL_law_252 : decode cL_law 252 = .ok (.bipush 60, 2) := by decide +kernel
theorem dL_law_254 : decode cL_law 254 = .ok (.if_icmp .le 6, 3) := by decide +kernel
theorem dL_law_257 : decode cL_law 257 = .ok (.goto 69, 3) := by decide +kernel
theorem dL_law_260 : decode cL_law 260 = .ok (.aload_n 1, 1) := by decide +kernel
theorem dL_law_261 : decode cL_law 261 = .ok (.iload 12, 2) := by decide +kernel
theorem dL_law_263 : decode cL_law 263 = .ok (.iload 15, 2) := by decide +kernel
theorem dL_law_265 : decode cL_law 265 = .ok (.invokevirtual 81, 3) := by decide +kernel
theorem dL_law_268 : decode cL_law 268 = .ok (.iload 17, 2) := by decide +kernel
theorem dL_law_270 : decode cL_law 270 = .ok (.if_icmp .eq 5, 3) := by decide +kernel
theorem dL_law_273 : decode cL_law 273 = .ok (.iconst 0, 1) := by decide +kernel
theorem dL_law_274 : decode cL_law 274 = .ok (.ireturn, 1) := by decide +kernel
theorem dL_law_275 : decode cL_law 275 = .ok (.iload 16, 2) := by decide +kernel
theorem dL_law_277 : decode cL_law 277 = .ok (.aload_n 2, 1) := by decide +kernel
theorem dL_law_278 : decode cL_law 278 = .ok (.aload_n 3, 1) := by decide +kernel
theorem dL_law_279 : decode cL_law 279 = .ok (.aload 10, 2) := by decide +kernel
theorem dL_law_281 : decode cL_law 281 = .ok (.aload 6, 2) := by decide +kernel
theorem dL_law_283 : decode cL_law 283 = .ok (.aload 7, 2) := by decide +kernel
theorem dL_law_285 : decode cL_law 285 = .ok (.aload 8, 2) := by decide +kernel
theorem dL_law_287 : decode cL_law 287 = .ok (.aload 9, 2) := by decide +kernel
theorem dL_law_289 : decode cL_law 289 = .ok (.invokestatic 87, 3) := by decide +kernel
theorem dL_law_292 : decode cL_law 292 = .ok (.aload 10, 2) := by decide +kernel
theorem dL_law_294 : decode cL_law 294 = .ok (.iconst 0, 1) := by decide +kernel
theorem dL_law_295 : decode cL_law 295 = .ok (.iaload, 1) := by decide +kernel
theorem dL_law_296 : decode cL_law 296 = .ok (.iload 17, 2) := by decide +kernel
theorem dL_law_298 : decode cL_law 298 = .ok (.if_icmp .ne 20, 3) := by decide +kernel
theorem dL_law_301 : decode cL_law 301 = .ok (.aload_n 1, 1) := by decide +kernel
theorem dL_law_302 : decode cL_law 302 = .ok (.iload 12, 2) := by decide +kernel
theorem dL_law_304 : decode cL_law 304 = .ok (.aload_n 2, 1) := by decide +kernel
theorem dL_law_305 : decode cL_law 305 = .ok (.aload_n 3, 1) := by decide +kernel
theorem dL_law_306 : decode cL_law 306 = .ok (.aload 10, 2) := by decide +kernel
theorem dL_law_308 : decode cL_law 308 = .ok (.aload 4, 2) := by decide +kernel
theorem dL_law_310 : decode cL_law 310 = .ok (.aload 5, 2) := by decide +kernel
theorem dL_law_312 : decode cL_law 312 = .ok (.invokestatic 74, 3) := by decide +kernel
theorem dL_law_315 : decode cL_law 315 = .ok (.ifCond .ne 5, 3) := by decide +kernel
theorem dL_law_318 : decode cL_law 318 = .ok (.iconst 0, 1) := by decide +kernel
theorem dL_law_319 : decode cL_law 319 = .ok (.ireturn, 1) := by decide +kernel
theorem dL_law_320 : decode cL_law 320 = .ok (.iinc 14 1, 3) := by decide +kernel
theorem dL_law_323 : decode cL_law 323 = .ok (.goto (-158), 3) := by decide +kernel
theorem dL_law_326 : decode cL_law 326 = .ok (.aload 10, 2) := by decide +kernel
theorem dL_law_328 : decode cL_law 328 = .ok (.iconst 0, 1) := by decide +kernel
theorem dL_law_329 : decode cL_law 329 = .ok (.iaload, 1) := by decide +kernel
theorem dL_law_330 : decode cL_law 330 = .ok (.bipush 60, 2) := by decide +kernel
theorem dL_law_332 : decode cL_law 332 = .ok (.if_icmp .ge 202, 3) := by decide +kernel
theorem dL_law_335 : decode cL_law 335 = .ok (.iload 13, 2) := by decide +kernel
theorem dL_law_337 : decode cL_law 337 = .ok (.iconst 2, 1) := by decide +kernel
theorem dL_law_338 : decode cL_law 338 = .ok (.invokestatic 48, 3) := by decide +kernel
theorem dL_law_341 : decode cL_law 341 = .ok (.ifCond .ne 193, 3) := by decide +kernel
theorem dL_law_344 : decode cL_law 344 = .ok (.iload 13, 2) := by decide +kernel
theorem dL_law_346 : decode cL_law 346 = .ok (.iconst 5, 1) := by decide +kernel
theorem dL_law_347 : decode cL_law 347 = .ok (.ishr, 1) := by decide +kernel
theorem dL_law_348 : decode cL_law 348 = .ok (.bipush 6, 2) := by decide +kernel
theorem dL_law_350 : decode cL_law 350 = .ok (.invokestatic 48, 3) := by decide +kernel
theorem dL_law_353 : decode cL_law 353 = .ok (.istore 14, 2) := by decide +kernel
theorem dL_law_355 : decode cL_law 355 = .ok (.iconst 0, 1) := by decide +kernel
theorem dL_law_356 : decode cL_law 356 = .ok (.istore 15, 2) := by decide +kernel
theorem dL_law_358 : decode cL_law 358 = .ok (.aload 10, 2) := by decide +kernel
theorem dL_law_360 : decode cL_law 360 = .ok (.iconst 0, 1) := by decide +kernel
theorem dL_law_361 : decode cL_law 361 = .ok (.iaload, 1) := by decide +kernel
theorem dL_law_362 : decode cL_law 362 = .ok (.istore 16, 2) := by decide +kernel
theorem dL_law_364 : decode cL_law 364 = .ok (.iload 16, 2) := by decide +kernel
theorem dL_law_366 : decode cL_law 366 = .ok (.ifCond .le 108, 3) := by decide +kernel
theorem dL_law_369 : decode cL_law 369 = .ok (.aload_n 2, 1) := by decide +kernel
theorem dL_law_370 : decode cL_law 370 = .ok (.iload 16, 2) := by decide +kernel
theorem dL_law_372 : decode cL_law 372 = .ok (.iconst 1, 1) := by decide +kernel
theorem dL_law_373 : decode cL_law 373 = .ok (.isub, 1) := by decide +kernel
theorem dL_law_374 : decode cL_law 374 = .ok (.iaload, 1) := by decide +kernel
theorem dL_law_375 : decode cL_law 375 = .ok (.iconst 1, 1) := by decide +kernel
theorem dL_law_376 : decode cL_law 376 = .ok (.if_icmp .ne 18, 3) := by decide +kernel
theorem dL_law_379 : decode cL_law 379 = .ok (.aload_n 3, 1) := by decide +kernel
theorem dL_law_380 : decode cL_law 380 = .ok (.iload 16, 2) := by decide +kernel
theorem dL_law_382 : decode cL_law 382 = .ok (.iconst 1, 1) := by decide +kernel
theorem dL_law_383 : decode cL_law 383 = .ok (.isub, 1) := by decide +kernel
theorem dL_law_384 : decode cL_law 384 = .ok (.iaload, 1) := by decide +kernel
theorem dL_law_385 : decode cL_law 385 = .ok (.iload 14, 2) := by decide +kernel
theorem dL_law_387 : decode cL_law 387 = .ok (.if_icmp .ne 7, 3) := by decide +kernel
theorem dL_law_390 : decode cL_law 390 = .ok (.iconst 1, 1) := by decide +kernel
theorem dL_law_391 : decode cL_law 391 = .ok (.goto 4, 3) := by decide +kernel
theorem dL_law_394 : decode cL_law 394 = .ok (.iconst 0, 1) := by decide +kernel
theorem dL_law_395 : decode cL_law 395 = .ok (.istore 17, 2) := by decide +kernel
theorem dL_law_397 : decode cL_law 397 = .ok (.iload 15, 2) := by decide +kernel
theorem dL_law_399 : decode cL_law 399 = .ok (.iload 17, 2) := by decide +kernel
theorem dL_law_401 : decode cL_law 401 = .ok (.ifCond .eq 7, 3) := by decide +kernel
theorem dL_law_404 : decode cL_law 404 = .ok (.iconst 1, 1) := by decide +kernel
theorem dL_law_405 : decode cL_law 405 = .ok (.goto 4, 3) := by decide +kernel
theorem dL_law_408 : decode cL_law 408 = .ok (.iconst 0, 1) := by decide +kernel
theorem dL_law_409 : decode cL_law 409 = .ok (.iadd, 1) := by decide +kernel
theorem dL_law_410 : decode cL_law 410 = .ok (.istore 15, 2) := by decide +kernel
theorem dL_law_412 : decode cL_law 412 = .ok (.aload_n 2, 1) := by decide +kernel
theorem dL_law_413 : decode cL_law 413 = .ok (.iload 16, 2) := by decide +kernel
theorem dL_law_415 : decode cL_law 415 = .ok (.iload 17, 2) := by decide +kernel
theorem dL_law_417 : decode cL_law 417 = .ok (.ifCond .eq 7, 3) := by decide +kernel
theorem dL_law_420 : decode cL_law 420 = .ok (.iconst 0, 1) := by decide +kernel
theorem dL_law_421 : decode cL_law 421 = .ok (.goto 9, 3) := by decide +kernel
theorem dL_law_424 : decode cL_law 424 = .ok (.aload_n 2, 1) := by decide +kernel
theorem dL_law_425 : decode cL_law 425 = .ok (.iload 16, 2) := by decide +kernel
theorem dL_law_427 : decode cL_law 427 = .ok (.iconst 1, 1) := by decide +kernel
theorem dL_law_428 : decode cL_law 428 = .ok (.isub, 1) := by decide +kernel
theorem dL_law_429 : decode cL_law 429 = .ok (.iaload, 1) := by decide +kernel
theorem dL_law_430 : decode cL_law 430 = .ok (.iastore, 1) := by decide +kernel
theorem dL_law_431 : decode cL_law 431 = .ok (.aload_n 3, 1) := by decide +kernel
theorem dL_law_432 : decode cL_law 432 = .ok (.iload 16, 2) := by decide +kernel
theorem dL_law_434 : decode cL_law 434 = .ok (.iload 17, 2) := by decide +kernel
theorem dL_law_436 : decode cL_law 436 = .ok (.ifCond .eq 7, 3) := by decide +kernel
theorem dL_law_439 : decode cL_law 439 = .ok (.iconst 0, 1) := by decide +kernel
theorem dL_law_440 : decode cL_law 440 = .ok (.goto 27, 3) := by decide +kernel
theorem dL_law_443 : decode cL_law 443 = .ok (.aload_n 2, 1) := by decide +kernel
theorem dL_law_444 : decode cL_law 444 = .ok (.iload 16, 2) := by decide +kernel
theorem dL_law_446 : decode cL_law 446 = .ok (.iaload, 1) := by decide +kernel
theorem dL_law_447 : decode cL_law 447 = .ok (.ifCond .ne 14, 3) := by decide +kernel
theorem dL_law_450 : decode cL_law 450 = .ok (.aload_n 3, 1) := by decide +kernel
theorem dL_law_451 : decode cL_law 451 = .ok (.iload 16, 2) := by decide +kernel
theorem dL_law_453 : decode cL_law 453 = .ok (.iconst 1, 1) := by decide +kernel
theorem dL_law_454 : decode cL_law 454 = .ok (.isub, 1) := by decide +kernel
theorem dL_law_455 : decode cL_law 455 = .ok (.iaload, 1) := by decide +kernel
theorem dL_law_456 : decode cL_law 456 = .ok (.iconst 1, 1) := by decide +kernel
theorem dL_law_457 : decode cL_law 457 = .ok (.iadd, 1) := by decide +kernel
theorem dL_law_458 : decode cL_law 458 = .ok (.goto 9, 3) := by decide +kernel
theorem dL_law_461 : decode cL_law 461 = .ok (.aload_n 3, 1) := by decide +kernel
theorem dL_law_462 : decode cL_law 462 = .ok (.iload 16, 2) := by decide +kernel
theorem dL_law_464 : decode cL_law 464 = .ok (.iconst 1, 1) := by decide +kernel
theorem dL_law_465 : decode cL_law 465 = .ok (.isub, 1) := by decide +kernel
theorem dL_law_466 : decode cL_law 466 = .ok (.iaload, 1) := by decide +kernel
theorem dL_law_467 : decode cL_law 467 = .ok (.iastore, 1) := by decide +kernel
theorem dL_law_468 : decode cL_law 468 = .ok (.iinc 16 (-1), 3) := by decide +kernel
theorem dL_law_471 : decode cL_law 471 = .ok (.goto (-107), 3) := by decide +kernel
theorem dL_law_474 : decode cL_law 474 = .ok (.aload_n 2, 1) := by decide +kernel
theorem dL_law_475 : decode cL_law 475 = .ok (.iconst 0, 1) := by decide +kernel
theorem dL_law_476 : decode cL_law 476 = .ok (.iconst 2, 1) := by decide +kernel
theorem dL_law_477 : decode cL_law 477 = .ok (.iastore, 1) := by decide +kernel
theorem dL_law_478 : decode cL_law 478 = .ok (.aload_n 3, 1) := by decide +kernel
theorem dL_law_479 : decode cL_law 479 = .ok (.iconst 0, 1) := by decide +kernel
theorem dL_law_480 : decode cL_law 480 = .ok (.iconst 0, 1) := by decide +kernel
theorem dL_law_481 : decode cL_law 481 = .ok (.iastore, 1) := by decide +kernel
theorem dL_law_482 : decode cL_law 482 = .ok (.aload 10, 2) := by decide +kernel
theorem dL_law_484 : decode cL_law 484 = .ok (.iconst 0, 1) := by decide +kernel
theorem dL_law_485 : decode cL_law 485 = .ok (.dup2, 1) := by decide +kernel
theorem dL_law_486 : decode cL_law 486 = .ok (.iaload, 1) := by decide +kernel
theorem dL_law_487 : decode cL_law 487 = .ok (.iconst 1, 1) := by decide +kernel
theorem dL_law_488 : decode cL_law 488 = .ok (.iadd, 1) := by decide +kernel
theorem dL_law_489 : decode cL_law 489 = .ok (.iastore, 1) := by decide +kernel
theorem dL_law_490 : decode cL_law 490 = .ok (.aload_n 1, 1) := by decide +kernel
theorem dL_law_491 : decode cL_law 491 = .ok (.iload 12, 2) := by decide +kernel
theorem dL_law_493 : decode cL_law 493 = .ok (.iload 14, 2) := by decide +kernel
theorem dL_law_495 : decode cL_law 495 = .ok (.iload 12, 2) := by decide +kernel
theorem dL_law_497 : decode cL_law 497 = .ok (.iconst 1, 1) := by decide +kernel
theorem dL_law_498 : decode cL_law 498 = .ok (.iadd, 1) := by decide +kernel
theorem dL_law_499 : decode cL_law 499 = .ok (.bipush 6, 2) := by decide +kernel
theorem dL_law_501 : decode cL_law 501 = .ok (.irem, 1) := by decide +kernel
theorem dL_law_502 : decode cL_law 502 = .ok (.invokevirtual 91, 3) := by decide +kernel
theorem dL_law_505 : decode cL_law 505 = .ok (.iload 15, 2) := by decide +kernel
theorem dL_law_507 : decode cL_law 507 = .ok (.if_icmp .ne 25, 3) := by decide +kernel
theorem dL_law_510 : decode cL_law 510 = .ok (.aload_n 1, 1) := by decide +kernel
theorem dL_law_511 : decode cL_law 511 = .ok (.iload 12, 2) := by decide +kernel
theorem dL_law_513 : decode cL_law 513 = .ok (.iconst 1, 1) := by decide +kernel
theorem dL_law_514 : decode cL_law 514 = .ok (.iadd, 1) := by decide +kernel
theorem dL_law_515 : decode cL_law 515 = .ok (.bipush 6, 2) := by decide +kernel
theorem dL_law_517 : decode cL_law 517 = .ok (.irem, 1) := by decide +kernel
theorem dL_law_518 : decode cL_law 518 = .ok (.aload_n 2, 1) := by decide +kernel
theorem dL_law_519 : decode cL_law 519 = .ok (.aload_n 3, 1) := by decide +kernel
theorem dL_law_520 : decode cL_law 520 = .ok (.aload 10, 2) := by decide +kernel
theorem dL_law_522 : decode cL_law 522 = .ok (.aload 4, 2) := by decide +kernel
theorem dL_law_524 : decode cL_law 524 = .ok (.aload 5, 2) := by decide +kernel
theorem dL_law_526 : decode cL_law 526 = .ok (.invokestatic 74, 3) := by decide +kernel
theorem dL_law_529 : decode cL_law 529 = .ok (.ifCond .ne 5, 3) := by decide +kernel
theorem dL_law_532 : decode cL_law 532 = .ok (.iconst 0, 1) := by decide +kernel
theorem dL_law_533 : decode cL_law 533 = .ok (.ireturn, 1) := by decide +kernel
theorem dL_law_534 : decode cL_law 534 = .ok (.iinc 11 1, 3) := by decide +kernel
theorem dL_law_537 : decode cL_law 537 = .ok (.goto (-475), 3) := by decide +kernel
theorem dL_law_540 : decode cL_law 540 = .ok (.iconst 1, 1) := by decide +kernel
theorem dL_law_541 : decode cL_law 541 = .ok (.ireturn, 1) := by decide +kernel
