theorem dX12_clock_18 : decode cX12_clock 18 = .ok (.iload_n 1, 1) := by decide +kernel
theorem dX12_clock_19 : decode cX12_clock 19 = .ok (.putfield 313, 3) := by decide +kernel
theorem dX12_clock_22 : decode cX12_clock 22 = .ok (.iconst 1, 1) := by decide +kernel
theorem dX12_clock_23 : decode cX12_clock 23 = .ok (.ireturn, 1) := by decide +kernel
theorem dX12_hears_0 : decode cX12_hears 0 = .ok (.iconst 0, 1) := by decide +kernel
theorem dX12_hears_1 : decode cX12_hears 1 = .ok (.istore 4, 2) := by decide +kernel
theorem dX12_hears_3 : decode cX12_hears 3 = .ok (.iload 4, 2) := by decide +kernel
theorem dX12_hears_5 : decode cX12_hears 5 = .ok (.sipush 288, 3) := by decide +kernel
theorem dX12_hears_8 : decode cX12_hears 8 = .ok (.if_icmp .ge 17, 3) := by decide +kernel
theorem dX12_hears_11 : decode cX12_hears 11 = .ok (.aload_n 0, 1) := by decide +kernel
theorem dX12_hears_12 : decode cX12_hears 12 = .ok (.getfield 107, 3) := by decide +kernel
theorem dX12_hears_15 : decode cX12_hears 15 = .ok (.iload 4, 2) := by decide +kernel
theorem dX12_hears_17 : decode cX12_hears 17 = .ok (.iconst (-1), 1) := by decide +kernel
theorem dX12_hears_18 : decode cX12_hears 18 = .ok (.iastore, 1) := by decide +kernel
theorem dX12_hears_19 : decode cX12_hears 19 = .ok (.iinc 4 1, 3) := by decide +kernel
theorem dX12_hears_22 : decode cX12_hears 22 = .ok (.goto (-19), 3) := by decide +kernel
theorem dX12_hears_25 : decode cX12_hears 25 = .ok (.iconst 0, 1) := by decide +kernel
theorem dX12_hears_26 : decode cX12_hears 26 = .ok (.istore 4, 2) := by decide +kernel
theorem dX12_hears_28 : decode cX12_hears 28 = .ok (.iload 4, 2) := by decide +kernel
theorem dX12_hears_30 : decode cX12_hears 30 = .ok (.iload_n 3, 1) := by decide +kernel
theorem dX12_hears_31 : decode cX12_hears 31 = .ok (.if_icmp .ge 77, 3) := by decide +kernel
theorem dX12_hears_34 : decode cX12_hears 34 = .ok (.aload_n 0, 1) := by decide +kernel
theorem dX12_hears_35 : decode cX12_hears 35 = .ok (.getfield 80, 3) := by decide +kernel
theorem dX12_hears_38 : decode cX12_hears 38 = .ok (.iload 4, 2) := by decide +kernel
theorem dX12_hears_40 : decode cX12_hears 40 = .ok (.baload, 1) := by decide +kernel
theorem dX12_hears_41 : decode cX12_hears 41 = .ok (.ifCond .ne 61, 3) := by decide +kernel
theorem dX12_hears_44 : decode cX12_hears 44 = .ok (.aload_n 0, 1) := by decide +kernel
theorem dX12_hears_45 : decode cX12_hears 45 = .ok (.getfield 83, 3) := by decide +kernel
theorem dX12_hears_48 : decode cX12_hears 48 = .ok (.iload 4, 2) := by decide +kernel
theorem dX12_hears_50 : decode cX12_hears 50 = .ok (.iaload, 1) := by decide +kernel
theorem dX12_hears_51 : decode cX12_hears 51 = .ok (.iload_n 1, 1) := by decide +kernel
theorem dX12_hears_52 : decode cX12_hears 52 = .ok (.if_icmp .ne 50, 3) := by decide +kernel
theorem dX12_hears_55 : decode cX12_hears 55 = .ok (.aload_n 0, 1) := by decide +kernel
theorem dX12_hears_56 : decode cX12_hears 56 = .ok (.getfield 86, 3) := by decide +kernel
theorem dX12_hears_59 : decode cX12_hears 59 = .ok (.iload 4, 2) := by decide +kernel
theorem dX12_hears_61 : decode cX12_hears 61 = .ok (.iaload, 1) := by decide +kernel
theorem dX12_hears_62 : decode cX12_hears 62 = .ok (.iload_n 2, 1) := by decide +kernel
theorem dX12_hears_63 : decode cX12_hears 63 = .ok (.if_icmp .ne 39, 3) := by decide +kernel
theorem dX12_hears_66 : decode cX12_hears 66 = .ok (.aload_n 0, 1) := by decide +kernel
theorem dX12_hears_67 : decode cX12_hears 67 = .ok (.getfield 89, 3) := by decide +kernel
theorem dX12_hears_70 : decode cX12_hears 70 = .ok (.iload 4, 2) := by decide +kernel
theorem dX12_hears_72 : decode cX12_hears 72 = .ok (.iaload, 1) := by decide +kernel
theorem dX12_hears_73 : decode cX12_hears 73 = .ok (.istore 5, 2) := by decide +kernel
theorem dX12_hears_75 : decode cX12_hears 75 = .ok (.iload 5, 2) := by decide +kernel
theorem dX12_hears_77 : decode cX12_hears 77 = .ok (.aload_n 0, 1) := by decide +kernel
theorem dX12_hears_78 : decode cX12_hears 78 = .ok (.getfield 92, 3) := by decide +kernel
theorem dX12_hears_81 : decode cX12_hears 81 = .ok (.iload 4, 2) := by decide +kernel
theorem dX12_hears_83 : decode cX12_hears 83 = .ok (.iaload, 1) := by decide +kernel
theorem dX12_hears_84 : decode cX12_hears 84 = .ok (.if_icmp .ge 18, 3) := by decide +kernel
theorem dX12_hears_87 : decode cX12_hears 87 = .ok (.aload_n 0, 1) := by decide +kernel
theorem dX12_hears_88 : decode cX12_hears 88 = .ok (.getfield 107, 3) := by decide +kernel
theorem dX12_hears_91 : decode cX12_hears 91 = .ok (.iload 5, 2) := by decide +kernel
theorem dX12_hears_93 : decode cX12_hears 93 = .ok (.iload 4, 2) := by decide +kernel
theorem dX12_hears_95 : decode cX12_hears 95 = .ok (.iastore, 1) := by decide +kernel
theorem dX12_hears_96 : decode cX12_hears 96 = .ok (.iinc 5 1, 3) := by decide +kernel
theorem dX12_hears_99 : decode cX12_hears 99 = .ok (.goto (-24), 3) := by decide +kernel
theorem dX12_hears_102 : decode cX12_hears 102 = .ok (.iinc 4 1, 3) := by decide +kernel
theorem dX12_hears_105 : decode cX12_hears 105 = .ok (.goto (-77), 3) := by decide +kernel
theorem dX12_hears_108 : decode cX12_hears 108 = .ok (.return_, 1) := by decide +kernel
theorem dX12_makes_0 : decode cX12_makes 0 = .ok (.aload_n 0, 1) := by decide +kernel
theorem dX12_makes_1 : decode cX12_makes 1 = .ok (.getfield 104, 3) := by decide +kernel
theorem dX12_makes_4 : decode cX12_makes 4 = .ok (.iload_n 1, 1) := by decide +kernel
theorem dX12_makes_5 : decode cX12_makes 5 = .ok (.if_icmp .ne 4, 3) := by decide +kernel
theorem dX12_makes_8 : decode cX12_makes 8 = .ok (.return_, 1) := by decide +kernel
theorem dX12_makes_9 : decode cX12_makes 9 = .ok (.aload_n 0, 1) := by decide +kernel
theorem dX12_makes_10 : decode cX12_makes 10 = .ok (.iload_n 1, 1) := by decide +kernel
theorem dX12_makes_11 : decode cX12_makes 11 = .ok (.putfield 104, 3) := by decide +kernel
theorem dX12_makes_14 : decode cX12_makes 14 = .ok (.iconst 0, 1) := by decide +kernel
theorem dX12_makes_15 : decode cX12_makes 15 = .ok (.istore_n 2, 1) := by decide +kernel
theorem dX12_makes_16 : decode cX12_makes 16 = .ok (.iload_n 2, 1) := by decide +kernel
theorem dX12_makes_17 : decode cX12_makes 17 = .ok (.aload_n 0, 1) := by decide +kernel
theorem dX12_makes_18 : decode cX12_makes 18 = .ok (.getfield 186, 3) := by decide +kernel
theorem dX12_makes_21 : decode cX12_makes 21 = .ok (.if_icmp .ge 267, 3) := by decide +kernel
theorem dX12_makes_24 : decode cX12_makes 24 = .ok (.iconst 0, 1) := by decide +kernel
theorem dX12_makes_25 : decode cX12_makes 25 = .ok (.istore_n 3, 1) := by decide +kernel
theorem dX12_makes_26 : decode cX12_makes 26 = .ok (.iload_n 3, 1) := by decide +kernel
theorem dX12_makes_27 : decode cX12_makes 27 = .ok (.sipush 288, 3) := by decide +kernel
theorem dX12_makes_30 : decode cX12_makes 30 = .ok (.if_icmp .ge 22, 3) := by decide +kernel
theorem dX12_makes_33 : decode cX12_makes 33 = .ok (.aload_n 0, 1) := by decide +kernel
theorem dX12_makes_34 : decode cX12_makes 34 = .ok (.getfield 110, 3) := by decide +kernel
theorem dX12_makes_37 : decode cX12_makes 37 = .ok (.sipush 288, 3) := by decide +kernel
theorem dX12_makes_40 : decode cX12_makes 40 = .ok (.iload_n 2, 1) := by decide +kernel
theorem dX12_makes_41 : decode cX12_makes 41 = .ok (.imul, 1) := by decide +kernel
theorem dX12_makes_42 : decode cX12_makes 42 = .ok (.iload_n 3, 1) := by decide +kernel
theorem dX12_makes_43 : decode cX12_makes 43 = .ok (.iadd, 1) := by decide +kernel
theorem dX12_makes_44 : decode cX12_makes 44 = .ok (.iconst (-1), 1) := by decide +kernel
theorem dX12_makes_45 : decode cX12_makes 45 = .ok (.iastore, 1) := by decide +kernel
theorem dX12_makes_46 : decode cX12_makes 46 = .ok (.iinc 3 1, 3) := by decide +kernel
theorem dX12_makes_49 : decode cX12_makes 49 = .ok (.goto (-23), 3) := by decide +kernel
theorem dX12_makes_52 : decode cX12_makes 52 = .ok (.iconst 0, 1) := by decide +kernel
theorem dX12_makes_53 : decode cX12_makes 53 = .ok (.istore_n 3, 1) := by decide +kernel
theorem dX12_makes_54 : decode cX12_makes 54 = .ok (.iload_n 3, 1) := by decide +kernel
theorem dX12_makes_55 : decode cX12_makes 55 = .ok (.aload_n 0, 1) := by decide +kernel
theorem dX12_makes_56 : decode cX12_makes 56 = .ok (.getfield 301, 3) := by decide +kernel
theorem dX12_makes_59 : decode cX12_makes 59 = .ok (.if_icmp .ge 106, 3) := by decide +kernel
theorem dX12_makes_62 : decode cX12_makes 62 = .ok (.aload_n 0, 1) := by decide +kernel
theorem dX12_makes_63 : decode cX12_makes 63 = .ok (.iload_n 3, 1) := by decide +kernel
theorem dX12_makes_64 : decode cX12_makes 64 = .ok (.iload_n 2, 1) := by decide +kernel
theorem dX12_makes_65 : decode cX12_makes 65 = .ok (.iload_n 1, 1) := by decide +kernel
theorem dX12_makes_66 : decode cX12_makes 66 = .ok (.invokevirtual 319, 3) := by decide +kernel
theorem dX12_makes_69 : decode cX12_makes 69 = .ok (.iconst 0, 1) := by decide +kernel
theorem dX12_makes_70 : decode cX12_makes 70 = .ok (.istore 4, 2) := by decide +kernel
theorem dX12_makes_72 : decode cX12_makes 72 = .ok (.iload 4, 2) := by decide +kernel
theorem dX12_makes_74 : decode cX12_makes 74 = .ok (.sipush 288, 3) := by decide +kernel
theorem dX12_makes_77 : decode cX12_makes 77 = .ok (.if_icmp .ge 82, 3) := by decide +kernel
theorem dX12_makes_80 : decode cX12_makes 80 = .ok (.aload_n 0, 1) := by decide +kernel
theorem dX12_makes_81 : decode cX12_makes 81 = .ok (.getfield 110, 3) := by decide +kernel
theorem dX12_makes_84 : decode cX12_makes 84 = .ok (.sipush 288, 3) := by decide +kernel
theorem dX12_makes_87 : decode cX12_makes 87 = .ok (.iload_n 2, 1) := by decide +kernel
theorem dX12_makes_88 : decode cX12_makes 88 = .ok (.imul, 1) := by decide +kernel
theorem dX12_makes_89 : decode cX12_makes 89 = .ok (.iload 4, 2) := by decide +kernel
theorem dX12_makes_91 : decode cX12_makes 91 = .ok (.iadd, 1) := by decide +kernel
theorem dX12_makes_92 : decode cX12_makes 92 = .ok (.iaload, 1) := by decide +kernel
theorem dX12_makes_93 : decode cX12_makes 93 = .ok (.istore 5, 2) := by decide +kernel
theorem dX12_makes_95 : decode cX12_makes 95 = .ok (.aload_n 0, 1) := by decide +kernel
theorem dX12_makes_96 : decode cX12_makes 96 = .ok (.getfield 107, 3) := by decide +kernel
theorem dX12_makes_99 : decode cX12_makes 99 = .ok (.iload 4, 2) := by decide +kernel
theorem dX12_makes_101 : decode cX12_makes 101 = .ok (.iaload, 1) := by decide +kernel
theorem dX12_makes_102 : decode cX12_makes 102 = .ok (.iconst (-1), 1) := by decide +kernel
theorem dX12_makes_103 : decode cX12_makes 103 = .ok (.if_icmp .eq 50, 3) := by decide +kernel
theorem dX12_makes_106 : decode cX12_makes 106 = .ok (.iload 5, 2) := by decide +kernel
theorem dX12_makes_108 : decode cX12_makes 108 = .ok (.iconst (-1), 1) := by decide +kernel
theorem dX12_makes_109 : decode cX12_makes 109 = .ok (.if_icmp .eq 24, 3) := by decide +kernel
theorem dX12_makes_112 : decode cX12_makes 112 = .ok (.aload_n 0, 1) := by decide +kernel
theorem dX12_makes_113 : decode cX12_makes 113 = .ok (.getfield 77, 3) := by decide +kernel
theorem dX12_makes_116 : decode cX12_makes 116 = .ok (.iload_n 3, 1) := by decide +kernel
theorem dX12_makes_117 : decode cX12_makes 117 = .ok (.iaload, 1) := by decide +kernel
theorem dX12_makes_118 : decode cX12_makes 118 = .ok (.aload_n 0, 1) := by decide +kernel
theorem dX12_makes_119 : decode cX12_makes 119 = .ok (.getfield 77, 3) := by decide +kernel
theorem dX12_makes_122 : decode cX12_makes 122 = .ok (.aload_n 0, 1) := by decide +kernel
theorem dX12_makes_123 : decode cX12_makes 123 = .ok (.getfield 83, 3) := by decide +kernel
theorem dX12_makes_126 : decode cX12_makes 126 = .ok (.iload 5, 2) := by decide +kernel
theorem dX12_makes_128 : decode cX12_makes 128 = .ok (.iaload, 1) := by decide +kernel
theorem dX12_makes_129 : decode cX12_makes 129 = .ok (.iaload, 1) := by decide +kernel
theorem dX12_makes_130 : decode cX12_makes 130 = .ok (.if_icmp .le 23, 3) := by decide +kernel
theorem dX12_makes_133 : decode cX12_makes 133 = .ok (.aload_n 0, 1) := by decide +kernel
theorem dX12_makes_134 : decode cX12_makes 134 = .ok (.getfield 110, 3) := by decide +kernel
theorem dX12_makes_137 : decode cX12_makes 137 = .ok (.sipush 288, 3) := by decide +kernel
theorem dX12_makes_140 : decode cX12_makes 140 = .ok (.iload_n 2, 1) := by decide +kernel
theorem dX12_makes_141 : decode cX12_makes 141 = .ok (.imul, 1) := by decide +kernel
theorem dX12_makes_142 : decode cX12_makes 142 = .ok (.iload 4, 2) := by decide +kernel
theorem dX12_makes_144 : decode cX12_makes 144 = .ok (.iadd, 1) := by decide +kernel
theorem dX12_makes_145 : decode cX12_makes 145 = .ok (.aload_n 0, 1) := by decide +kernel
theorem dX12_makes_146 : decode cX12_makes 146 = .ok (.getfield 107, 3) := by decide +kernel
theorem dX12_makes_149 : decode cX12_makes 149 = .ok (.iload 4, 2) := by decide +kernel
theorem dX12_makes_151 : decode cX12_makes 151 = .ok (.iaload, 1) := by decide +kernel
theorem dX12_makes_152 : decode cX12_makes 152 = .ok (.iastore, 1) := by decide +kernel
theorem dX12_makes_153 : decode cX12_makes 153 = .ok (.iinc 4 1, 3) := by decide +kernel
theorem dX12_makes_156 : decode cX12_makes 156 = .ok (.goto (-84), 3) := by decide +kernel
theorem dX12_makes_159 : decode cX12_makes 159 = .ok (.iinc 3 1, 3) := by decide +kernel
theorem dX12_makes_162 : decode cX12_makes 162 = .ok (.goto (-108), 3) := by decide +kernel
theorem dX12_makes_165 : decode cX12_makes 165 = .ok (.iconst 0, 1) := by decide +kernel
theorem dX12_makes_166 : decode cX12_makes 166 = .ok (.istore_n 3, 1) := by decide +kernel
theorem dX12_makes_167 : decode cX12_makes 167 = .ok (.iload_n 3, 1) := by decide +kernel
theorem dX12_makes_168 : decode cX12_makes 168 = .ok (.sipush 288, 3) := by decide +kernel
theorem dX12_makes_171 : decode cX12_makes 171 = .ok (.if_icmp .ge 58, 3) := by decide +kernel
theorem dX12_makes_174 : decode cX12_makes 174 = .ok (.aload_n 0, 1) := by decide +kernel
theorem dX12_makes_175 : decode cX12_makes 175 = .ok (.getfield 110, 3) := by decide +kernel
theorem dX12_makes_178 : decode cX12_makes 178 = .ok (.sipush 288, 3) := by decide +kernel
theorem dX12_makes_181 : decode cX12_makes 181 = .ok (.iload_n 2, 1) := by decide +kernel
theorem dX12_makes_182 : decode cX12_makes 182 = .ok (.imul, 1) := by decide +kernel
theorem dX12_makes_183 : decode cX12_makes 183 = .ok (.iload_n 3, 1) := by decide +kernel
theorem dX12_makes_184 : decode cX12_makes 184 = .ok (.iadd, 1) := by decide +kernel
theorem dX12_makes_185 : decode cX12_makes 185 = .ok (.iaload, 1) := by decide +kernel
theorem dX12_makes_186 : decode cX12_makes 186 = .ok (.iconst (-1), 1) := by decide +kernel
theorem dX12_makes_187 : decode cX12_makes 187 = .ok (.if_icmp .eq 36, 3) := by decide +kernel
theorem dX12_makes_190 : decode cX12_makes 190 = .ok (.aload_n 0, 1) := by decide +kernel
theorem dX12_makes_191 : decode cX12_makes 191 = .ok (.getfield 95, 3) := by decide +kernel
theorem dX12_makes_194 : decode cX12_makes 194 = .ok (.aload_n 0, 1) := by decide +kernel
theorem dX12_makes_195 : decode cX12_makes 195 = .ok (.getfield 110, 3) := by decide +kernel
theorem dX12_makes_198 : decode cX12_makes 198 = .ok (.sipush 288, 3) := by decide +kernel
theorem dX12_makes_201 : decode cX12_makes 201 = .ok (.iload_n 2, 1) := by decide +kernel
theorem dX12_makes_202 : decode cX12_makes 202 = .ok (.imul, 1) := by decide +kernel
theorem dX12_makes_203 : decode cX12_makes 203 = .ok (.iload_n 3, 1) := by decide +kernel
theorem dX12_makes_204 : decode cX12_makes 204 = .ok (.iadd, 1) := by decide +kernel
theorem dX12_makes_205 : decode cX12_makes 205 = .ok (.iaload, 1) := by decide +kernel
theorem dX12_makes_206 : decode cX12_makes 206 = .ok (.iaload, 1) := by decide +kernel
theorem dX12_makes_207 : decode cX12_makes 207 = .ok (.ifCond .ne 16, 3) := by decide +kernel
theorem dX12_makes_210 : decode cX12_makes 210 = .ok (.aload_n 0, 1) := by decide +kernel
theorem dX12_makes_211 : decode cX12_makes 211 = .ok (.getfield 110, 3) := by decide +kernel
theorem dX12_makes_214 : decode cX12_makes 214 = .ok (.sipush 288, 3) := by decide +kernel
theorem dX12_makes_217 : decode cX12_makes 217 = .ok (.iload_n 2, 1) := by decide +kernel
theorem dX12_makes_218 : decode cX12_makes 218 = .ok (.imul, 1) := by decide +kernel
theorem dX12_makes_219 : decode cX12_makes 219 = .ok (.iload_n 3, 1) := by decide +kernel
theorem dX12_makes_220 : decode cX12_makes 220 = .ok (.iadd, 1) := by decide +kernel
theorem dX12_makes_221 : decode cX12_makes 221 = .ok (.iconst (-1), 1) := by decide +kernel
theorem dX12_makes_222 : decode cX12_makes 222 = .ok (.iastore, 1) := by decide +kernel
theorem dX12_makes_223 : decode cX12_makes 223 = .ok (.iinc 3 1, 3) := by decide +kernel
theorem dX12_makes_226 : decode cX12_makes 226 = .ok (.goto (-59), 3) := by decide +kernel
theorem dX12_makes_229 : decode cX12_makes 229 = .ok (.iconst 0, 1) := by decide +kernel
theorem dX12_makes_230 : decode cX12_makes 230 = .ok (.istore_n 3, 1) := by decide +kernel
theorem dX12_makes_231 : decode cX12_makes 231 = .ok (.iload_n 3, 1) := by decide +kernel
theorem dX12_makes_232 : decode cX12_makes 232 = .ok (.iload_n 1, 1) := by decide +kernel
theorem dX12_makes_233 : decode cX12_makes 233 = .ok (.if_icmp .ge 49, 3) := by decide +kernel
theorem dX12_makes_236 : decode cX12_makes 236 = .ok (.aload_n 0, 1) := by decide +kernel
theorem dX12_makes_237 : decode cX12_makes 237 = .ok (.getfield 80, 3) := by decide +kernel
theorem dX12_makes_240 : decode cX12_makes 240 = .ok (.iload_n 3, 1) := by decide +kernel
theorem dX12_makes_241 : decode cX12_makes 241 = .ok (.baload, 1) := by decide +kernel
theorem dX12_makes_242 : decode cX12_makes 242 = .ok (.ifCond .eq 34, 3) := by decide +kernel
theorem dX12_makes_245 : decode cX12_makes 245 = .ok (.aload_n 0, 1) := by decide +kernel
theorem dX12_makes_246 : decode cX12_makes 246 = .ok (.getfield 86, 3) := by decide +kernel
theorem dX12_makes_249 : decode cX12_makes 249 = .ok (.iload_n 3, 1) := by decide +kernel
theorem dX12_makes_250 : decode cX12_makes 250 = .ok (.iaload, 1) := by decide +kernel
theorem dX12_makes_251 : decode cX12_makes 251 = .ok (.iload_n 2, 1) := by decide +kernel
theorem dX12_makes_252 : decode cX12_makes 252 = .ok (.if_icmp .ne 24, 3) := by decide +kernel
theorem dX12_makes_255 : decode cX12_makes 255 = .ok (.aload_n 0, 1) := by decide +kernel
theorem dX12_makes_256 : decode cX12_makes 256 = .ok (.sipush 288, 3) := by decide +kernel
theorem dX12_makes_259 : decode cX12_makes 259 = .ok (.iload_n 2, 1) := by decide +kernel
theorem dX12_makes_260 : decode cX12_makes 260 = .ok (.imul, 1) := by decide +kernel
theorem dX12_makes_261 : decode cX12_makes 261 = .ok (.aload_n 0, 1) := by decide +kernel
theorem dX12_makes_262 : decode cX12_makes 262 = .ok (.getfield 89, 3) := by decide +kernel
theorem dX12_makes_265 : decode cX12_makes 265 = .ok (.iload_n 3, 1) := by decide +kernel
theorem dX12_makes_266 : decode cX12_makes 266 = .ok (.iaload, 1) := by decide +kernel
theorem dX12_makes_267 : decode cX12_makes 267 = .ok (.aload_n 0, 1) := by decide +kernel
theorem dX12_makes_268 : decode cX12_makes 268 = .ok (.getfield 92, 3) := by decide +kernel
theorem dX12_makes_271 : decode cX12_makes 271 = .ok (.iload_n 3, 1) := by decide +kernel
theorem dX12_makes_272 : decode cX12_makes 272 = .ok (.iaload, 1) := by decide +kernel
theorem dX12_makes_273 : decode cX12_makes 273 = .ok (.invokevirtual 323, 3) := by decide +kernel
theorem dX12_makes_276 : decode cX12_makes 276 = .ok (.iinc 3 1, 3) := by decide +kernel
theorem dX12_makes_279 : decode cX12_makes 279 = .ok (.goto (-48), 3) := by decide +kernel
theorem dX12_makes_282 : decode cX12_makes 282 = .ok (.iinc 2 1, 3) := by decide +kernel
theorem dX12_makes_285 : decode cX12_makes 285 = .ok (.goto (-269), 3) := by decide +kernel
theorem dX12_makes_288 : decode cX12_makes 288 = .ok (.aload_n 0, 1) := by decide +kernel
theorem dX12_makes_289 : decode cX12_makes 289 = .ok (.invokevirtual 326, 3) := by decide +kernel
theorem dX12_makes_292 : decode cX12_makes 292 = .ok (.return_, 1) := by decide +kernel
theorem dX12_pushes_0 : decode cX12_pushes 0 = .ok (.aload_n 0, 1) := by decide +kernel
theorem dX12_pushes_1 : decode cX12_pushes 1 = .ok (.getfield 110, 3) := by decide +kernel
theorem dX12_pushes_4 : decode cX12_pushes 4 = .ok (.iload_n 1, 1) := by decide +kernel
theorem dX12_pushes_5 : decode cX12_pushes 5 = .ok (.iload_n 2, 1) := by decide +kernel
theorem dX12_pushes_6 : decode cX12_pushes 6 = .ok (.iadd, 1) := by decide +kernel
theorem dX12_pushes_7 : decode cX12_pushes 7 = .ok (.iconst 1, 1) := by decide +kernel
theorem dX12_pushes_8 : decode cX12_pushes 8 = .ok (.isub, 1) := by decide +kernel
theorem dX12_pushes_9 : decode cX12_pushes 9 = .ok (.iaload, 1) := by decide +kernel
theorem dX12_pushes_10 : decode cX12_pushes 10 = .ok (.istore 4, 2) := by decide +kernel
theorem dX12_pushes_12 : decode cX12_pushes 12 = .ok (.iload 4, 2) := by decide +kernel
theorem dX12_pushes_14 : decode cX12_pushes 14 = .ok (.iconst (-1), 1) := by decide +kernel
theorem dX12_pushes_15 : decode cX12_pushes 15 = .ok (.if_icmp .eq 13, 3) := by decide +kernel
theorem dX12_pushes_18 : decode cX12_pushes 18 = .ok (.aload_n 0, 1) := by decide +kernel
theorem dX12_pushes_19 : decode cX12_pushes 19 = .ok (.getfield 101, 3) := by decide +kernel
theorem dX12_pushes_22 : decode cX12_pushes 22 = .ok (.iload 4, 2) := by decide +kernel
theorem dX12_pushes_24 : decode cX12_pushes 24 = .ok (.baload, 1) := by decide +kernel
theorem dX12_pushes_25 : decode cX12_pushes 25 = .ok (.ifCond .ne 4, 3) := by decide +kernel
theorem dX12_pushes_28 : decode cX12_pushes 28 = .ok (.return_, 1) := by decide +kernel
theorem dX12_pushes_29 : decode cX12_pushes 29 = .ok (.iconst 0, 1) := by decide +kernel
theorem dX12_pushes_30 : decode cX12_pushes 30 = .ok (.istore 5, 2) := by decide +kernel
theorem dX12_pushes_32 : decode cX12_pushes 32 = .ok (.iload 5, 2) := by decide +kernel
theorem dX12_pushes_34 : decode cX12_pushes 34 = .ok (.sipush 288, 3) := by decide +kernel
theorem dX12_pushes_37 : decode cX12_pushes 37 = .ok (.if_icmp .ge 48, 3) := by decide +kernel
theorem dX12_pushes_40 : decode cX12_pushes 40 = .ok (.aload_n 0, 1) := by decide +kernel
theorem dX12_pushes_41 : decode cX12_pushes 41 = .ok (.getfield 113, 3) := by decide +kernel
theorem dX12_pushes_44 : decode cX12_pushes 44 = .ok (.iload 5, 2) := by decide +kernel
theorem dX12_pushes_46 : decode cX12_pushes 46 = .ok (.iload 5, 2) := by decide +kernel
theorem dX12_pushes_48 : decode cX12_pushes 48 = .ok (.iload_n 2, 1) := by decide +kernel
theorem dX12_pushes_49 : decode cX12_pushes 49 = .ok (.if_icmp .ge 15, 3) := by decide +kernel
theorem dX12_pushes_52 : decode cX12_pushes 52 = .ok (.aload_n 0, 1) := by decide +kernel
theorem dX12_pushes_53 : decode cX12_pushes 53 = .ok (.getfield 110, 3) := by decide +kernel
theorem dX12_pushes_56 : decode cX12_pushes 56 = .ok (.iload_n 1, 1) := by decide +kernel
theorem dX12_pushes_57 : decode cX12_pushes 57 = .ok (.iload 5, 2) := by decide +kernel
theorem dX12_pushes_59 : decode cX12_pushes 59 = .ok (.iadd, 1) := by decide +kernel
theorem dX12_pushes_60 : decode cX12_pushes 60 = .ok (.iaload, 1) := by decide +kernel
theorem dX12_pushes_61 : decode cX12_pushes 61 = .ok (.goto 17, 3) := by decide +kernel
theorem dX12_pushes_64 : decode cX12_pushes 64 = .ok (.iload 5, 2) := by decide +kernel
theorem dX12_pushes_66 : decode cX12_pushes 66 = .ok (.iload_n 2, 1) := by decide +kernel
theorem dX12_pushes_67 : decode cX12_pushes 67 = .ok (.iload_n 3, 1) := by decide +kernel
theorem dX12_pushes_68 : decode cX12_pushes 68 = .ok (.iadd, 1) := by decide +kernel
theorem dX12_pushes_69 : decode cX12_pushes 69 = .ok (.if_icmp .ge 8, 3) := by decide +kernel
theorem dX12_pushes_72 : decode cX12_pushes 72 = .ok (.iload 4, 2) := by decide +kernel
theorem dX12_pushes_74 : decode cX12_pushes 74 = .ok (.goto 4, 3) := by decide +kernel
theorem dX12_pushes_77 : decode cX12_pushes 77 = .ok (.iconst (-1), 1) := by decide +kernel
theorem dX12_pushes_78 : decode cX12_pushes 78 = .ok (.iastore, 1) := by decide +kernel
theorem dX12_pushes_79 : decode cX12_pushes 79 = .ok (.iinc 5 1, 3) := by decide +kernel
theorem dX12_pushes_82 : decode cX12_pushes 82 = .ok (.goto (-50), 3) := by decide +kernel
theorem dX12_pushes_85 : decode cX12_pushes 85 = .ok (.iload_n 3, 1) := by decide +kernel
theorem dX12_pushes_86 : decode cX12_pushes 86 = .ok (.istore 5, 2) := by decide +kernel
theorem dX12_pushes_88 : decode cX12_pushes 88 = .ok (.iload_n 2, 1) := by decide +kernel
theorem dX12_pushes_89 : decode cX12_pushes 89 = .ok (.istore 6, 2) := by decide +kernel
theorem dX12_pushes_91 : decode cX12_pushes 91 = .ok (.iload 6, 2) := by decide +kernel
theorem dX12_pushes_93 : decode cX12_pushes 93 = .ok (.sipush 288, 3) := by decide +kernel
theorem dX12_pushes_96 : decode cX12_pushes 96 = .ok (.if_icmp .ge 63, 3) := by decide +kernel
theorem dX12_pushes_99 : decode cX12_pushes 99 = .ok (.aload_n 0, 1) := by decide +kernel
theorem dX12_pushes_100 : decode cX12_pushes 100 = .ok (.getfield 110, 3) := by decide +kernel
theorem dX12_pushes_103 : decode cX12_pushes 103 = .ok (.iload_n 1, 1) := by decide +kernel
theorem dX12_pushes_104 : decode cX12_pushes 104 = .ok (.iload 6, 2) := by decide +kernel
theorem dX12_pushes_106 : decode cX12_pushes 106 = .ok (.iadd, 1) := by decide +kernel
theorem dX12_pushes_107 : decode cX12_pushes 107 = .ok (.iaload, 1) := by decide +kernel
theorem dX12_pushes_108 : decode cX12_pushes 108 = .ok (.iconst (-1), 1) := by decide +kernel
theorem dX12_pushes_109 : decode cX12_pushes 109 = .ok (.if_icmp .ne 14, 3) := by decide +kernel
theorem dX12_pushes_112 : decode cX12_pushes 112 = .ok (.iload 5, 2) := by decide +kernel
theorem dX12_pushes_114 : decode cX12_pushes 114 = .ok (.ifCond .le 9, 3) := by decide +kernel
theorem dX12_pushes_117 : decode cX12_pushes 117 = .ok (.iinc 5 (-1), 3) := by decide +kernel
theorem dX12_pushes_120 : decode cX12_pushes 120 = .ok (.goto 33, 3) := by decide +kernel
theorem dX12_pushes_123 : decode cX12_pushes 123 = .ok (.iload 6, 2) := by decide +kernel
theorem dX12_pushes_125 : decode cX12_pushes 125 = .ok (.iload 5, 2) := by decide +kernel
theorem dX12_pushes_127 : decode cX12_pushes 127 = .ok (.iadd, 1) := by decide +kernel
theorem dX12_pushes_128 : decode cX12_pushes 128 = .ok (.sipush 288, 3) := by decide +kernel
theorem dX12_pushes_131 : decode cX12_pushes 131 = .ok (.if_icmp .ge 22, 3) := by decide +kernel
theorem dX12_pushes_134 : decode cX12_pushes 134 = .ok (.aload_n 0, 1) := by decide +kernel
theorem dX12_pushes_135 : decode cX12_pushes 135 = .ok (.getfield 113, 3) := by decide +kernel
theorem dX12_pushes_138 : decode cX12_pushes 138 = .ok (.iload 6, 2) := by decide +kernel
theorem dX12_pushes_140 : decode cX12_pushes 140 = .ok (.iload 5, 2) := by decide +kernel
theorem dX12_pushes_142 : decode cX12_pushes 142 = .ok (.iadd, 1) := by decide +kernel
theorem dX12_pushes_143 : decode cX12_pushes 143 = .ok (.aload_n 0, 1) := by decide +kernel
theorem dX12_pushes_144 : decode cX12_pushes 144 = .ok (.getfield 110, 3) := by decide +kernel
theorem dX12_pushes_147 : decode cX12_pushes 147 = .ok (.iload_n 1, 1) := by decide +kernel
theorem dX12_pushes_148 : decode cX12_pushes 148 = .ok (.iload 6, 2) := by decide +kernel
theorem dX12_pushes_150 : decode cX12_pushes 150 = .ok (.iadd, 1) := by decide +kernel
theorem dX12_pushes_151 : decode cX12_pushes 151 = .ok (.iaload, 1) := by decide +kernel
theorem dX12_pushes_152 : decode cX12_pushes 152 = .ok (.iastore, 1) := by decide +kernel
theorem dX12_pushes_153 : decode cX12_pushes 153 = .ok (.iinc 6 1, 3) := by decide +kernel
theorem dX12_pushes_156 : decode cX12_pushes 156 = .ok (.goto (-65), 3) := by decide +kernel
theorem dX12_pushes_159 : decode cX12_pushes 159 = .ok (.iconst 0, 1) := by decide +kernel
theorem dX12_pushes_160 : decode cX12_pushes 160 = .ok (.istore 6, 2) := by decide +kernel
theorem dX12_pushes_162 : decode cX12_pushes 162 = .ok (.iload 6, 2) := by decide +kernel
theorem dX12_pushes_164 : decode cX12_pushes 164 = .ok (.sipush 288, 3) := by decide +kernel
theorem dX12_pushes_167 : decode cX12_pushes 167 = .ok (.if_icmp .ge 25, 3) := by decide +kernel
theorem dX12_pushes_170 : decode cX12_pushes 170 = .ok (.aload_n 0, 1) := by decide +kernel
theorem dX12_pushes_171 : decode cX12_pushes 171 = .ok (.getfield 110, 3) := by decide +kernel
theorem dX12_pushes_174 : decode cX12_pushes 174 = .ok (.iload_n 1, 1) := by decide +kernel
theorem dX12_pushes_175 : decode cX12_pushes 175 = .ok (.iload 6, 2) := by decide +kernel
theorem dX12_pushes_177 : decode cX12_pushes 177 = .ok (.iadd, 1) := by decide +kernel
theorem dX12_pushes_178 : decode cX12_pushes 178 = .ok (.aload_n 0, 1) := by decide +kernel
theorem dX12_pushes_179 : decode cX12_pushes 179 = .ok (.getfield 113, 3) := by decide +kernel
theorem dX12_pushes_182 : decode cX12_pushes 182 = .ok (.iload 6, 2) := by decide +kernel
theorem dX12_pushes_184 : decode cX12_pushes 184 = .ok (.iaload, 1) := by decide +kernel
theorem dX12_pushes_185 : decode cX12_pushes 185 = .ok (.iastore, 1) := by decide +kernel
theorem dX12_pushes_186 : decode cX12_pushes 186 = .ok (.iinc 6 1, 3) := by decide +kernel
theorem dX12_pushes_189 : decode cX12_pushes 189 = .ok (.goto (-27), 3) := by decide +kernel
theorem dX12_pushes_192 : decode cX12_pushes 192 = .ok (.return_, 1) := by decide +kernel
theorem dX12_shows_0 : decode cX12_shows 0 = .ok (.aload_n 0, 1) := by decide +kernel
theorem dX12_shows_1 : decode cX12_shows 1 = .ok (.iconst 0, 1) := by decide +kernel
theorem dX12_shows_2 : decode cX12_shows 2 = .ok (.putfield 329, 3) := by decide +kernel
theorem dX12_shows_5 : decode cX12_shows 5 = .ok (.iconst 0, 1) := by decide +kernel
theorem dX12_shows_6 : decode cX12_shows 6 = .ok (.istore_n 1, 1) := by decide +kernel
theorem dX12_shows_7 : decode cX12_shows 7 = .ok (.iload_n 1, 1) := by decide +kernel
theorem dX12_shows_8 : decode cX12_shows 8 = .ok (.sipush 288, 3) := by decide +kernel
theorem dX12_shows_11 : decode cX12_shows 11 = .ok (.if_icmp .ge 155, 3) := by decide +kernel
theorem dX12_shows_14 : decode cX12_shows 14 = .ok (.iconst 0, 1) := by decide +kernel
theorem dX12_shows_15 : decode cX12_shows 15 = .ok (.istore_n 2, 1) := by decide +kernel
theorem dX12_shows_16 : decode cX12_shows 16 = .ok (.iload_n 2, 1) := by decide +kernel
theorem dX12_shows_17 : decode cX12_shows 17 = .ok (.aload_n 0, 1) := by decide +kernel
theorem dX12_shows_18 : decode cX12_shows 18 = .ok (.getfield 186, 3) := by decide +kernel
theorem dX12_shows_21 : decode cX12_shows 21 = .ok (.if_icmp .ge 139, 3) := by decide +kernel
theorem dX12_shows_24 : decode cX12_shows 24 = .ok (.aload_n 0, 1) := by decide +kernel
theorem dX12_shows_25 : decode cX12_shows 25 = .ok (.getfield 110, 3) := by decide +kernel
theorem dX12_shows_28 : decode cX12_shows 28 = .ok (.sipush 288, 3) := by decide +kernel
theorem dX12_shows_31 : decode cX12_shows 31 = .ok (.iload_n 2, 1) := by decide +kernel
theorem dX12_shows_32 : decode cX12_shows 32 = .ok (.imul, 1) := by decide +kernel
theorem dX12_shows_33 : decode cX12_shows 33 = .ok (.iload_n 1, 1) := by decide +kernel
theorem dX12_shows_34 : decode cX12_shows 34 = .ok (.iadd, 1) := by decide +kernel
theorem dX12_shows_35 : decode cX12_shows 35 = .ok (.iaload, 1) := by decide +kernel
theorem dX12_shows_36 : decode cX12_shows 36 = .ok (.istore_n 3, 1) := by decide +kernel
theorem dX12_shows_37 : decode cX12_shows 37 = .ok (.iload_n 3, 1) := by decide +kernel
theorem dX12_shows_38 : decode cX12_shows 38 = .ok (.iconst (-1), 1) := by decide +kernel
theorem dX12_shows_39 : decode cX12_shows 39 = .ok (.if_icmp .eq 115, 3) := by decide +kernel
theorem dX12_shows_42 : decode cX12_shows 42 = .ok (.iload_n 1, 1) := by decide +kernel
theorem dX12_shows_43 : decode cX12_shows 43 = .ok (.ifCond .le 24, 3) := by decide +kernel
theorem dX12_shows_46 : decode cX12_shows 46 = .ok (.aload_n 0, 1) := by decide +kernel
theorem dX12_shows_47 : decode cX12_shows 47 = .ok (.getfield 110, 3) := by decide +kernel
theorem dX12_shows_50 : decode cX12_shows 50 = .ok (.sipush 288, 3) := by decide +kernel
theorem dX12_shows_53 : decode cX12_shows 53 = .ok (.iload_n 2, 1) := by decide +kernel
theorem dX12_shows_54 : decode cX12_shows 54 = .ok (.imul, 1) := by decide +kernel
theorem dX12_shows_55 : decode cX12_shows 55 = .ok (.iload_n 1, 1) := by decide +kernel
theorem dX12_shows_56 : decode cX12_shows 56 = .ok (.iadd, 1) := by decide +kernel
theorem dX12_shows_57 : decode cX12_shows 57 = .ok (.iconst 1, 1) := by decide +kernel
theorem dX12_shows_58 : decode cX12_shows 58 = .ok (.isub, 1) := by decide +kernel
theorem dX12_shows_59 : decode cX12_shows 59 = .ok (.iaload, 1) := by decide +kernel
theorem dX12_shows_60 : decode cX12_shows 60 = .ok (.iload_n 3, 1) := by decide +kernel
theorem dX12_shows_61 : decode cX12_shows 61 = .ok (.if_icmp .ne 6, 3) := by decide +kernel
theorem dX12_shows_64 : decode cX12_shows 64 = .ok (.goto 90, 3) := by decide +kernel
theorem dX12_shows_67 : decode cX12_shows 67 = .ok (.iload_n 1, 1) := by decide +kernel
theorem dX12_shows_68 : decode cX12_shows 68 = .ok (.iconst 1, 1) := by decide +kernel
theorem dX12_shows_69 : decode cX12_shows 69 = .ok (.iadd, 1) := by decide +kernel
theorem dX12_shows_70 : decode cX12_shows 70 = .ok (.istore 4, 2) := by decide +kernel
theorem dX12_shows_72 : decode cX12_shows 72 = .ok (.iload 4, 2) := by decide +kernel
theorem dX12_shows_74 : decode cX12_shows 74 = .ok (.sipush 288, 3) := by decide +kernel
theorem dX12_shows_77 : decode cX12_shows 77 = .ok (.if_icmp .ge 26, 3) := by decide +kernel
theorem dX12_shows_80 : decode cX12_shows 80 = .ok (.aload_n 0, 1) := by decide +kernel
theorem dX12_shows_81 : decode cX12_shows 81 = .ok (.getfield 110, 3) := by decide +kernel
theorem dX12_shows_84 : decode cX12_shows 84 = .ok (.sipush 288, 3) := by decide +kernel
theorem dX12_shows_87 : decode cX12_shows 87 = .ok (.iload_n 2, 1) := by decide +kernel
theorem dX12_shows_88 : decode cX12_shows 88 = .ok (.imul, 1) := by decide +kernel
theorem dX12_shows_89 : decode cX12_shows 89 = .ok (.iload 4, 2) := by decide +kernel
theorem dX12_shows_91 : decode cX12_shows 91 = .ok (.iadd, 1) := by decide +kernel
theorem dX12_shows_92 : decode cX12_shows 92 = .ok (.iaload, 1) := by decide +kernel
theorem dX12_shows_93 : decode cX12_shows 93 = .ok (.iload_n 3, 1) := by decide +kernel
theorem dX12_shows_94 : decode cX12_shows 94 = .ok (.if_icmp .ne 9, 3) := by decide +kernel
theorem dX12_shows_97 : decode cX12_shows 97 = .ok (.iinc 4 1, 3) := by decide +kernel
theorem dX12_shows_100 : decode cX12_shows 100 = .ok (.goto (-28), 3) := by decide +kernel
theorem dX12_shows_103 : decode cX12_shows 103 = .ok (.aload_n 0, 1) := by decide +kernel
theorem dX12_shows_104 : decode cX12_shows 104 = .ok (.getfield 116, 3) := by decide +kernel
theorem dX12_shows_107 : decode cX12_shows 107 = .ok (.aload_n 0, 1) := by decide +kernel
theorem dX12_shows_108 : decode cX12_shows 108 = .ok (.getfield 329, 3) := by decide +kernel
theorem dX12_shows_111 : decode cX12_shows 111 = .ok (.iload_n 3, 1) := by decide +kernel
theorem dX12_shows_112 : decode cX12_shows 112 = .ok (.iastore, 1) := by decide +kernel
theorem dX12_shows_113 : decode cX12_shows 113 = .ok (.aload_n 0, 1) := by decide +kernel
theorem dX12_shows_114 : decode cX12_shows 114 = .ok (.getfield 119, 3) := by decide +kernel
theorem dX12_shows_117 : decode cX12_shows 117 = .ok (.aload_n 0, 1) := by decide +kernel
theorem dX12_shows_118 : decode cX12_shows 118 = .ok (.getfield 329, 3) := by decide +kernel
theorem dX12_shows_121 : decode cX12_shows 121 = .ok (.iload_n 2, 1) := by decide +kernel
theorem dX12_shows_122 : decode cX12_shows 122 = .ok (.iastore, 1) := by decide +kernel
theorem dX12_shows_123 : decode cX12_shows 123 = .ok (.aload_n 0, 1) := by decide +kernel
theorem dX12_shows_124 : decode cX12_shows 124 = .ok (.getfield 122, 3) := by decide +kernel
theorem dX12_shows_127 : decode cX12_shows 127 = .ok (.aload_n 0, 1) := by decide +kernel
theorem dX12_shows_128 : decode cX12_shows 128 = .ok (.getfield 329, 3) := by decide +kernel
theorem dX12_shows_131 : decode cX12_shows 131 = .ok (.iload_n 1, 1) := by decide +kernel
theorem dX12_shows_132 : decode cX12_shows 132 = .ok (.iastore, 1) := by decide +kernel
theorem dX12_shows_133 : decode cX12_shows 133 = .ok (.aload_n 0, 1) := by decide +kernel
theorem dX12_shows_134 : decode cX12_shows 134 = .ok (.getfield 125, 3) := by decide +kernel
theorem dX12_shows_137 : decode cX12_shows 137 = .ok (.aload_n 0, 1) := by decide +kernel
theorem dX12_shows_138 : decode cX12_shows 138 = .ok (.getfield 329, 3) := by decide +kernel
theorem dX12_shows_141 : decode cX12_shows 141 = .ok (.iload 4, 2) := by decide +kernel
theorem dX12_shows_143 : decode cX12_shows 143 = .ok (.iastore, 1) := by decide +kernel
theorem dX12_shows_144 : decode cX12_shows 144 = .ok (.aload_n 0, 1) := by decide +kernel
theorem dX12_shows_145 : decode cX12_shows 145 = .ok (.dup, 1) := by decide +kernel
theorem dX12_shows_146 : decode cX12_shows 146 = .ok (.getfield 329, 3) := by decide +kernel
theorem dX12_shows_149 : decode cX12_shows 149 = .ok (.iconst 1, 1) := by decide +kernel
theorem dX12_shows_150 : decode cX12_shows 150 = .ok (.iadd, 1) := by decide +kernel
theorem dX12_shows_151 : decode cX12_shows 151 = .ok (.putfield 329, 3) := by decide +kernel
theorem dX12_shows_154 : decode cX12_shows 154 = .ok (.iinc 2 1, 3) := by decide +kernel
theorem dX12_shows_157 : decode cX12_shows 157 = .ok (.goto (-141), 3) := by decide +kernel
theorem dX12_shows_160 : decode cX12_shows 160 = .ok (.iinc 1 1, 3) := by decide +kernel
theorem dX12_shows_163 : decode cX12_shows 163 = .ok (.goto (-156), 3) := by decide +kernel
theorem dX12_shows_166 : decode cX12_shows 166 = .ok (.return_, 1) := by decide +kernel
theorem dX12_areOne_0 : decode cX12_areOne 0 = .ok (.aload_n 0, 1) := by decide +kernel
theorem dX12_areOne_1 : decode cX12_areOne 1 = .ok (.getfield 95, 3) := by decide +kernel
theorem dX12_areOne_4 : decode cX12_areOne 4 = .ok (.aload_n 0, 1) := by decide +kernel
theorem dX12_areOne_5 : decode cX12_areOne 5 = .ok (.getfield 116, 3) := by decide +kernel
theorem dX12_areOne_8 : decode cX12_areOne 8 = .ok (.iload_n 1, 1) := by decide +kernel
theorem dX12_areOne_9 : decode cX12_areOne 9 = .ok (.iaload, 1) := by decide +kernel
theorem dX12_areOne_10 : decode cX12_areOne 10 = .ok (.iaload, 1) := by decide +kernel
theorem dX12_areOne_11 : decode cX12_areOne 11 = .ok (.aload_n 0, 1) := by decide +kernel
theorem dX12_areOne_12 : decode cX12_areOne 12 = .ok (.getfield 95, 3) := by decide +kernel
theorem dX12_areOne_15 : decode cX12_areOne 15 = .ok (.aload_n 0, 1) := by decide +kernel
theorem dX12_areOne_16 : decode cX12_areOne 16 = .ok (.getfield 116, 3) := by decide +kernel
theorem dX12_areOne_19 : decode cX12_areOne 19 = .ok (.iload_n 2, 1) := by decide +kernel
theorem dX12_areOne_20 : decode cX12_areOne 20 = .ok (.iaload, 1) := by decide +kernel
theorem dX12_areOne_21 : decode cX12_areOne 21 = .ok (.iaload, 1) := by decide +kernel
theorem dX12_areOne_22 : decode cX12_areOne 22 = .ok (.if_icmp .ne 46, 3) := by decide +kernel
theorem dX12_areOne_25 : decode cX12_areOne 25 = .ok (.aload_n 0, 1) := by decide +kernel
theorem dX12_areOne_26 : decode cX12_areOne 26 = .ok (.getfield 98, 3) := by decide +kernel
theorem dX12_areOne_29 : decode cX12_areOne 29 = .ok (.aload_n 0, 1) := by decide +kernel
theorem dX12_areOne_30 : decode cX12_areOne 30 = .ok (.getfield 116, 3) := by decide +kernel
theorem dX12_areOne_33 : decode cX12_areOne 33 = .ok (.iload_n 1, 1) := by decide +kernel
theorem dX12_areOne_34 : decode cX12_areOne 34 = .ok (.iaload, 1) := by decide +kernel
theorem dX12_areOne_35 : decode cX12_areOne 35 = .ok (.iaload, 1) := by decide +kernel
theorem dX12_areOne_36 : decode cX12_areOne 36 = .ok (.aload_n 0, 1) := by decide +kernel
theorem dX12_areOne_37 : decode cX12_areOne 37 = .ok (.getfield 98, 3) := by decide +kernel
theorem dX12_areOne_40 : decode cX12_areOne 40 = .ok (.aload_n 0, 1) := by decide +kernel
theorem dX12_areOne_41 : decode cX12_areOne 41 = .ok (.getfield 116, 3) := by decide +kernel
theorem dX12_areOne_44 : decode cX12_areOne 44 = .ok (.iload_n 2, 1) := by decide +kernel
theorem dX12_areOne_45 : decode cX12_areOne 45 = .ok (.iaload, 1) := by decide +kernel
theorem dX12_areOne_46 : decode cX12_areOne 46 = .ok (.iaload, 1) := by decide +kernel
theorem dX12_areOne_47 : decode cX12_areOne 47 = .ok (.if_icmp .ne 21, 3) := by decide +kernel
theorem dX12_areOne_50 : decode cX12_areOne 50 = .ok (.aload_n 0, 1) := by decide +kernel
theorem dX12_areOne_51 : decode cX12_areOne 51 = .ok (.getfield 98, 3) := by decide +kernel
theorem dX12_areOne_54 : decode cX12_areOne 54 = .ok (.aload_n 0, 1) := by decide +kernel
theorem dX12_areOne_55 : decode cX12_areOne 55 = .ok (.getfield 116, 3) := by decide +kernel
theorem dX12_areOne_58 : decode cX12_areOne 58 = .ok (.iload_n 1, 1) := by decide +kernel
theorem dX12_areOne_59 : decode cX12_areOne 59 = .ok (.iaload, 1) := by decide +kernel
theorem dX12_areOne_60 : decode cX12_areOne 60 = .ok (.iaload, 1) := by decide +kernel
theorem dX12_areOne_61 : decode cX12_areOne 61 = .ok (.ifCond .eq 7, 3) := by decide +kernel
theorem dX12_areOne_64 : decode cX12_areOne 64 = .ok (.iconst 1, 1) := by decide +kernel
theorem dX12_areOne_65 : decode cX12_areOne 65 = .ok (.goto 4, 3) := by decide +kernel
theorem dX12_areOne_68 : decode cX12_areOne 68 = .ok (.iconst 0, 1) := by decide +kernel
theorem dX12_areOne_69 : decode cX12_areOne 69 = .ok (.ireturn, 1) := by decide +kernel
theorem dX12_sent_0 : decode cX12_sent 0 = .ok (.aload_n 0, 1) := by decide +kernel
theorem dX12_sent_1 : decode cX12_sent 1 = .ok (.iload_n 1, 1) := by decide +kernel
theorem dX12_sent_2 : decode cX12_sent 2 = .ok (.invokevirtual 304, 3) := by decide +kernel
theorem dX12_sent_5 : decode cX12_sent 5 = .ok (.ifCond .eq 18, 3) := by decide +kernel
theorem dX12_sent_8 : decode cX12_sent 8 = .ok (.iload_n 2, 1) := by decide +kernel
theorem dX12_sent_9 : decode cX12_sent 9 = .ok (.invokestatic 316, 3) := by decide +kernel
theorem dX12_sent_12 : decode cX12_sent 12 = .ok (.ifCond .eq 11, 3) := by decide +kernel
theorem dX12_sent_15 : decode cX12_sent 15 = .ok (.aload_n 0, 1) := by decide +kernel
theorem dX12_sent_16 : decode cX12_sent 16 = .ok (.iload_n 3, 1) := by decide +kernel
theorem dX12_sent_17 : decode cX12_sent 17 = .ok (.invokevirtual 332, 3) := by decide +kernel
theorem dX12_sent_20 : decode cX12_sent 20 = .ok (.ifCond .ne 5, 3) := by decide +kernel
theorem dX12_sent_23 : decode cX12_sent 23 = .ok (.iconst (-1), 1) := by decide +kernel
theorem dX12_sent_24 : decode cX12_sent 24 = .ok (.ireturn, 1) := by decide +kernel
theorem dX12_sent_25 : decode cX12_sent 25 = .ok (.aload_n 0, 1) := by decide +kernel
theorem dX12_sent_26 : decode cX12_sent 26 = .ok (.iload_n 3, 1) := by decide +kernel
theorem dX12_sent_27 : decode cX12_sent 27 = .ok (.invokevirtual 335, 3) := by decide +kernel
theorem dX12_sent_30 : decode cX12_sent 30 = .ok (.aload_n 0, 1) := by decide +kernel
theorem dX12_sent_31 : decode cX12_sent 31 = .ok (.getfield 110, 3) := by decide +kernel
theorem dX12_sent_34 : decode cX12_sent 34 = .ok (.sipush 288, 3) := by decide +kernel
theorem dX12_sent_37 : decode cX12_sent 37 = .ok (.iload_n 1, 1) := by decide +kernel
theorem dX12_sent_38 : decode cX12_sent 38 = .ok (.imul, 1) := by decide +kernel
theorem dX12_sent_39 : decode cX12_sent 39 = .ok (.iload_n 2, 1) := by decide +kernel
theorem dX12_sent_40 : decode cX12_sent 40 = .ok (.iadd, 1) := by decide +kernel
theorem dX12_sent_41 : decode cX12_sent 41 = .ok (.iaload, 1) := by decide +kernel
theorem dX12_sent_42 : decode cX12_sent 42 = .ok (.ireturn, 1) := by decide +kernel
theorem dX12_says_0 : decode cX12_says 0 = .ok (.iload_n 1, 1) := by decide +kernel
theorem dX12_says_1 : decode cX12_says 1 = .ok (.ifCond .lt 35, 3) := by decide +kernel
theorem dX12_says_4 : decode cX12_says 4 = .ok (.iload_n 1, 1) := by decide +kernel
theorem dX12_says_5 : decode cX12_says 5 = .ok (.aload_n 0, 1) := by decide +kernel
theorem dX12_says_6 : decode cX12_says 6 = .ok (.getfield 301, 3) := by decide +kernel
theorem dX12_says_9 : decode cX12_says 9 = .ok (.if_icmp .ge 27, 3) := by decide +kernel
theorem dX12_says_12 : decode cX12_says 12 = .ok (.aload_n 0, 1) := by decide +kernel
theorem dX12_says_13 : decode cX12_says 13 = .ok (.iload_n 2, 1) := by decide +kernel
theorem dX12_says_14 : decode cX12_says 14 = .ok (.invokevirtual 304, 3) := by decide +kernel
theorem dX12_says_17 : decode cX12_says 17 = .ok (.ifCond .eq 19, 3) := by decide +kernel
theorem dX12_says_20 : decode cX12_says 20 = .ok (.iload_n 3, 1) := by decide +kernel
theorem dX12_says_21 : decode cX12_says 21 = .ok (.invokestatic 316, 3) := by decide +kernel
theorem dX12_says_24 : decode cX12_says 24 = .ok (.ifCond .eq 12, 3) := by decide +kernel
theorem dX12_says_27 : decode cX12_says 27 = .ok (.aload_n 0, 1) := by decide +kernel
theorem dX12_says_28 : decode cX12_says 28 = .ok (.iload 4, 2) := by decide +kernel
theorem dX12_says_30 : decode cX12_says 30 = .ok (.invokevirtual 332, 3) := by decide +kernel
theorem dX12_says_33 : decode cX12_says 33 = .ok (.ifCond .ne 5, 3) := by decide +kernel
theorem dX12_says_36 : decode cX12_says 36 = .ok (.iconst (-1), 1) := by decide +kernel
theorem dX12_says_37 : decode cX12_says 37 = .ok (.ireturn, 1) := by decide +kernel
theorem dX12_says_38 : decode cX12_says 38 = .ok (.aload_n 0, 1) := by decide +kernel
theorem dX12_says_39 : decode cX12_says 39 = .ok (.iload_n 1, 1) := by decide +kernel
theorem dX12_says_40 : decode cX12_says 40 = .ok (.iload_n 2, 1) := by decide +kernel
theorem dX12_says_41 : decode cX12_says 41 = .ok (.iload 4, 2) := by decide +kernel
theorem dX12_says_43 : decode cX12_says 43 = .ok (.invokevirtual 319, 3) := by decide +kernel
theorem dX12_says_46 : decode cX12_says 46 = .ok (.aload_n 0, 1) := by decide +kernel
theorem dX12_says_47 : decode cX12_says 47 = .ok (.getfield 107, 3) := by decide +kernel
theorem dX12_says_50 : decode cX12_says 50 = .ok (.iload_n 3, 1) := by decide +kernel
theorem dX12_says_51 : decode cX12_says 51 = .ok (.iaload, 1) := by decide +kernel
theorem dX12_says_52 : decode cX12_says 52 = .ok (.ireturn, 1) := by decide +kernel
theorem dX12_variable_0 : decode cX12_variable 0 = .ok (.aload_n 0, 1) := by decide +kernel
theorem dX12_variable_1 : decode cX12_variable 1 = .ok (.getfield 116, 3) := by decide +kernel
theorem dX12_variable_4 : decode cX12_variable 4 = .ok (.iload_n 2, 1) := by decide +kernel
theorem dX12_variable_5 : decode cX12_variable 5 = .ok (.iaload, 1) := by decide +kernel
theorem dX12_variable_6 : decode cX12_variable 6 = .ok (.istore_n 3, 1) := by decide +kernel
theorem dX12_variable_7 : decode cX12_variable 7 = .ok (.iload_n 1, 1) := by decide +kernel
theorem dX12_variable_8 : decode cX12_variable 8 = .ok (.tableswitch 89 0 5 #[40, 47, 54, 61, 68, 75], 40) := by decide +kernel
theorem dX12_variable_48 : decode cX12_variable 48 = .ok (.aload_n 0, 1) := by decide +kernel
theorem dX12_variable_49 : decode cX12_variable 49 = .ok (.getfield 95, 3) := by decide +kernel
theorem dX12_variable_52 : decode cX12_variable 52 = .ok (.iload_n 3, 1) := by decide +kernel
theorem dX12_variable_53 : decode cX12_variable 53 = .ok (.iaload, 1) := by decide +kernel
theorem dX12_variable_54 : decode cX12_variable 54 = .ok (.ireturn, 1) := by decide +kernel
theorem dX12_variable_55 : decode cX12_variable 55 = .ok (.aload_n 0, 1) := by decide +kernel
theorem dX12_variable_56 : decode cX12_variable 56 = .ok (.getfield 98, 3) := by decide +kernel
theorem dX12_variable_59 : decode cX12_variable 59 = .ok (.iload_n 3, 1) := by decide +kernel
theorem dX12_variable_60 : decode cX12_variable 60 = .ok (.iaload, 1) := by decide +kernel
theorem dX12_variable_61 : decode cX12_variable 61 = .ok (.ireturn, 1) := by decide +kernel
theorem dX12_variable_62 : decode cX12_variable 62 = .ok (.aload_n 0, 1) := by decide +kernel
theorem dX12_variable_63 : decode cX12_variable 63 = .ok (.getfield 119, 3) := by decide +kernel
theorem dX12_variable_66 : decode cX12_variable 66 = .ok (.iload_n 2, 1) := by decide +kernel
theorem dX12_variable_67 : decode cX12_variable 67 = .ok (.iaload, 1) := by decide +kernel
theorem dX12_variable_68 : decode cX12_variable 68 = .ok (.ireturn, 1) := by decide +kernel
theorem dX12_variable_69 : decode cX12_variable 69 = .ok (.aload_n 0, 1) := by decide +kernel
theorem dX12_variable_70 : decode cX12_variable 70 = .ok (.getfield 122, 3) := by decide +kernel
theorem dX12_variable_73 : decode cX12_variable 73 = .ok (.iload_n 2, 1) := by decide +kernel
theorem dX12_variable_74 : decode cX12_variable 74 = .ok (.iaload, 1) := by decide +kernel
theorem dX12_variable_75 : decode cX12_variable 75 = .ok (.ireturn, 1) := by decide +kernel
theorem dX12_variable_76 : decode cX12_variable 76 = .ok (.aload_n 0, 1) := by decide +kernel
theorem dX12_variable_77 : decode cX12_variable 77 = .ok (.getfield 125, 3) := by decide +kernel
theorem dX12_variable_80 : decode cX12_variable 80 = .ok (.iload_n 2, 1) := by decide +kernel
theorem dX12_variable_81 : decode cX12_variable 81 = .ok (.iaload, 1) := by decide +kernel
theorem dX12_variable_82 : decode cX12_variable 82 = .ok (.ireturn, 1) := by decide +kernel
theorem dX12_variable_83 : decode cX12_variable 83 = .ok (.aload_n 0, 1) := by decide +kernel
theorem dX12_variable_84 : decode cX12_variable 84 = .ok (.getfield 125, 3) := by decide +kernel
theorem dX12_variable_87 : decode cX12_variable 87 = .ok (.iload_n 2, 1) := by decide +kernel
theorem dX12_variable_88 : decode cX12_variable 88 = .ok (.iaload, 1) := by decide +kernel
theorem dX12_variable_89 : decode cX12_variable 89 = .ok (.aload_n 0, 1) := by decide +kernel
theorem dX12_variable_90 : decode cX12_variable 90 = .ok (.getfield 122, 3) := by decide +kernel
theorem dX12_variable_93 : decode cX12_variable 93 = .ok (.iload_n 2, 1) := by decide +kernel
theorem dX12_variable_94 : decode cX12_variable 94 = .ok (.iaload, 1) := by decide +kernel
theorem dX12_variable_95 : decode cX12_variable 95 = .ok (.isub, 1) := by decide +kernel
theorem dX12_variable_96 : decode cX12_variable 96 = .ok (.ireturn, 1) := by decide +kernel
theorem dX12_variable_97 : decode cX12_variable 97 = .ok (.aload_n 0, 1) := by decide +kernel
theorem dX12_variable_98 : decode cX12_variable 98 = .ok (.getfield 77, 3) := by decide +kernel
theorem dX12_variable_101 : decode cX12_variable 101 = .ok (.aload_n 0, 1) := by decide +kernel
theorem dX12_variable_102 : decode cX12_variable 102 = .ok (.getfield 83, 3) := by decide +kernel
theorem dX12_variable_105 : decode cX12_variable 105 = .ok (.iload_n 3, 1) := by decide +kernel
theorem dX12_variable_106 : decode cX12_variable 106 = .ok (.iaload, 1) := by decide +kernel
theorem dX12_variable_107 : decode cX12_variable 107 = .ok (.iaload, 1) := by decide +kernel
theorem dX12_variable_108 : decode cX12_variable 108 = .ok (.ireturn, 1) := by decide +kernel
theorem dX12_value_0 : decode cX12_value 0 = .ok (.iconst 0, 1) := by decide +kernel
theorem dX12_value_1 : decode cX12_value 1 = .ok (.istore 4, 2) := by decide +kernel
theorem dX12_value_3 : decode cX12_value 3 = .ok (.iload_n 1, 1) := by decide +kernel
theorem dX12_value_4 : decode cX12_value 4 = .ok (.istore 5, 2) := by decide +kernel
theorem dX12_value_6 : decode cX12_value 6 = .ok (.iload 5, 2) := by decide +kernel
theorem dX12_value_8 : decode cX12_value 8 = .ok (.iload_n 2, 1) := by decide +kernel
theorem dX12_value_9 : decode cX12_value 9 = .ok (.if_icmp .ge 140, 3) := by decide +kernel
theorem dX12_value_12 : decode cX12_value 12 = .ok (.aload_n 0, 1) := by decide +kernel
theorem dX12_value_13 : decode cX12_value 13 = .ok (.getfield 68, 3) := by decide +kernel
theorem dX12_value_16 : decode cX12_value 16 = .ok (.iload 5, 2) := by decide +kernel
theorem dX12_value_18 : decode cX12_value 18 = .ok (.iaload, 1) := by decide +kernel
theorem dX12_value_19 : decode cX12_value 19 = .ok (.iconst 2, 1) := by decide +kernel
theorem dX12_value_20 : decode cX12_value 20 = .ok (.if_icmp .ge 48, 3) := by decide +kernel
theorem dX12_value_23 : decode cX12_value 23 = .ok (.aload_n 0, 1) := by decide +kernel
theorem dX12_value_24 : decode cX12_value 24 = .ok (.getfield 128, 3) := by decide +kernel
theorem dX12_value_27 : decode cX12_value 27 = .ok (.iload 4, 2) := by decide +kernel
theorem dX12_value_29 : decode cX12_value 29 = .ok (.aload_n 0, 1) := by decide +kernel
theorem dX12_value_30 : decode cX12_value 30 = .ok (.getfield 68, 3) := by decide +kernel
theorem dX12_value_33 : decode cX12_value 33 = .ok (.iload 5, 2) := by decide +kernel
theorem dX12_value_35 : decode cX12_value 35 = .ok (.iaload, 1) := by decide +kernel
theorem dX12_value_36 : decode cX12_value 36 = .ok (.ifCond .ne 13, 3) := by decide +kernel
theorem dX12_value_39 : decode cX12_value 39 = .ok (.aload_n 0, 1) := by decide +kernel
theorem dX12_value_40 : decode cX12_value 40 = .ok (.getfield 71, 3) := by decide +kernel
theorem dX12_value_43 : decode cX12_value 43 = .ok (.iload 5, 2) := by decide +kernel
theorem dX12_value_45 : decode cX12_value 45 = .ok (.iaload, 1) := by decide +kernel
theorem dX12_value_46 : decode cX12_value 46 = .ok (.goto 15, 3) := by decide +kernel
theorem dX12_value_49 : decode cX12_value 49 = .ok (.aload_n 0, 1) := by decide +kernel
theorem dX12_value_50 : decode cX12_value 50 = .ok (.aload_n 0, 1) := by decide +kernel
theorem dX12_value_51 : decode cX12_value 51 = .ok (.getfield 71, 3) := by decide +kernel
theorem dX12_value_54 : decode cX12_value 54 = .ok (.iload 5, 2) := by decide +kernel
theorem dX12_value_56 : decode cX12_value 56 = .ok (.iaload, 1) := by decide +kernel
theorem dX12_value_57 : decode cX12_value 57 = .ok (.iload_n 3, 1) := by decide +kernel
theorem dX12_value_58 : decode cX12_value 58 = .ok (.invokevirtual 338, 3) := by decide +kernel
theorem dX12_value_61 : decode cX12_value 61 = .ok (.iastore, 1) := by decide +kernel
theorem dX12_value_62 : decode cX12_value 62 = .ok (.iinc 4 1, 3) := by decide +kernel
theorem dX12_value_65 : decode cX12_value 65 = .ok (.goto 78, 3) := by decide +kernel
theorem dX12_value_68 : decode cX12_value 68 = .ok (.iinc 4 (-1), 3) := by decide +kernel
theorem dX12_value_71 : decode cX12_value 71 = .ok (.aload_n 0, 1) := by decide +kernel
theorem dX12_value_72 : decode cX12_value 72 = .ok (.getfield 128, 3) := by decide +kernel
theorem dX12_value_75 : decode cX12_value 75 = .ok (.iload 4, 2) := by decide +kernel
theorem dX12_value_77 : decode cX12_value 77 = .ok (.iconst 1, 1) := by decide +kernel
theorem dX12_value_78 : decode cX12_value 78 = .ok (.isub, 1) := by decide +kernel
theorem dX12_value_79 : decode cX12_value 79 = .ok (.iaload, 1) := by decide +kernel
theorem dX12_value_80 : decode cX12_value 80 = .ok (.istore 6, 2) := by decide +kernel
theorem dX12_value_82 : decode cX12_value 82 = .ok (.aload_n 0, 1) := by decide +kernel
theorem dX12_value_83 : decode cX12_value 83 = .ok (.getfield 128, 3) := by decide +kernel
theorem dX12_value_86 : decode cX12_value 86 = .ok (.iload 4, 2) := by decide +kernel
theorem dX12_value_88 : decode cX12_value 88 = .ok (.iaload, 1) := by decide +kernel
theorem dX12_value_89 : decode cX12_value 89 = .ok (.istore 7, 2) := by decide +kernel
theorem dX12_value_91 : decode cX12_value 91 = .ok (.aload_n 0, 1) := by decide +kernel
theorem dX12_value_92 : decode cX12_value 92 = .ok (.getfield 128, 3) := by decide +kernel
theorem dX12_value_95 : decode cX12_value 95 = .ok (.iload 4, 2) := by decide +kernel
theorem dX12_value_97 : decode cX12_value 97 = .ok (.iconst 1, 1) := by decide +kernel
theorem dX12_value_98 : decode cX12_value 98 = .ok (.isub, 1) := by decide +kernel
theorem dX12_value_99 : decode cX12_value 99 = .ok (.aload_n 0, 1) := by decide +kernel
theorem dX12_value_100 : decode cX12_value 100 = .ok (.getfield 68, 3) := by decide +kernel
theorem dX12_value_103 : decode cX12_value 103 = .ok (.iload 5, 2) := by decide +kernel
theorem dX12_value_105 : decode cX12_value 105 = .ok (.iaload, 1) := by decide +kernel
theorem dX12_value_106 : decode cX12_value 106 = .ok (.iconst 2, 1) := by decide +kernel
theorem dX12_value_107 : decode cX12_value 107 = .ok (.if_icmp .ne 11, 3) := by decide +kernel
theorem dX12_value_110 : decode cX12_value 110 = .ok (.iload 6, 2) := by decide +kernel
theorem dX12_value_112 : decode cX12_value 112 = .ok (.iload 7, 2) := by decide +kernel
theorem dX12_value_114 : decode cX12_value 114 = .ok (.iadd, 1) := by decide +kernel
theorem dX12_value_115 : decode cX12_value 115 = .ok (.goto 27, 3) := by decide +kernel
theorem dX12_value_118 : decode cX12_value 118 = .ok (.aload_n 0, 1) := by decide +kernel
theorem dX12_value_119 : decode cX12_value 119 = .ok (.getfield 68, 3) := by decide +kernel
theorem dX12_value_122 : decode cX12_value 122 = .ok (.iload 5, 2) := by decide +kernel
theorem dX12_value_124 : decode cX12_value 124 = .ok (.iaload, 1) := by decide +kernel
theorem dX12_value_125 : decode cX12_value 125 = .ok (.iconst 3, 1) := by decide +kernel
theorem dX12_value_126 : decode cX12_value 126 = .ok (.if_icmp .ne 11, 3) := by decide +kernel
theorem dX12_value_129 : decode cX12_value 129 = .ok (.iload 6, 2) := by decide +kernel
theorem dX12_value_131 : decode cX12_value 131 = .ok (.iload 7, 2) := by decide +kernel
theorem dX12_value_133 : decode cX12_value 133 = .ok (.isub, 1) := by decide +kernel
theorem dX12_value_134 : decode cX12_value 134 = .ok (.goto 8, 3) := by decide +kernel
theorem dX12_value_137 : decode cX12_value 137 = .ok (.iload 6, 2) := by decide +kernel
theorem dX12_value_139 : decode cX12_value 139 = .ok (.iload 7, 2) := by decide +kernel
theorem dX12_value_141 : decode cX12_value 141 = .ok (.imul, 1) := by decide +kernel
theorem dX12_value_142 : decode cX12_value 142 = .ok (.iastore, 1) := by decide +kernel
theorem dX12_value_143 : decode cX12_value 143 = .ok (.iinc 5 1, 3) := by decide +kernel
theorem dX12_value_146 : decode cX12_value 146 = .ok (.goto (-140), 3) := by decide +kernel
theorem dX12_value_149 : decode cX12_value 149 = .ok (.aload_n 0, 1) := by decide +kernel
theorem dX12_value_150 : decode cX12_value 150 = .ok (.getfield 128, 3) := by decide +kernel
theorem dX12_value_153 : decode cX12_value 153 = .ok (.iconst 0, 1) := by decide +kernel
theorem dX12_value_154 : decode cX12_value 154 = .ok (.iaload, 1) := by decide +kernel
theorem dX12_value_155 : decode cX12_value 155 = .ok (.ireturn, 1) := by decide +kernel
theorem dX12_leastOne_0 : decode cX12_leastOne 0 = .ok (.iconst 0, 1) := by decide +kernel
theorem dX12_leastOne_1 : decode cX12_leastOne 1 = .ok (.istore_n 2, 1) := by decide +kernel
theorem dX12_leastOne_2 : decode cX12_leastOne 2 = .ok (.iload_n 2, 1) := by decide +kernel
theorem dX12_leastOne_3 : decode cX12_leastOne 3 = .ok (.iload_n 1, 1) := by decide +kernel
theorem dX12_leastOne_4 : decode cX12_leastOne 4 = .ok (.if_icmp .ge 20, 3) := by decide +kernel
theorem dX12_leastOne_7 : decode cX12_leastOne 7 = .ok (.aload_n 0, 1) := by decide +kernel
theorem dX12_leastOne_8 : decode cX12_leastOne 8 = .ok (.iload_n 2, 1) := by decide +kernel
theorem dX12_leastOne_9 : decode cX12_leastOne 9 = .ok (.iload_n 1, 1) := by decide +kernel
theorem dX12_leastOne_10 : decode cX12_leastOne 10 = .ok (.invokevirtual 342, 3) := by decide +kernel
theorem dX12_leastOne_13 : decode cX12_leastOne 13 = .ok (.ifCond .eq 5, 3) := by decide +kernel
theorem dX12_leastOne_16 : decode cX12_leastOne 16 = .ok (.iload_n 2, 1) := by decide +kernel
theorem dX12_leastOne_17 : decode cX12_leastOne 17 = .ok (.ireturn, 1) := by decide +kernel
theorem dX12_leastOne_18 : decode cX12_leastOne 18 = .ok (.iinc 2 1, 3) := by decide +kernel
theorem dX12_leastOne_21 : decode cX12_leastOne 21 = .ok (.goto (-19), 3) := by decide +kernel
theorem dX12_leastOne_24 : decode cX12_leastOne 24 = .ok (.iload_n 1, 1) := by decide +kernel
theorem dX12_leastOne_25 : decode cX12_leastOne 25 = .ok (.ireturn, 1) := by decide +kernel
theorem dX12_isTrue_0 : decode cX12_isTrue 0 = .ok (.aload_n 0, 1) := by decide +kernel
theorem dX12_isTrue_1 : decode cX12_isTrue 1 = .ok (.getfield 52, 3) := by decide +kernel
theorem dX12_isTrue_4 : decode cX12_isTrue 4 = .ok (.iload_n 1, 1) := by decide +kernel
theorem dX12_isTrue_5 : decode cX12_isTrue 5 = .ok (.iaload, 1) := by decide +kernel
theorem dX12_isTrue_6 : decode cX12_isTrue 6 = .ok (.iconst 4, 1) := by decide +kernel
theorem dX12_isTrue_7 : decode cX12_isTrue 7 = .ok (.if_icmp .ne 15, 3) := by decide +kernel
theorem dX12_isTrue_10 : decode cX12_isTrue 10 = .ok (.aload_n 0, 1) := by decide +kernel
theorem dX12_isTrue_11 : decode cX12_isTrue 11 = .ok (.getfield 101, 3) := by decide +kernel
theorem dX12_isTrue_14 : decode cX12_isTrue 14 = .ok (.aload_n 0, 1) := by decide +kernel
theorem dX12_isTrue_15 : decode cX12_isTrue 15 = .ok (.getfield 116, 3) := by decide +kernel
theorem dX12_isTrue_18 : decode cX12_isTrue 18 = .ok (.iload_n 2, 1) := by decide +kernel
theorem dX12_isTrue_19 : decode cX12_isTrue 19 = .ok (.iaload, 1) := by decide +kernel
theorem dX12_isTrue_20 : decode cX12_isTrue 20 = .ok (.baload, 1) := by decide +kernel
theorem dX12_isTrue_21 : decode cX12_isTrue 21 = .ok (.ireturn, 1) := by decide +kernel
theorem dX12_isTrue_22 : decode cX12_isTrue 22 = .ok (.aload_n 0, 1) := by decide +kernel
theorem dX12_isTrue_23 : decode cX12_isTrue 23 = .ok (.getfield 52, 3) := by decide +kernel
theorem dX12_isTrue_26 : decode cX12_isTrue 26 = .ok (.iload_n 1, 1) := by decide +kernel
theorem dX12_isTrue_27 : decode cX12_isTrue 27 = .ok (.iaload, 1) := by decide +kernel
theorem dX12_isTrue_28 : decode cX12_isTrue 28 = .ok (.iconst 5, 1) := by decide +kernel
theorem dX12_isTrue_29 : decode cX12_isTrue 29 = .ok (.if_icmp .ne 18, 3) := by decide +kernel
theorem dX12_isTrue_32 : decode cX12_isTrue 32 = .ok (.aload_n 0, 1) := by decide +kernel
theorem dX12_isTrue_33 : decode cX12_isTrue 33 = .ok (.iload_n 2, 1) := by decide +kernel
theorem dX12_isTrue_34 : decode cX12_isTrue 34 = .ok (.invokevirtual 346, 3) := by decide +kernel
theorem dX12_isTrue_37 : decode cX12_isTrue 37 = .ok (.iload_n 2, 1) := by decide +kernel
theorem dX12_isTrue_38 : decode cX12_isTrue 38 = .ok (.if_icmp .ne 7, 3) := by decide +kernel
theorem dX12_isTrue_41 : decode cX12_isTrue 41 = .ok (.iconst 1, 1) := by decide +kernel
theorem dX12_isTrue_42 : decode cX12_isTrue 42 = .ok (.goto 4, 3) := by decide +kernel
theorem dX12_isTrue_45 : decode cX12_isTrue 45 = .ok (.iconst 0, 1) := by decide +kernel
theorem dX12_isTrue_46 : decode cX12_isTrue 46 = .ok (.ireturn, 1) := by decide +kernel
theorem dX12_isTrue_47 : decode cX12_isTrue 47 = .ok (.aload_n 0, 1) := by decide +kernel
theorem dX12_isTrue_48 : decode cX12_isTrue 48 = .ok (.aload_n 0, 1) := by decide +kernel
theorem dX12_isTrue_49 : decode cX12_isTrue 49 = .ok (.getfield 55, 3) := by decide +kernel
theorem dX12_isTrue_52 : decode cX12_isTrue 52 = .ok (.iload_n 1, 1) := by decide +kernel
theorem dX12_isTrue_53 : decode cX12_isTrue 53 = .ok (.iaload, 1) := by decide +kernel
theorem dX12_isTrue_54 : decode cX12_isTrue 54 = .ok (.aload_n 0, 1) := by decide +kernel
theorem dX12_isTrue_55 : decode cX12_isTrue 55 = .ok (.getfield 58, 3) := by decide +kernel
theorem dX12_isTrue_58 : decode cX12_isTrue 58 = .ok (.iload_n 1, 1) := by decide +kernel
theorem dX12_isTrue_59 : decode cX12_isTrue 59 = .ok (.iaload, 1) := by decide +kernel
theorem dX12_isTrue_60 : decode cX12_isTrue 60 = .ok (.iload_n 2, 1) := by decide +kernel
theorem dX12_isTrue_61 : decode cX12_isTrue 61 = .ok (.invokevirtual 349, 3) := by decide +kernel
theorem dX12_isTrue_64 : decode cX12_isTrue 64 = .ok (.istore_n 3, 1) := by decide +kernel
theorem dX12_isTrue_65 : decode cX12_isTrue 65 = .ok (.aload_n 0, 1) := by decide +kernel
theorem dX12_isTrue_66 : decode cX12_isTrue 66 = .ok (.aload_n 0, 1) := by decide +kernel
theorem dX12_isTrue_67 : decode cX12_isTrue 67 = .ok (.getfield 58, 3) := by decide +kernel
theorem dX12_isTrue_70 : decode cX12_isTrue 70 = .ok (.iload_n 1, 1) := by decide +kernel
theorem dX12_isTrue_71 : decode cX12_isTrue 71 = .ok (.iaload, 1) := by decide +kernel
theorem dX12_isTrue_72 : decode cX12_isTrue 72 = .ok (.aload_n 0, 1) := by decide +kernel
theorem dX12_isTrue_73 : decode cX12_isTrue 73 = .ok (.getfield 61, 3) := by decide +kernel
theorem dX12_isTrue_76 : decode cX12_isTrue 76 = .ok (.iload_n 1, 1) := by decide +kernel
theorem dX12_isTrue_77 : decode cX12_isTrue 77 = .ok (.iaload, 1) := by decide +kernel
theorem dX12_isTrue_78 : decode cX12_isTrue 78 = .ok (.iload_n 2, 1) := by decide +kernel
theorem dX12_isTrue_79 : decode cX12_isTrue 79 = .ok (.invokevirtual 349, 3) := by decide +kernel
theorem dX12_isTrue_82 : decode cX12_isTrue 82 = .ok (.istore 4, 2) := by decide +kernel
theorem dX12_isTrue_84 : decode cX12_isTrue 84 = .ok (.aload_n 0, 1) := by decide +kernel
theorem dX12_isTrue_85 : decode cX12_isTrue 85 = .ok (.getfield 52, 3) := by decide +kernel
theorem dX12_isTrue_88 : decode cX12_isTrue 88 = .ok (.iload_n 1, 1) := by decide +kernel
theorem dX12_isTrue_89 : decode cX12_isTrue 89 = .ok (.iaload, 1) := by decide +kernel
theorem dX12_isTrue_90 : decode cX12_isTrue 90 = .ok (.ifCond .ne 17, 3) := by decide +kernel
theorem dX12_isTrue_93 : decode cX12_isTrue 93 = .ok (.iload_n 3, 1) := by decide +kernel
theorem dX12_isTrue_94 : decode cX12_isTrue 94 = .ok (.iload 4, 2) := by decide +kernel
theorem dX12_isTrue_96 : decode cX12_isTrue 96 = .ok (.if_icmp .ne 7, 3) := by decide +kernel
theorem dX12_isTrue_99 : decode cX12_isTrue 99 = .ok (.iconst 1, 1) := by decide +kernel
theorem dX12_isTrue_100 : decode cX12_isTrue 100 = .ok (.goto 66, 3) := by decide +kernel
theorem dX12_isTrue_103 : decode cX12_isTrue 103 = .ok (.iconst 0, 1) := by decide +kernel
theorem dX12_isTrue_104 : decode cX12_isTrue 104 = .ok (.goto 62, 3) := by decide +kernel
theorem dX12_isTrue_107 : decode cX12_isTrue 107 = .ok (.aload_n 0, 1) := by decide +kernel
theorem dX12_isTrue_108 : decode cX12_isTrue 108 = .ok (.getfield 52, 3) := by decide +kernel
theorem dX12_isTrue_111 : decode cX12_isTrue 111 = .ok (.iload_n 1, 1) := by decide +kernel
theorem dX12_isTrue_112 : decode cX12_isTrue 112 = .ok (.iaload, 1) := by decide +kernel
theorem dX12_isTrue_113 : decode cX12_isTrue 113 = .ok (.iconst 1, 1) := by decide +kernel
theorem dX12_isTrue_114 : decode cX12_isTrue 114 = .ok (.if_icmp .ne 17, 3) := by decide +kernel
theorem dX12_isTrue_117 : decode cX12_isTrue 117 = .ok (.iload_n 3, 1) := by decide +kernel
theorem dX12_isTrue_118 : decode cX12_isTrue 118 = .ok (.iload 4, 2) := by decide +kernel
theorem dX12_isTrue_120 : decode cX12_isTrue 120 = .ok (.if_icmp .eq 7, 3) := by decide +kernel
theorem dX12_isTrue_123 : decode cX12_isTrue 123 = .ok (.iconst 1, 1) := by decide +kernel
theorem dX12_isTrue_124 : decode cX12_isTrue 124 = .ok (.goto 42, 3) := by decide +kernel
theorem dX12_isTrue_127 : decode cX12_isTrue 127 = .ok (.iconst 0, 1) := by decide +kernel
theorem dX12_isTrue_128 : decode cX12_isTrue 128 = .ok (.goto 38, 3) := by decide +kernel
theorem dX12_isTrue_131 : decode cX12_isTrue 131 = .ok (.aload_n 0, 1) := by decide +kernel
theorem dX12_isTrue_132 : decode cX12_isTrue 132 = .ok (.getfield 52, 3) := by decide +kernel
theorem dX12_isTrue_135 : decode cX12_isTrue 135 = .ok (.iload_n 1, 1) := by decide +kernel
theorem dX12_isTrue_136 : decode cX12_isTrue 136 = .ok (.iaload, 1) := by decide +kernel
theorem dX12_isTrue_137 : decode cX12_isTrue 137 = .ok (.iconst 2, 1) := by decide +kernel
theorem dX12_isTrue_138 : decode cX12_isTrue 138 = .ok (.if_icmp .ne 17, 3) := by decide +kernel
theorem dX12_isTrue_141 : decode cX12_isTrue 141 = .ok (.iload_n 3, 1) := by decide +kernel
theorem dX12_isTrue_142 : decode cX12_isTrue 142 = .ok (.iload 4, 2) := by decide +kernel
theorem dX12_isTrue_144 : decode cX12_isTrue 144 = .ok (.if_icmp .ge 7, 3) := by decide +kernel
theorem dX12_isTrue_147 : decode cX12_isTrue 147 = .ok (.iconst 1, 1) := by decide +kernel
theorem dX12_isTrue_148 : decode cX12_isTrue 148 = .ok (.goto 18, 3) := by decide +kernel
theorem dX12_isTrue_151 : decode cX12_isTrue 151 = .ok (.iconst 0, 1) := by decide +kernel
theorem dX12_isTrue_152 : decode cX12_isTrue 152 = .ok (.goto 14, 3) := by decide +kernel
theorem dX12_isTrue_155 : decode cX12_isTrue 155 = .ok (.iload_n 3, 1) := by decide +kernel
theorem dX12_isTrue_156 : decode cX12_isTrue 156 = .ok (.iload 4, 2) := by decide +kernel
theorem dX12_isTrue_158 : decode cX12_isTrue 158 = .ok (.if_icmp .gt 7, 3) := by decide +kernel
theorem dX12_isTrue_161 : decode cX12_isTrue 161 = .ok (.iconst 1, 1) := by decide +kernel
theorem dX12_isTrue_162 : decode cX12_isTrue 162 = .ok (.goto 4, 3) := by decide +kernel
theorem dX12_isTrue_165 : decode cX12_isTrue 165 = .ok (.iconst 0, 1) := by decide +kernel
theorem dX12_isTrue_166 : decode cX12_isTrue 166 = .ok (.ireturn, 1) := by decide +kernel
theorem dX12_isHeld_0 : decode cX12_isHeld 0 = .ok (.iconst 0, 1) := by decide +kernel
theorem dX12_isHeld_1 : decode cX12_isHeld 1 = .ok (.istore_n 3, 1) := by decide +kernel
theorem dX12_isHeld_2 : decode cX12_isHeld 2 = .ok (.aload_n 0, 1) := by decide +kernel
theorem dX12_isHeld_3 : decode cX12_isHeld 3 = .ok (.getfield 46, 3) := by decide +kernel
theorem dX12_isHeld_6 : decode cX12_isHeld 6 = .ok (.bipush 21, 2) := by decide +kernel
theorem dX12_isHeld_8 : decode cX12_isHeld 8 = .ok (.aload_n 0, 1) := by decide +kernel
theorem dX12_isHeld_9 : decode cX12_isHeld 9 = .ok (.getfield 263, 3) := by decide +kernel
theorem dX12_isHeld_12 : decode cX12_isHeld 12 = .ok (.imul, 1) := by decide +kernel
theorem dX12_isHeld_13 : decode cX12_isHeld 13 = .ok (.iload_n 1, 1) := by decide +kernel
theorem dX12_isHeld_14 : decode cX12_isHeld 14 = .ok (.iadd, 1) := by decide +kernel
theorem dX12_isHeld_15 : decode cX12_isHeld 15 = .ok (.iaload, 1) := by decide +kernel
theorem dX12_isHeld_16 : decode cX12_isHeld 16 = .ok (.istore 4, 2) := by decide +kernel
theorem dX12_isHeld_18 : decode cX12_isHeld 18 = .ok (.iload 4, 2) := by decide +kernel
theorem dX12_isHeld_20 : decode cX12_isHeld 20 = .ok (.aload_n 0, 1) := by decide +kernel
theorem dX12_isHeld_21 : decode cX12_isHeld 21 = .ok (.getfield 46, 3) := by decide +kernel
theorem dX12_isHeld_24 : decode cX12_isHeld 24 = .ok (.bipush 21, 2) := by decide +kernel
theorem dX12_isHeld_26 : decode cX12_isHeld 26 = .ok (.aload_n 0, 1) := by decide +kernel
theorem dX12_isHeld_27 : decode cX12_isHeld 27 = .ok (.getfield 263, 3) := by decide +kernel
theorem dX12_isHeld_30 : decode cX12_isHeld 30 = .ok (.imul, 1) := by decide +kernel
theorem dX12_isHeld_31 : decode cX12_isHeld 31 = .ok (.iload_n 1, 1) := by decide +kernel
theorem dX12_isHeld_32 : decode cX12_isHeld 32 = .ok (.iadd, 1) := by decide +kernel
theorem dX12_isHeld_33 : decode cX12_isHeld 33 = .ok (.iconst 1, 1) := by decide +kernel
theorem dX12_isHeld_34 : decode cX12_isHeld 34 = .ok (.iadd, 1) := by decide +kernel
theorem dX12_isHeld_35 : decode cX12_isHeld 35 = .ok (.iaload, 1) := by decide +kernel
theorem dX12_isHeld_36 : decode cX12_isHeld 36 = .ok (.if_icmp .ge 70, 3) := by decide +kernel
theorem dX12_isHeld_39 : decode cX12_isHeld 39 = .ok (.sipush 400, 3) := by decide +kernel
theorem dX12_isHeld_42 : decode cX12_isHeld 42 = .ok (.aload_n 0, 1) := by decide +kernel
theorem dX12_isHeld_43 : decode cX12_isHeld 43 = .ok (.getfield 263, 3) := by decide +kernel
theorem dX12_isHeld_46 : decode cX12_isHeld 46 = .ok (.imul, 1) := by decide +kernel
theorem dX12_isHeld_47 : decode cX12_isHeld 47 = .ok (.iload 4, 2) := by decide +kernel
theorem dX12_isHeld_49 : decode cX12_isHeld 49 = .ok (.iadd, 1) := by decide +kernel
theorem dX12_isHeld_50 : decode cX12_isHeld 50 = .ok (.istore 5, 2) := by decide +kernel
theorem dX12_isHeld_52 : decode cX12_isHeld 52 = .ok (.aload_n 0, 1) := by decide +kernel
theorem dX12_isHeld_53 : decode cX12_isHeld 53 = .ok (.getfield 64, 3) := by decide +kernel
theorem dX12_isHeld_56 : decode cX12_isHeld 56 = .ok (.iload 5, 2) := by decide +kernel
theorem dX12_isHeld_58 : decode cX12_isHeld 58 = .ok (.baload, 1) := by decide +kernel
theorem dX12_isHeld_59 : decode cX12_isHeld 59 = .ok (.ifCond .eq 9, 3) := by decide +kernel
theorem dX12_isHeld_62 : decode cX12_isHeld 62 = .ok (.iload_n 3, 1) := by decide +kernel
theorem dX12_isHeld_63 : decode cX12_isHeld 63 = .ok (.ifCond .eq 5, 3) := by decide +kernel
theorem dX12_isHeld_66 : decode cX12_isHeld 66 = .ok (.iconst 1, 1) := by decide +kernel
theorem dX12_isHeld_67 : decode cX12_isHeld 67 = .ok (.ireturn, 1) := by decide +kernel
theorem dX12_isHeld_68 : decode cX12_isHeld 68 = .ok (.aload_n 0, 1) := by decide +kernel
theorem dX12_isHeld_69 : decode cX12_isHeld 69 = .ok (.getfield 64, 3) := by decide +kernel
theorem dX12_isHeld_72 : decode cX12_isHeld 72 = .ok (.iload 5, 2) := by decide +kernel
theorem dX12_isHeld_74 : decode cX12_isHeld 74 = .ok (.baload, 1) := by decide +kernel
theorem dX12_isHeld_75 : decode cX12_isHeld 75 = .ok (.ifCond .eq 5, 3) := by decide +kernel
theorem dX12_isHeld_78 : decode cX12_isHeld 78 = .ok (.iconst 1, 1) := by decide +kernel
theorem dX12_isHeld_79 : decode cX12_isHeld 79 = .ok (.istore_n 3, 1) := by decide +kernel
theorem dX12_isHeld_80 : decode cX12_isHeld 80 = .ok (.iload_n 3, 1) := by decide +kernel
theorem dX12_isHeld_81 : decode cX12_isHeld 81 = .ok (.ifCond .eq 17, 3) := by decide +kernel
theorem dX12_isHeld_84 : decode cX12_isHeld 84 = .ok (.aload_n 0, 1) := by decide +kernel
theorem dX12_isHeld_85 : decode cX12_isHeld 85 = .ok (.iload 5, 2) := by decide +kernel
theorem dX12_isHeld_87 : decode cX12_isHeld 87 = .ok (.iload_n 2, 1) := by decide +kernel
theorem dX12_isHeld_88 : decode cX12_isHeld 88 = .ok (.invokevirtual 352, 3) := by decide +kernel
theorem dX12_isHeld_91 : decode cX12_isHeld 91 = .ok (.ifCond .eq 7, 3) := by decide +kernel
theorem dX12_isHeld_94 : decode cX12_isHeld 94 = .ok (.iconst 1, 1) := by decide +kernel
theorem dX12_isHeld_95 : decode cX12_isHeld 95 = .ok (.goto 4, 3) := by decide +kernel
theorem dX12_isHeld_98 : decode cX12_isHeld 98 = .ok (.iconst 0, 1) := by decide +kernel
theorem dX12_isHeld_99 : decode cX12_isHeld 99 = .ok (.istore_n 3, 1) := by decide +kernel
theorem dX12_isHeld_100 : decode cX12_isHeld 100 = .ok (.iinc 4 1, 3) := by decide +kernel
theorem dX12_isHeld_103 : decode cX12_isHeld 103 = .ok (.goto (-85), 3) := by decide +kernel
theorem dX12_isHeld_106 : decode cX12_isHeld 106 = .ok (.iload_n 3, 1) := by decide +kernel
theorem dX12_isHeld_107 : decode cX12_isHeld 107 = .ok (.ireturn, 1) := by decide +kernel
theorem dX12_weightOf_0 : decode cX12_weightOf 0 = .ok (.iconst 0, 1) := by decide +kernel
theorem dX12_weightOf_1 : decode cX12_weightOf 1 = .ok (.istore_n 2, 1) := by decide +kernel
theorem dX12_weightOf_2 : decode cX12_weightOf 2 = .ok (.iconst 0, 1) := by decide +kernel
theorem dX12_weightOf_3 : decode cX12_weightOf 3 = .ok (.istore_n 3, 1) := by decide +kernel
theorem dX12_weightOf_4 : decode cX12_weightOf 4 = .ok (.iload_n 3, 1) := by decide +kernel
theorem dX12_weightOf_5 : decode cX12_weightOf 5 = .ok (.aload_n 0, 1) := by decide +kernel
theorem dX12_weightOf_6 : decode cX12_weightOf 6 = .ok (.getfield 40, 3) := by decide +kernel
theorem dX12_weightOf_9 : decode cX12_weightOf 9 = .ok (.aload_n 0, 1) := by decide +kernel
theorem dX12_weightOf_10 : decode cX12_weightOf 10 = .ok (.getfield 263, 3) := by decide +kernel
theorem dX12_weightOf_13 : decode cX12_weightOf 13 = .ok (.iaload, 1) := by decide +kernel
theorem dX12_weightOf_14 : decode cX12_weightOf 14 = .ok (.if_icmp .ge 58, 3) := by decide +kernel
theorem dX12_weightOf_17 : decode cX12_weightOf 17 = .ok (.aload_n 0, 1) := by decide +kernel
theorem dX12_weightOf_18 : decode cX12_weightOf 18 = .ok (.getfield 43, 3) := by decide +kernel
theorem dX12_weightOf_21 : decode cX12_weightOf 21 = .ok (.bipush 20, 2) := by decide +kernel
theorem dX12_weightOf_23 : decode cX12_weightOf 23 = .ok (.aload_n 0, 1) := by decide +kernel
theorem dX12_weightOf_24 : decode cX12_weightOf 24 = .ok (.getfield 263, 3) := by decide +kernel
theorem dX12_weightOf_27 : decode cX12_weightOf 27 = .ok (.imul, 1) := by decide +kernel
theorem dX12_weightOf_28 : decode cX12_weightOf 28 = .ok (.iload_n 3, 1) := by decide +kernel
theorem dX12_weightOf_29 : decode cX12_weightOf 29 = .ok (.iadd, 1) := by decide +kernel
theorem dX12_weightOf_30 : decode cX12_weightOf 30 = .ok (.iaload, 1) := by decide +kernel
theorem dX12_weightOf_31 : decode cX12_weightOf 31 = .ok (.istore 4, 2) := by decide +kernel
theorem dX12_weightOf_33 : decode cX12_weightOf 33 = .ok (.iload 4, 2) := by decide +kernel
theorem dX12_weightOf_35 : decode cX12_weightOf 35 = .ok (.ifCond .le 9, 3) := by decide +kernel
theorem dX12_weightOf_38 : decode cX12_weightOf 38 = .ok (.iload 4, 2) := by decide +kernel
theorem dX12_weightOf_40 : decode cX12_weightOf 40 = .ok (.iload_n 2, 1) := by decide +kernel
theorem dX12_weightOf_41 : decode cX12_weightOf 41 = .ok (.if_icmp .le 25, 3) := by decide +kernel
theorem dX12_weightOf_44 : decode cX12_weightOf 44 = .ok (.aload_n 0, 1) := by decide +kernel
theorem dX12_weightOf_45 : decode cX12_weightOf 45 = .ok (.iload_n 3, 1) := by decide +kernel
theorem dX12_weightOf_46 : decode cX12_weightOf 46 = .ok (.iload_n 1, 1) := by decide +kernel
theorem dX12_weightOf_47 : decode cX12_weightOf 47 = .ok (.invokevirtual 355, 3) := by decide +kernel
theorem dX12_weightOf_50 : decode cX12_weightOf 50 = .ok (.ifCond .ne 6, 3) := by decide +kernel
theorem dX12_weightOf_53 : decode cX12_weightOf 53 = .ok (.goto 13, 3) := by decide +kernel
theorem dX12_weightOf_56 : decode cX12_weightOf 56 = .ok (.iload 4, 2) := by decide +kernel
theorem dX12_weightOf_58 : decode cX12_weightOf 58 = .ok (.ifCond .ne 5, 3) := by decide +kernel
theorem dX12_weightOf_61 : decode cX12_weightOf 61 = .ok (.iconst 0, 1) := by decide +kernel
theorem dX12_weightOf_62 : decode cX12_weightOf 62 = .ok (.ireturn, 1) := by decide +kernel
theorem dX12_weightOf_63 : decode cX12_weightOf 63 = .ok (.iload 4, 2) := by decide +kernel
theorem dX12_weightOf_65 : decode cX12_weightOf 65 = .ok (.istore_n 2, 1) := by decide +kernel
theorem dX12_weightOf_66 : decode cX12_weightOf 66 = .ok (.iinc 3 1, 3) := by decide +kernel
theorem dX12_weightOf_69 : decode cX12_weightOf 69 = .ok (.goto (-65), 3) := by decide +kernel
theorem dX12_weightOf_72 : decode cX12_weightOf 72 = .ok (.iload_n 2, 1) := by decide +kernel
theorem dX12_weightOf_73 : decode cX12_weightOf 73 = .ok (.ireturn, 1) := by decide +kernel
theorem dX12_showings_0 : decode cX12_showings 0 = .ok (.aload_n 0, 1) := by decide +kernel
theorem dX12_showings_1 : decode cX12_showings 1 = .ok (.iload_n 1, 1) := by decide +kernel
theorem dX12_showings_2 : decode cX12_showings 2 = .ok (.invokevirtual 332, 3) := by decide +kernel
theorem dX12_showings_5 : decode cX12_showings 5 = .ok (.ifCond .ne 5, 3) := by decide +kernel
theorem dX12_showings_8 : decode cX12_showings 8 = .ok (.iconst (-1), 1) := by decide +kernel
theorem dX12_showings_9 : decode cX12_showings 9 = .ok (.ireturn, 1) := by decide +kernel
theorem dX12_showings_10 : decode cX12_showings 10 = .ok (.aload_n 0, 1) := by decide +kernel
theorem dX12_showings_11 : decode cX12_showings 11 = .ok (.iload_n 1, 1) := by decide +kernel
theorem dX12_showings_12 : decode cX12_showings 12 = .ok (.invokevirtual 335, 3) := by decide +kernel
theorem dX12_showings_15 : decode cX12_showings 15 = .ok (.aload_n 0, 1) := by decide +kernel
theorem dX12_showings_16 : decode cX12_showings 16 = .ok (.getfield 329, 3) := by decide +kernel
theorem dX12_showings_19 : decode cX12_showings 19 = .ok (.ireturn, 1) := by decide +kernel
theorem dX12_showing_0 : decode cX12_showing 0 = .ok (.aload_n 0, 1) := by decide +kernel
theorem dX12_showing_1 : decode cX12_showing 1 = .ok (.iload_n 2, 1) := by decide +kernel
theorem dX12_showing_2 : decode cX12_showing 2 = .ok (.invokevirtual 332, 3) := by decide +kernel
theorem dX12_showing_5 : decode cX12_showing 5 = .ok (.ifCond .eq 7, 3) := by decide +kernel
theorem dX12_showing_8 : decode cX12_showing 8 = .ok (.iload_n 1, 1) := by decide +kernel
theorem dX12_showing_9 : decode cX12_showing 9 = .ok (.ifCond .ge 5, 3) := by decide +kernel
theorem dX12_showing_12 : decode cX12_showing 12 = .ok (.iconst (-1), 1) := by decide +kernel
theorem dX12_showing_13 : decode cX12_showing 13 = .ok (.ireturn, 1) := by decide +kernel
theorem dX12_showing_14 : decode cX12_showing 14 = .ok (.aload_n 0, 1) := by decide +kernel
theorem dX12_showing_15 : decode cX12_showing 15 = .ok (.iload_n 2, 1) := by decide +kernel
theorem dX12_showing_16 : decode cX12_showing 16 = .ok (.invokevirtual 335, 3) := by decide +kernel
theorem dX12_showing_19 : decode cX12_showing 19 = .ok (.iload_n 1, 1) := by decide +kernel
theorem dX12_showing_20 : decode cX12_showing 20 = .ok (.aload_n 0, 1) := by decide +kernel
theorem dX12_showing_21 : decode cX12_showing 21 = .ok (.getfield 329, 3) := by decide +kernel
theorem dX12_showing_24 : decode cX12_showing 24 = .ok (.if_icmp .lt 5, 3) := by decide +kernel
theorem dX12_showing_27 : decode cX12_showing 27 = .ok (.iconst (-1), 1) := by decide +kernel
theorem dX12_showing_28 : decode cX12_showing 28 = .ok (.ireturn, 1) := by decide +kernel
theorem dX12_showing_29 : decode cX12_showing 29 = .ok (.aload_n 0, 1) := by decide +kernel
theorem dX12_showing_30 : decode cX12_showing 30 = .ok (.getfield 116, 3) := by decide +kernel
theorem dX12_showing_33 : decode cX12_showing 33 = .ok (.iload_n 1, 1) := by decide +kernel
theorem dX12_showing_34 : decode cX12_showing 34 = .ok (.iaload, 1) := by decide +kernel
theorem dX12_showing_35 : decode cX12_showing 35 = .ok (.istore 4, 2) := by decide +kernel
theorem dX12_showing_37 : decode cX12_showing 37 = .ok (.iload_n 3, 1) := by decide +kernel
theorem dX12_showing_38 : decode cX12_showing 38 = .ok (.tableswitch 178 0 8 #[50, 53, 60, 67, 74, 82, 90, 96, 102], 50) := by decide +kernel
theorem dX12_showing_88 : decode cX12_showing 88 = .ok (.iload 4, 2) := by decide +kernel
theorem dX12_showing_90 : decode cX12_showing 90 = .ok (.ireturn, 1) := by decide +kernel
theorem dX12_showing_91 : decode cX12_showing 91 = .ok (.aload_n 0, 1) := by decide +kernel
theorem dX12_showing_92 : decode cX12_showing 92 = .ok (.getfield 119, 3) := by decide +kernel
theorem dX12_showing_95 : decode cX12_showing 95 = .ok (.iload_n 1, 1) := by decide +kernel
theorem dX12_showing_96 : decode cX12_showing 96 = .ok (.iaload, 1) := by decide +kernel
theorem dX12_showing_97 : decode cX12_showing 97 = .ok (.ireturn, 1) := by decide +kernel
theorem dX12_showing_98 : decode cX12_showing 98 = .ok (.aload_n 0, 1) := by decide +kernel
theorem dX12_showing_99 : decode cX12_showing 99 = .ok (.getfield 122, 3) := by decide +kernel
theorem dX12_showing_102 : decode cX12_showing 102 = .ok (.iload_n 1, 1) := by decide +kernel
theorem dX12_showing_103 : decode cX12_showing 103 = .ok (.iaload, 1) := by decide +kernel
theorem dX12_showing_104 : decode cX12_showing 104 = .ok (.ireturn, 1) := by decide +kernel
theorem dX12_showing_105 : decode cX12_showing 105 = .ok (.aload_n 0, 1) := by decide +kernel
theorem dX12_showing_106 : decode cX12_showing 106 = .ok (.getfield 125, 3) := by decide +kernel
theorem dX12_showing_109 : decode cX12_showing 109 = .ok (.iload_n 1, 1) := by decide +kernel
theorem dX12_showing_110 : decode cX12_showing 110 = .ok (.iaload, 1) := by decide +kernel
theorem dX12_showing_111 : decode cX12_showing 111 = .ok (.ireturn, 1) := by decide +kernel
theorem dX12_showing_112 : decode cX12_showing 112 = .ok (.aload_n 0, 1) := by decide +kernel
theorem dX12_showing_113 : decode cX12_showing 113 = .ok (.getfield 95, 3) := by decide +kernel
theorem dX12_showing_116 : decode cX12_showing 116 = .ok (.iload 4, 2) := by decide +kernel
theorem dX12_showing_118 : decode cX12_showing 118 = .ok (.iaload, 1) := by decide +kernel
theorem dX12_showing_119 : decode cX12_showing 119 = .ok (.ireturn, 1) := by decide +kernel
theorem dX12_showing_120 : decode cX12_showing 120 = .ok (.aload_n 0, 1) := by decide +kernel
theorem dX12_showing_121 : decode cX12_showing 121 = .ok (.getfield 98, 3) := by decide +kernel
theorem dX12_showing_124 : decode cX12_showing 124 = .ok (.iload 4, 2) := by decide +kernel
theorem dX12_showing_126 : decode cX12_showing 126 = .ok (.iaload, 1) := by decide +kernel
theorem dX12_showing_127 : decode cX12_showing 127 = .ok (.ireturn, 1) := by decide +kernel
theorem dX12_showing_128 : decode cX12_showing 128 = .ok (.aload_n 0, 1) := by decide +kernel
theorem dX12_showing_129 : decode cX12_showing 129 = .ok (.iload_n 1, 1) := by decide +kernel
theorem dX12_showing_130 : decode cX12_showing 130 = .ok (.invokevirtual 358, 3) := by decide +kernel
theorem dX12_showing_133 : decode cX12_showing 133 = .ok (.ireturn, 1) := by decide +kernel
theorem dX12_showing_134 : decode cX12_showing 134 = .ok (.aload_n 0, 1) := by decide +kernel
theorem dX12_showing_135 : decode cX12_showing 135 = .ok (.iload_n 1, 1) := by decide +kernel
theorem dX12_showing_136 : decode cX12_showing 136 = .ok (.invokevirtual 346, 3) := by decide +kernel
theorem dX12_showing_139 : decode cX12_showing 139 = .ok (.ireturn, 1) := by decide +kernel
theorem dX12_showing_140 : decode cX12_showing 140 = .ok (.iconst 0, 1) := by decide +kernel
theorem dX12_showing_141 : decode cX12_showing 141 = .ok (.istore 5, 2) := by decide +kernel
theorem dX12_showing_143 : decode cX12_showing 143 = .ok (.iload 5, 2) := by decide +kernel
theorem dX12_showing_145 : decode cX12_showing 145 = .ok (.aload_n 0, 1) := by decide +kernel
theorem dX12_showing_146 : decode cX12_showing 146 = .ok (.getfield 329, 3) := by decide +kernel
theorem dX12_showing_149 : decode cX12_showing 149 = .ok (.if_icmp .ge 65, 3) := by decide +kernel
theorem dX12_showing_152 : decode cX12_showing 152 = .ok (.iload 5, 2) := by decide +kernel
theorem dX12_showing_154 : decode cX12_showing 154 = .ok (.iload_n 1, 1) := by decide +kernel
theorem dX12_showing_155 : decode cX12_showing 155 = .ok (.if_icmp .eq 53, 3) := by decide +kernel
theorem dX12_showing_158 : decode cX12_showing 158 = .ok (.aload_n 0, 1) := by decide +kernel
theorem dX12_showing_159 : decode cX12_showing 159 = .ok (.getfield 95, 3) := by decide +kernel
theorem dX12_showing_162 : decode cX12_showing 162 = .ok (.aload_n 0, 1) := by decide +kernel
theorem dX12_showing_163 : decode cX12_showing 163 = .ok (.getfield 116, 3) := by decide +kernel
theorem dX12_showing_166 : decode cX12_showing 166 = .ok (.iload 5, 2) := by decide +kernel
theorem dX12_showing_168 : decode cX12_showing 168 = .ok (.iaload, 1) := by decide +kernel
theorem dX12_showing_169 : decode cX12_showing 169 = .ok (.iaload, 1) := by decide +kernel
theorem dX12_showing_170 : decode cX12_showing 170 = .ok (.aload_n 0, 1) := by decide +kernel
theorem dX12_showing_171 : decode cX12_showing 171 = .ok (.getfield 95, 3) := by decide +kernel
theorem dX12_showing_174 : decode cX12_showing 174 = .ok (.iload 4, 2) := by decide +kernel
theorem dX12_showing_176 : decode cX12_showing 176 = .ok (.iaload, 1) := by decide +kernel
theorem dX12_showing_177 : decode cX12_showing 177 = .ok (.if_icmp .ne 31, 3) := by decide +kernel
theorem dX12_showing_180 : decode cX12_showing 180 = .ok (.aload_n 0, 1) := by decide +kernel
theorem dX12_showing_181 : decode cX12_showing 181 = .ok (.getfield 98, 3) := by decide +kernel
theorem dX12_showing_184 : decode cX12_showing 184 = .ok (.iload 4, 2) := by decide +kernel
theorem dX12_showing_186 : decode cX12_showing 186 = .ok (.iaload, 1) := by decide +kernel
theorem dX12_showing_187 : decode cX12_showing 187 = .ok (.ifCond .eq 18, 3) := by decide +kernel
theorem dX12_showing_190 : decode cX12_showing 190 = .ok (.aload_n 0, 1) := by decide +kernel
theorem dX12_showing_191 : decode cX12_showing 191 = .ok (.getfield 98, 3) := by decide +kernel
theorem dX12_showing_194 : decode cX12_showing 194 = .ok (.aload_n 0, 1) := by decide +kernel
theorem dX12_showing_195 : decode cX12_showing 195 = .ok (.getfield 116, 3) := by decide +kernel
theorem dX12_showing_198 : decode cX12_showing 198 = .ok (.iload 5, 2) := by decide +kernel
theorem dX12_showing_200 : decode cX12_showing 200 = .ok (.iaload, 1) := by decide +kernel
theorem dX12_showing_201 : decode cX12_showing 201 = .ok (.iaload, 1) := by decide +kernel
theorem dX12_showing_202 : decode cX12_showing 202 = .ok (.ifCond .ne 6, 3) := by decide +kernel
theorem dX12_showing_205 : decode cX12_showing 205 = .ok (.iload 5, 2) := by decide +kernel
theorem dX12_showing_207 : decode cX12_showing 207 = .ok (.ireturn, 1) := by decide +kernel
theorem dX12_showing_208 : decode cX12_showing 208 = .ok (.iinc 5 1, 3) := by decide +kernel
theorem dX12_showing_211 : decode cX12_showing 211 = .ok (.goto (-68), 3) := by decide +kernel
theorem dX12_showing_214 : decode cX12_showing 214 = .ok (.iconst (-1), 1) := by decide +kernel
theorem dX12_showing_215 : decode cX12_showing 215 = .ok (.ireturn, 1) := by decide +kernel
theorem dX12_showing_216 : decode cX12_showing 216 = .ok (.iconst (-1), 1) := by decide +kernel
theorem dX12_showing_217 : decode cX12_showing 217 = .ok (.ireturn, 1) := by decide +kernel
theorem dX12_holds_0 : decode cX12_holds 0 = .ok (.iload_n 1, 1) := by decide +kernel
theorem dX12_holds_1 : decode cX12_holds 1 = .ok (.ifCond .lt 28, 3) := by decide +kernel
theorem dX12_holds_4 : decode cX12_holds 4 = .ok (.iload_n 1, 1) := by decide +kernel
theorem dX12_holds_5 : decode cX12_holds 5 = .ok (.aload_n 0, 1) := by decide +kernel
theorem dX12_holds_6 : decode cX12_holds 6 = .ok (.getfield 40, 3) := by decide +kernel
theorem dX12_holds_9 : decode cX12_holds 9 = .ok (.aload_n 0, 1) := by decide +kernel
theorem dX12_holds_10 : decode cX12_holds 10 = .ok (.getfield 263, 3) := by decide +kernel
theorem dX12_holds_13 : decode cX12_holds 13 = .ok (.iaload, 1) := by decide +kernel
theorem dX12_holds_14 : decode cX12_holds 14 = .ok (.if_icmp .ge 15, 3) := by decide +kernel
theorem dX12_holds_17 : decode cX12_holds 17 = .ok (.aload_n 0, 1) := by decide +kernel
theorem dX12_holds_18 : decode cX12_holds 18 = .ok (.iload_n 3, 1) := by decide +kernel
theorem dX12_holds_19 : decode cX12_holds 19 = .ok (.invokevirtual 332, 3) := by decide +kernel
theorem dX12_holds_22 : decode cX12_holds 22 = .ok (.ifCond .eq 7, 3) := by decide +kernel
theorem dX12_holds_25 : decode cX12_holds 25 = .ok (.iload_n 2, 1) := by decide +kernel
theorem dX12_holds_26 : decode cX12_holds 26 = .ok (.ifCond .ge 5, 3) := by decide +kernel
theorem dX12_holds_29 : decode cX12_holds 29 = .ok (.iconst (-1), 1) := by decide +kernel
theorem dX12_holds_30 : decode cX12_holds 30 = .ok (.ireturn, 1) := by decide +kernel
theorem dX12_holds_31 : decode cX12_holds 31 = .ok (.aload_n 0, 1) := by decide +kernel
theorem dX12_holds_32 : decode cX12_holds 32 = .ok (.iload_n 3, 1) := by decide +kernel
theorem dX12_holds_33 : decode cX12_holds 33 = .ok (.invokevirtual 335, 3) := by decide +kernel
theorem dX12_holds_36 : decode cX12_holds 36 = .ok (.iload_n 2, 1) := by decide +kernel
theorem dX12_holds_37 : decode cX12_holds 37 = .ok (.aload_n 0, 1) := by decide +kernel
theorem dX12_holds_38 : decode cX12_holds 38 = .ok (.getfield 329, 3) := by decide +kernel
theorem dX12_holds_41 : decode cX12_holds 41 = .ok (.if_icmp .lt 7, 3) := by decide +kernel
theorem dX12_holds_44 : decode cX12_holds 44 = .ok (.iconst (-1), 1) := by decide +kernel
theorem dX12_holds_45 : decode cX12_holds 45 = .ok (.goto 17, 3) := by decide +kernel
theorem dX12_holds_48 : decode cX12_holds 48 = .ok (.aload_n 0, 1) := by decide +kernel
theorem dX12_holds_49 : decode cX12_holds 49 = .ok (.iload_n 1, 1) := by decide +kernel
theorem dX12_holds_50 : decode cX12_holds 50 = .ok (.iload_n 2, 1) := by decide +kernel
theorem dX12_holds_51 : decode cX12_holds 51 = .ok (.invokevirtual 355, 3) := by decide +kernel
theorem dX12_holds_54 : decode cX12_holds 54 = .ok (.ifCond .eq 7, 3) := by decide +kernel
theorem dX12_holds_57 : decode cX12_holds 57 = .ok (.iconst 1, 1) := by decide +kernel
theorem dX12_holds_58 : decode cX12_holds 58 = .ok (.goto 4, 3) := by decide +kernel
theorem dX12_holds_61 : decode cX12_holds 61 = .ok (.iconst 0, 1) := by decide +kernel
theorem dX12_holds_62 : decode cX12_holds 62 = .ok (.ireturn, 1) := by decide +kernel
theorem dX12_begins_0 : decode cX12_begins 0 = .ok (.aload_n 0, 1) := by decide +kernel
theorem dX12_begins_1 : decode cX12_begins 1 = .ok (.iconst 0, 1) := by decide +kernel
theorem dX12_begins_2 : decode cX12_begins 2 = .ok (.putfield 361, 3) := by decide +kernel
theorem dX12_begins_5 : decode cX12_begins 5 = .ok (.aload_n 0, 1) := by decide +kernel
theorem dX12_begins_6 : decode cX12_begins 6 = .ok (.getfield 131, 3) := by decide +kernel
theorem dX12_begins_9 : decode cX12_begins 9 = .ok (.iconst (-1), 1) := by decide +kernel
theorem dX12_begins_10 : decode cX12_begins 10 = .ok (.if_icmp .ne 4, 3) := by decide +kernel
theorem dX12_begins_13 : decode cX12_begins 13 = .ok (.return_, 1) := by decide +kernel
theorem dX12_begins_14 : decode cX12_begins 14 = .ok (.iconst 0, 1) := by decide +kernel
theorem dX12_begins_15 : decode cX12_begins 15 = .ok (.istore_n 1, 1) := by decide +kernel
theorem dX12_begins_16 : decode cX12_begins 16 = .ok (.iload_n 1, 1) := by decide +kernel
theorem dX12_begins_17 : decode cX12_begins 17 = .ok (.aload_n 0, 1) := by decide +kernel
theorem dX12_begins_18 : decode cX12_begins 18 = .ok (.getfield 364, 3) := by decide +kernel
theorem dX12_begins_21 : decode cX12_begins 21 = .ok (.if_icmp .ge 106, 3) := by decide +kernel
theorem dX12_begins_24 : decode cX12_begins 24 = .ok (.aload_n 0, 1) := by decide +kernel
theorem dX12_begins_25 : decode cX12_begins 25 = .ok (.getfield 367, 3) := by decide +kernel
theorem dX12_begins_28 : decode cX12_begins 28 = .ok (.iload_n 1, 1) := by decide +kernel
theorem dX12_begins_29 : decode cX12_begins 29 = .ok (.ishr, 1) := by decide +kernel
theorem dX12_begins_30 : decode cX12_begins 30 = .ok (.iconst 1, 1) := by decide +kernel
theorem dX12_begins_31 : decode cX12_begins 31 = .ok (.iand, 1) := by decide +kernel
theorem dX12_begins_32 : decode cX12_begins 32 = .ok (.ifCond .eq 89, 3) := by decide +kernel
theorem dX12_begins_35 : decode cX12_begins 35 = .ok (.aload_n 0, 1) := by decide +kernel
theorem dX12_begins_36 : decode cX12_begins 36 = .ok (.getfield 140, 3) := by decide +kernel
theorem dX12_begins_39 : decode cX12_begins 39 = .ok (.iload_n 1, 1) := by decide +kernel
theorem dX12_begins_40 : decode cX12_begins 40 = .ok (.iaload, 1) := by decide +kernel
theorem dX12_begins_41 : decode cX12_begins 41 = .ok (.aload_n 0, 1) := by decide +kernel
theorem dX12_begins_42 : decode cX12_begins 42 = .ok (.getfield 313, 3) := by decide +kernel
theorem dX12_begins_45 : decode cX12_begins 45 = .ok (.if_icmp .lt 6, 3) := by decide +kernel
theorem dX12_begins_48 : decode cX12_begins 48 = .ok (.goto 73, 3) := by decide +kernel
theorem dX12_begins_51 : decode cX12_begins 51 = .ok (.aload_n 0, 1) := by decide +kernel
theorem dX12_begins_52 : decode cX12_begins 52 = .ok (.getfield 170, 3) := by decide +kernel
theorem dX12_begins_55 : decode cX12_begins 55 = .ok (.aload_n 0, 1) := by decide +kernel
theorem dX12_begins_56 : decode cX12_begins 56 = .ok (.getfield 361, 3) := by decide +kernel
theorem dX12_begins_59 : decode cX12_begins 59 = .ok (.aload_n 0, 1) := by decide +kernel
theorem dX12_begins_60 : decode cX12_begins 60 = .ok (.getfield 149, 3) := by decide +kernel
theorem dX12_begins_63 : decode cX12_begins 63 = .ok (.iload_n 1, 1) := by decide +kernel
theorem dX12_begins_64 : decode cX12_begins 64 = .ok (.iaload, 1) := by decide +kernel
theorem dX12_begins_65 : decode cX12_begins 65 = .ok (.iastore, 1) := by decide +kernel
theorem dX12_begins_66 : decode cX12_begins 66 = .ok (.aload_n 0, 1) := by decide +kernel
theorem dX12_begins_67 : decode cX12_begins 67 = .ok (.getfield 173, 3) := by decide +kernel
theorem dX12_begins_70 : decode cX12_begins 70 = .ok (.aload_n 0, 1) := by decide +kernel
theorem dX12_begins_71 : decode cX12_begins 71 = .ok (.getfield 361, 3) := by decide +kernel
theorem dX12_begins_74 : decode cX12_begins 74 = .ok (.aload_n 0, 1) := by decide +kernel
theorem dX12_begins_75 : decode cX12_begins 75 = .ok (.getfield 152, 3) := by decide +kernel
theorem dX12_begins_78 : decode cX12_begins 78 = .ok (.iload_n 1, 1) := by decide +kernel
theorem dX12_begins_79 : decode cX12_begins 79 = .ok (.iaload, 1) := by decide +kernel
theorem dX12_begins_80 : decode cX12_begins 80 = .ok (.iastore, 1) := by decide +kernel
theorem dX12_begins_81 : decode cX12_begins 81 = .ok (.aload_n 0, 1) := by decide +kernel
theorem dX12_begins_82 : decode cX12_begins 82 = .ok (.getfield 176, 3) := by decide +kernel
theorem dX12_begins_85 : decode cX12_begins 85 = .ok (.aload_n 0, 1) := by decide +kernel
theorem dX12_begins_86 : decode cX12_begins 86 = .ok (.getfield 361, 3) := by decide +kernel
theorem dX12_begins_89 : decode cX12_begins 89 = .ok (.aload_n 0, 1) := by decide +kernel
theorem dX12_begins_90 : decode cX12_begins 90 = .ok (.getfield 155, 3) := by decide +kernel
theorem dX12_begins_93 : decode cX12_begins 93 = .ok (.iload_n 1, 1) := by decide +kernel
theorem dX12_begins_94 : decode cX12_begins 94 = .ok (.iaload, 1) := by decide +kernel
theorem dX12_begins_95 : decode cX12_begins 95 = .ok (.iastore, 1) := by decide +kernel
theorem dX12_begins_96 : decode cX12_begins 96 = .ok (.aload_n 0, 1) := by decide +kernel
theorem dX12_begins_97 : decode cX12_begins 97 = .ok (.getfield 179, 3) := by decide +kernel
theorem dX12_begins_100 : decode cX12_begins 100 = .ok (.aload_n 0, 1) := by decide +kernel
theorem dX12_begins_101 : decode cX12_begins 101 = .ok (.getfield 361, 3) := by decide +kernel
theorem dX12_begins_104 : decode cX12_begins 104 = .ok (.aload_n 0, 1) := by decide +kernel
theorem dX12_begins_105 : decode cX12_begins 105 = .ok (.getfield 146, 3) := by decide +kernel
theorem dX12_begins_108 : decode cX12_begins 108 = .ok (.iload_n 1, 1) := by decide +kernel
theorem dX12_begins_109 : decode cX12_begins 109 = .ok (.iaload, 1) := by decide +kernel
theorem dX12_begins_110 : decode cX12_begins 110 = .ok (.iastore, 1) := by decide +kernel
theorem dX12_begins_111 : decode cX12_begins 111 = .ok (.aload_n 0, 1) := by decide +kernel
theorem dX12_begins_112 : decode cX12_begins 112 = .ok (.dup, 1) := by decide +kernel
theorem dX12_begins_113 : decode cX12_begins 113 = .ok (.getfield 361, 3) := by decide +kernel
theorem dX12_begins_116 : decode cX12_begins 116 = .ok (.iconst 1, 1) := by decide +kernel
theorem dX12_begins_117 : decode cX12_begins 117 = .ok (.iadd, 1) := by decide +kernel
theorem dX12_begins_118 : decode cX12_begins 118 = .ok (.putfield 361, 3) := by decide +kernel
theorem dX12_begins_121 : decode cX12_begins 121 = .ok (.iinc 1 1, 3) := by decide +kernel
theorem dX12_begins_124 : decode cX12_begins 124 = .ok (.goto (-108), 3) := by decide +kernel
theorem dX12_begins_127 : decode cX12_begins 127 = .ok (.return_, 1) := by decide +kernel
theorem dX12_meet_0 : decode cX12_meet 0 = .ok (.aload_n 0, 1) := by decide +kernel
theorem dX12_meet_1 : decode cX12_meet 1 = .ok (.getfield 140, 3) := by decide +kernel
theorem dX12_meet_4 : decode cX12_meet 4 = .ok (.iload_n 1, 1) := by decide +kernel
theorem dX12_meet_5 : decode cX12_meet 5 = .ok (.iaload, 1) := by decide +kernel
theorem dX12_meet_6 : decode cX12_meet 6 = .ok (.aload_n 0, 1) := by decide +kernel
