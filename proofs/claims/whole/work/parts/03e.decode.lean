theorem dX12_cut_265 : decode cX12_cut 265 = .ok (.invokevirtual 218, 3) := by decide +kernel
theorem dX12_cut_268 : decode cX12_cut 268 = .ok (.iload_n 1, 1) := by decide +kernel
theorem dX12_cut_269 : decode cX12_cut 269 = .ok (.iload_n 3, 1) := by decide +kernel
theorem dX12_cut_270 : decode cX12_cut 270 = .ok (.iadd, 1) := by decide +kernel
theorem dX12_cut_271 : decode cX12_cut 271 = .ok (.istore_n 1, 1) := by decide +kernel
theorem dX12_cut_272 : decode cX12_cut 272 = .ok (.goto 19, 3) := by decide +kernel
theorem dX12_cut_275 : decode cX12_cut 275 = .ok (.iload_n 1, 1) := by decide +kernel
theorem dX12_cut_276 : decode cX12_cut 276 = .ok (.aload_n 0, 1) := by decide +kernel
theorem dX12_cut_277 : decode cX12_cut 277 = .ok (.iload_n 1, 1) := by decide +kernel
theorem dX12_cut_278 : decode cX12_cut 278 = .ok (.iload_n 2, 1) := by decide +kernel
theorem dX12_cut_279 : decode cX12_cut 279 = .ok (.aload_n 0, 1) := by decide +kernel
theorem dX12_cut_280 : decode cX12_cut 280 = .ok (.iload_n 1, 1) := by decide +kernel
theorem dX12_cut_281 : decode cX12_cut 281 = .ok (.iconst 1, 1) := by decide +kernel
theorem dX12_cut_282 : decode cX12_cut 282 = .ok (.iadd, 1) := by decide +kernel
theorem dX12_cut_283 : decode cX12_cut 283 = .ok (.invokevirtual 214, 3) := by decide +kernel
theorem dX12_cut_286 : decode cX12_cut 286 = .ok (.invokevirtual 229, 3) := by decide +kernel
theorem dX12_cut_289 : decode cX12_cut 289 = .ok (.iadd, 1) := by decide +kernel
theorem dX12_cut_290 : decode cX12_cut 290 = .ok (.istore_n 1, 1) := by decide +kernel
theorem dX12_cut_291 : decode cX12_cut 291 = .ok (.goto (-284), 3) := by decide +kernel
theorem dX12_cut_294 : decode cX12_cut 294 = .ok (.return_, 1) := by decide +kernel
theorem dX12_sign_0 : decode cX12_sign 0 = .ok (.iload_n 3, 1) := by decide +kernel
theorem dX12_sign_1 : decode cX12_sign 1 = .ok (.bipush 61, 2) := by decide +kernel
theorem dX12_sign_3 : decode cX12_sign 3 = .ok (.if_icmp .eq 7, 3) := by decide +kernel
theorem dX12_sign_6 : decode cX12_sign 6 = .ok (.iconst 0, 1) := by decide +kernel
theorem dX12_sign_7 : decode cX12_sign 7 = .ok (.goto 37, 3) := by decide +kernel
theorem dX12_sign_10 : decode cX12_sign 10 = .ok (.iload_n 2, 1) := by decide +kernel
theorem dX12_sign_11 : decode cX12_sign 11 = .ok (.bipush 61, 2) := by decide +kernel
theorem dX12_sign_13 : decode cX12_sign 13 = .ok (.if_icmp .ne 8, 3) := by decide +kernel
theorem dX12_sign_16 : decode cX12_sign 16 = .ok (.bipush 11, 2) := by decide +kernel
theorem dX12_sign_18 : decode cX12_sign 18 = .ok (.goto 26, 3) := by decide +kernel
theorem dX12_sign_21 : decode cX12_sign 21 = .ok (.iload_n 2, 1) := by decide +kernel
theorem dX12_sign_22 : decode cX12_sign 22 = .ok (.bipush 33, 2) := by decide +kernel
theorem dX12_sign_24 : decode cX12_sign 24 = .ok (.if_icmp .ne 8, 3) := by decide +kernel
theorem dX12_sign_27 : decode cX12_sign 27 = .ok (.bipush 12, 2) := by decide +kernel
theorem dX12_sign_29 : decode cX12_sign 29 = .ok (.goto 15, 3) := by decide +kernel
theorem dX12_sign_32 : decode cX12_sign 32 = .ok (.iload_n 2, 1) := by decide +kernel
theorem dX12_sign_33 : decode cX12_sign 33 = .ok (.bipush 60, 2) := by decide +kernel
theorem dX12_sign_35 : decode cX12_sign 35 = .ok (.if_icmp .ne 8, 3) := by decide +kernel
theorem dX12_sign_38 : decode cX12_sign 38 = .ok (.bipush 14, 2) := by decide +kernel
theorem dX12_sign_40 : decode cX12_sign 40 = .ok (.goto 4, 3) := by decide +kernel
theorem dX12_sign_43 : decode cX12_sign 43 = .ok (.iconst 0, 1) := by decide +kernel
theorem dX12_sign_44 : decode cX12_sign 44 = .ok (.istore 4, 2) := by decide +kernel
theorem dX12_sign_46 : decode cX12_sign 46 = .ok (.iconst 3, 1) := by decide +kernel
theorem dX12_sign_47 : decode cX12_sign 47 = .ok (.istore 5, 2) := by decide +kernel
theorem dX12_sign_49 : decode cX12_sign 49 = .ok (.iload 4, 2) := by decide +kernel
theorem dX12_sign_51 : decode cX12_sign 51 = .ok (.ifCond .le 10, 3) := by decide +kernel
theorem dX12_sign_54 : decode cX12_sign 54 = .ok (.iload 4, 2) := by decide +kernel
theorem dX12_sign_56 : decode cX12_sign 56 = .ok (.istore 5, 2) := by decide +kernel
theorem dX12_sign_58 : decode cX12_sign 58 = .ok (.goto 90, 3) := by decide +kernel
theorem dX12_sign_61 : decode cX12_sign 61 = .ok (.iload_n 2, 1) := by decide +kernel
theorem dX12_sign_62 : decode cX12_sign 62 = .ok (.bipush 59, 2) := by decide +kernel
theorem dX12_sign_64 : decode cX12_sign 64 = .ok (.if_icmp .ne 9, 3) := by decide +kernel
theorem dX12_sign_67 : decode cX12_sign 67 = .ok (.iconst 4, 1) := by decide +kernel
theorem dX12_sign_68 : decode cX12_sign 68 = .ok (.istore 5, 2) := by decide +kernel
theorem dX12_sign_70 : decode cX12_sign 70 = .ok (.goto 78, 3) := by decide +kernel
theorem dX12_sign_73 : decode cX12_sign 73 = .ok (.iload_n 2, 1) := by decide +kernel
theorem dX12_sign_74 : decode cX12_sign 74 = .ok (.bipush 40, 2) := by decide +kernel
theorem dX12_sign_76 : decode cX12_sign 76 = .ok (.if_icmp .ne 10, 3) := by decide +kernel
theorem dX12_sign_79 : decode cX12_sign 79 = .ok (.bipush 6, 2) := by decide +kernel
theorem dX12_sign_81 : decode cX12_sign 81 = .ok (.istore 5, 2) := by decide +kernel
theorem dX12_sign_83 : decode cX12_sign 83 = .ok (.goto 65, 3) := by decide +kernel
theorem dX12_sign_86 : decode cX12_sign 86 = .ok (.iload_n 2, 1) := by decide +kernel
theorem dX12_sign_87 : decode cX12_sign 87 = .ok (.bipush 41, 2) := by decide +kernel
theorem dX12_sign_89 : decode cX12_sign 89 = .ok (.if_icmp .ne 10, 3) := by decide +kernel
theorem dX12_sign_92 : decode cX12_sign 92 = .ok (.bipush 7, 2) := by decide +kernel
theorem dX12_sign_94 : decode cX12_sign 94 = .ok (.istore 5, 2) := by decide +kernel
theorem dX12_sign_96 : decode cX12_sign 96 = .ok (.goto 52, 3) := by decide +kernel
theorem dX12_sign_99 : decode cX12_sign 99 = .ok (.iload_n 2, 1) := by decide +kernel
theorem dX12_sign_100 : decode cX12_sign 100 = .ok (.bipush 43, 2) := by decide +kernel
theorem dX12_sign_102 : decode cX12_sign 102 = .ok (.if_icmp .ne 10, 3) := by decide +kernel
theorem dX12_sign_105 : decode cX12_sign 105 = .ok (.bipush 8, 2) := by decide +kernel
theorem dX12_sign_107 : decode cX12_sign 107 = .ok (.istore 5, 2) := by decide +kernel
theorem dX12_sign_109 : decode cX12_sign 109 = .ok (.goto 39, 3) := by decide +kernel
theorem dX12_sign_112 : decode cX12_sign 112 = .ok (.iload_n 2, 1) := by decide +kernel
theorem dX12_sign_113 : decode cX12_sign 113 = .ok (.bipush 45, 2) := by decide +kernel
theorem dX12_sign_115 : decode cX12_sign 115 = .ok (.if_icmp .ne 10, 3) := by decide +kernel
theorem dX12_sign_118 : decode cX12_sign 118 = .ok (.bipush 9, 2) := by decide +kernel
theorem dX12_sign_120 : decode cX12_sign 120 = .ok (.istore 5, 2) := by decide +kernel
theorem dX12_sign_122 : decode cX12_sign 122 = .ok (.goto 26, 3) := by decide +kernel
theorem dX12_sign_125 : decode cX12_sign 125 = .ok (.iload_n 2, 1) := by decide +kernel
theorem dX12_sign_126 : decode cX12_sign 126 = .ok (.bipush 42, 2) := by decide +kernel
theorem dX12_sign_128 : decode cX12_sign 128 = .ok (.if_icmp .ne 10, 3) := by decide +kernel
theorem dX12_sign_131 : decode cX12_sign 131 = .ok (.bipush 10, 2) := by decide +kernel
theorem dX12_sign_133 : decode cX12_sign 133 = .ok (.istore 5, 2) := by decide +kernel
theorem dX12_sign_135 : decode cX12_sign 135 = .ok (.goto 13, 3) := by decide +kernel
theorem dX12_sign_138 : decode cX12_sign 138 = .ok (.iload_n 2, 1) := by decide +kernel
theorem dX12_sign_139 : decode cX12_sign 139 = .ok (.bipush 60, 2) := by decide +kernel
theorem dX12_sign_141 : decode cX12_sign 141 = .ok (.if_icmp .ne 7, 3) := by decide +kernel
theorem dX12_sign_144 : decode cX12_sign 144 = .ok (.bipush 13, 2) := by decide +kernel
theorem dX12_sign_146 : decode cX12_sign 146 = .ok (.istore 5, 2) := by decide +kernel
theorem dX12_sign_148 : decode cX12_sign 148 = .ok (.aload_n 0, 1) := by decide +kernel
theorem dX12_sign_149 : decode cX12_sign 149 = .ok (.iload 5, 2) := by decide +kernel
theorem dX12_sign_151 : decode cX12_sign 151 = .ok (.iload_n 1, 1) := by decide +kernel
theorem dX12_sign_152 : decode cX12_sign 152 = .ok (.iconst 0, 1) := by decide +kernel
theorem dX12_sign_153 : decode cX12_sign 153 = .ok (.lconst 0, 1) := by decide +kernel
theorem dX12_sign_154 : decode cX12_sign 154 = .ok (.invokevirtual 218, 3) := by decide +kernel
theorem dX12_sign_157 : decode cX12_sign 157 = .ok (.iload 4, 2) := by decide +kernel
theorem dX12_sign_159 : decode cX12_sign 159 = .ok (.ifCond .le 7, 3) := by decide +kernel
theorem dX12_sign_162 : decode cX12_sign 162 = .ok (.iconst 2, 1) := by decide +kernel
theorem dX12_sign_163 : decode cX12_sign 163 = .ok (.goto 4, 3) := by decide +kernel
theorem dX12_sign_166 : decode cX12_sign 166 = .ok (.iconst 1, 1) := by decide +kernel
theorem dX12_sign_167 : decode cX12_sign 167 = .ok (.ireturn, 1) := by decide +kernel
theorem dX12_is_0 : decode cX12_is 0 = .ok (.aload_n 0, 1) := by decide +kernel
theorem dX12_is_1 : decode cX12_is 1 = .ok (.getfield 233, 3) := by decide +kernel
theorem dX12_is_4 : decode cX12_is 4 = .ok (.ifCond .ne 20, 3) := by decide +kernel
theorem dX12_is_7 : decode cX12_is 7 = .ok (.aload_n 0, 1) := by decide +kernel
theorem dX12_is_8 : decode cX12_is 8 = .ok (.getfield 20, 3) := by decide +kernel
theorem dX12_is_11 : decode cX12_is 11 = .ok (.aload_n 0, 1) := by decide +kernel
theorem dX12_is_12 : decode cX12_is 12 = .ok (.getfield 236, 3) := by decide +kernel
theorem dX12_is_15 : decode cX12_is 15 = .ok (.iaload, 1) := by decide +kernel
theorem dX12_is_16 : decode cX12_is 16 = .ok (.iload_n 1, 1) := by decide +kernel
theorem dX12_is_17 : decode cX12_is 17 = .ok (.if_icmp .ne 7, 3) := by decide +kernel
theorem dX12_is_20 : decode cX12_is 20 = .ok (.iconst 1, 1) := by decide +kernel
theorem dX12_is_21 : decode cX12_is 21 = .ok (.goto 4, 3) := by decide +kernel
theorem dX12_is_24 : decode cX12_is 24 = .ok (.iconst 0, 1) := by decide +kernel
theorem dX12_is_25 : decode cX12_is 25 = .ok (.ireturn, 1) := by decide +kernel
theorem dX12_fail_0 : decode cX12_fail 0 = .ok (.aload_n 0, 1) := by decide +kernel
theorem dX12_fail_1 : decode cX12_fail 1 = .ok (.getfield 233, 3) := by decide +kernel
theorem dX12_fail_4 : decode cX12_fail 4 = .ok (.ifCond .le 4, 3) := by decide +kernel
theorem dX12_fail_7 : decode cX12_fail 7 = .ok (.return_, 1) := by decide +kernel
theorem dX12_fail_8 : decode cX12_fail 8 = .ok (.aload_n 0, 1) := by decide +kernel
theorem dX12_fail_9 : decode cX12_fail 9 = .ok (.iload_n 1, 1) := by decide +kernel
theorem dX12_fail_10 : decode cX12_fail 10 = .ok (.putfield 233, 3) := by decide +kernel
theorem dX12_fail_13 : decode cX12_fail 13 = .ok (.aload_n 0, 1) := by decide +kernel
theorem dX12_fail_14 : decode cX12_fail 14 = .ok (.aload_n 0, 1) := by decide +kernel
theorem dX12_fail_15 : decode cX12_fail 15 = .ok (.getfield 24, 3) := by decide +kernel
theorem dX12_fail_18 : decode cX12_fail 18 = .ok (.aload_n 0, 1) := by decide +kernel
theorem dX12_fail_19 : decode cX12_fail 19 = .ok (.getfield 236, 3) := by decide +kernel
theorem dX12_fail_22 : decode cX12_fail 22 = .ok (.iaload, 1) := by decide +kernel
theorem dX12_fail_23 : decode cX12_fail 23 = .ok (.putfield 239, 3) := by decide +kernel
theorem dX12_fail_26 : decode cX12_fail 26 = .ok (.return_, 1) := by decide +kernel
theorem dX12_wrong_0 : decode cX12_wrong 0 = .ok (.aload_n 0, 1) := by decide +kernel
theorem dX12_wrong_1 : decode cX12_wrong 1 = .ok (.getfield 24, 3) := by decide +kernel
theorem dX12_wrong_4 : decode cX12_wrong 4 = .ok (.iload_n 2, 1) := by decide +kernel
theorem dX12_wrong_5 : decode cX12_wrong 5 = .ok (.iaload, 1) := by decide +kernel
theorem dX12_wrong_6 : decode cX12_wrong 6 = .ok (.istore_n 3, 1) := by decide +kernel
theorem dX12_wrong_7 : decode cX12_wrong 7 = .ok (.aload_n 0, 1) := by decide +kernel
theorem dX12_wrong_8 : decode cX12_wrong 8 = .ok (.getfield 233, 3) := by decide +kernel
theorem dX12_wrong_11 : decode cX12_wrong 11 = .ok (.ifCond .gt 34, 3) := by decide +kernel
theorem dX12_wrong_14 : decode cX12_wrong 14 = .ok (.aload_n 0, 1) := by decide +kernel
theorem dX12_wrong_15 : decode cX12_wrong 15 = .ok (.getfield 242, 3) := by decide +kernel
theorem dX12_wrong_18 : decode cX12_wrong 18 = .ok (.ifCond .eq 28, 3) := by decide +kernel
theorem dX12_wrong_21 : decode cX12_wrong 21 = .ok (.iload_n 3, 1) := by decide +kernel
theorem dX12_wrong_22 : decode cX12_wrong 22 = .ok (.aload_n 0, 1) := by decide +kernel
theorem dX12_wrong_23 : decode cX12_wrong 23 = .ok (.getfield 245, 3) := by decide +kernel
theorem dX12_wrong_26 : decode cX12_wrong 26 = .ok (.if_icmp .gt 19, 3) := by decide +kernel
theorem dX12_wrong_29 : decode cX12_wrong 29 = .ok (.iload_n 3, 1) := by decide +kernel
theorem dX12_wrong_30 : decode cX12_wrong 30 = .ok (.aload_n 0, 1) := by decide +kernel
theorem dX12_wrong_31 : decode cX12_wrong 31 = .ok (.getfield 245, 3) := by decide +kernel
theorem dX12_wrong_34 : decode cX12_wrong 34 = .ok (.if_icmp .ne 12, 3) := by decide +kernel
theorem dX12_wrong_37 : decode cX12_wrong 37 = .ok (.iload_n 1, 1) := by decide +kernel
theorem dX12_wrong_38 : decode cX12_wrong 38 = .ok (.aload_n 0, 1) := by decide +kernel
theorem dX12_wrong_39 : decode cX12_wrong 39 = .ok (.getfield 242, 3) := by decide +kernel
theorem dX12_wrong_42 : decode cX12_wrong 42 = .ok (.if_icmp .lt 4, 3) := by decide +kernel
theorem dX12_wrong_45 : decode cX12_wrong 45 = .ok (.return_, 1) := by decide +kernel
theorem dX12_wrong_46 : decode cX12_wrong 46 = .ok (.aload_n 0, 1) := by decide +kernel
theorem dX12_wrong_47 : decode cX12_wrong 47 = .ok (.iload_n 1, 1) := by decide +kernel
theorem dX12_wrong_48 : decode cX12_wrong 48 = .ok (.putfield 242, 3) := by decide +kernel
theorem dX12_wrong_51 : decode cX12_wrong 51 = .ok (.aload_n 0, 1) := by decide +kernel
theorem dX12_wrong_52 : decode cX12_wrong 52 = .ok (.iload_n 3, 1) := by decide +kernel
theorem dX12_wrong_53 : decode cX12_wrong 53 = .ok (.putfield 245, 3) := by decide +kernel
theorem dX12_wrong_56 : decode cX12_wrong 56 = .ok (.return_, 1) := by decide +kernel
theorem dX12_next_0 : decode cX12_next 0 = .ok (.aload_n 0, 1) := by decide +kernel
theorem dX12_next_1 : decode cX12_next 1 = .ok (.getfield 236, 3) := by decide +kernel
theorem dX12_next_4 : decode cX12_next 4 = .ok (.sipush 400, 3) := by decide +kernel
theorem dX12_next_7 : decode cX12_next 7 = .ok (.if_icmp .ne 11, 3) := by decide +kernel
theorem dX12_next_10 : decode cX12_next 10 = .ok (.aload_n 0, 1) := by decide +kernel
theorem dX12_next_11 : decode cX12_next 11 = .ok (.iconst 2, 1) := by decide +kernel
theorem dX12_next_12 : decode cX12_next 12 = .ok (.invokevirtual 248, 3) := by decide +kernel
theorem dX12_next_15 : decode cX12_next 15 = .ok (.goto 13, 3) := by decide +kernel
theorem dX12_next_18 : decode cX12_next 18 = .ok (.aload_n 0, 1) := by decide +kernel
theorem dX12_next_19 : decode cX12_next 19 = .ok (.dup, 1) := by decide +kernel
theorem dX12_next_20 : decode cX12_next 20 = .ok (.getfield 236, 3) := by decide +kernel
theorem dX12_next_23 : decode cX12_next 23 = .ok (.iconst 1, 1) := by decide +kernel
theorem dX12_next_24 : decode cX12_next 24 = .ok (.iadd, 1) := by decide +kernel
theorem dX12_next_25 : decode cX12_next 25 = .ok (.putfield 236, 3) := by decide +kernel
theorem dX12_next_28 : decode cX12_next 28 = .ok (.return_, 1) := by decide +kernel
theorem dX12_must_0 : decode cX12_must 0 = .ok (.aload_n 0, 1) := by decide +kernel
theorem dX12_must_1 : decode cX12_must 1 = .ok (.iload_n 1, 1) := by decide +kernel
theorem dX12_must_2 : decode cX12_must 2 = .ok (.invokevirtual 251, 3) := by decide +kernel
theorem dX12_must_5 : decode cX12_must 5 = .ok (.ifCond .eq 10, 3) := by decide +kernel
theorem dX12_must_8 : decode cX12_must 8 = .ok (.aload_n 0, 1) := by decide +kernel
theorem dX12_must_9 : decode cX12_must 9 = .ok (.invokevirtual 254, 3) := by decide +kernel
theorem dX12_must_12 : decode cX12_must 12 = .ok (.goto 8, 3) := by decide +kernel
theorem dX12_must_15 : decode cX12_must 15 = .ok (.aload_n 0, 1) := by decide +kernel
theorem dX12_must_16 : decode cX12_must 16 = .ok (.iconst 1, 1) := by decide +kernel
theorem dX12_must_17 : decode cX12_must 17 = .ok (.invokevirtual 248, 3) := by decide +kernel
theorem dX12_must_20 : decode cX12_must 20 = .ok (.return_, 1) := by decide +kernel
theorem dX12_read_0 : decode cX12_read 0 = .ok (.aload_n 0, 1) := by decide +kernel
theorem dX12_read_1 : decode cX12_read 1 = .ok (.aload_n 0, 1) := by decide +kernel
theorem dX12_read_2 : decode cX12_read 2 = .ok (.getfield 195, 3) := by decide +kernel
theorem dX12_read_5 : decode cX12_read 5 = .ok (.putfield 202, 3) := by decide +kernel
theorem dX12_read_8 : decode cX12_read 8 = .ok (.iconst 0, 1) := by decide +kernel
theorem dX12_read_9 : decode cX12_read 9 = .ok (.istore_n 1, 1) := by decide +kernel
theorem dX12_read_10 : decode cX12_read 10 = .ok (.iload_n 1, 1) := by decide +kernel
theorem dX12_read_11 : decode cX12_read 11 = .ok (.aload_n 0, 1) := by decide +kernel
theorem dX12_read_12 : decode cX12_read 12 = .ok (.getfield 202, 3) := by decide +kernel
theorem dX12_read_15 : decode cX12_read 15 = .ok (.if_icmp .ge 21, 3) := by decide +kernel
theorem dX12_read_18 : decode cX12_read 18 = .ok (.aload_n 0, 1) := by decide +kernel
theorem dX12_read_19 : decode cX12_read 19 = .ok (.getfield 17, 3) := by decide +kernel
theorem dX12_read_22 : decode cX12_read 22 = .ok (.iload_n 1, 1) := by decide +kernel
theorem dX12_read_23 : decode cX12_read 23 = .ok (.aload_n 0, 1) := by decide +kernel
theorem dX12_read_24 : decode cX12_read 24 = .ok (.getfield 13, 3) := by decide +kernel
theorem dX12_read_27 : decode cX12_read 27 = .ok (.iload_n 1, 1) := by decide +kernel
theorem dX12_read_28 : decode cX12_read 28 = .ok (.baload, 1) := by decide +kernel
theorem dX12_read_29 : decode cX12_read 29 = .ok (.bastore, 1) := by decide +kernel
theorem dX12_read_30 : decode cX12_read 30 = .ok (.iinc 1 1, 3) := by decide +kernel
theorem dX12_read_33 : decode cX12_read 33 = .ok (.goto (-23), 3) := by decide +kernel
theorem dX12_read_36 : decode cX12_read 36 = .ok (.aload_n 0, 1) := by decide +kernel
theorem dX12_read_37 : decode cX12_read 37 = .ok (.iconst 0, 1) := by decide +kernel
theorem dX12_read_38 : decode cX12_read 38 = .ok (.putfield 195, 3) := by decide +kernel
theorem dX12_read_41 : decode cX12_read 41 = .ok (.aload_n 0, 1) := by decide +kernel
theorem dX12_read_42 : decode cX12_read 42 = .ok (.invokevirtual 257, 3) := by decide +kernel
theorem dX12_read_45 : decode cX12_read 45 = .ok (.aload_n 0, 1) := by decide +kernel
theorem dX12_read_46 : decode cX12_read 46 = .ok (.iconst 0, 1) := by decide +kernel
theorem dX12_read_47 : decode cX12_read 47 = .ok (.putfield 236, 3) := by decide +kernel
theorem dX12_read_50 : decode cX12_read 50 = .ok (.aload_n 0, 1) := by decide +kernel
theorem dX12_read_51 : decode cX12_read 51 = .ok (.iconst 0, 1) := by decide +kernel
theorem dX12_read_52 : decode cX12_read 52 = .ok (.putfield 260, 3) := by decide +kernel
theorem dX12_read_55 : decode cX12_read 55 = .ok (.aload_n 0, 1) := by decide +kernel
theorem dX12_read_56 : decode cX12_read 56 = .ok (.iconst 0, 1) := by decide +kernel
theorem dX12_read_57 : decode cX12_read 57 = .ok (.putfield 233, 3) := by decide +kernel
theorem dX12_read_60 : decode cX12_read 60 = .ok (.aload_n 0, 1) := by decide +kernel
theorem dX12_read_61 : decode cX12_read 61 = .ok (.iconst 0, 1) := by decide +kernel
theorem dX12_read_62 : decode cX12_read 62 = .ok (.putfield 242, 3) := by decide +kernel
theorem dX12_read_65 : decode cX12_read 65 = .ok (.aload_n 0, 1) := by decide +kernel
theorem dX12_read_66 : decode cX12_read 66 = .ok (.iconst 1, 1) := by decide +kernel
theorem dX12_read_67 : decode cX12_read 67 = .ok (.aload_n 0, 1) := by decide +kernel
theorem dX12_read_68 : decode cX12_read 68 = .ok (.getfield 263, 3) := by decide +kernel
theorem dX12_read_71 : decode cX12_read 71 = .ok (.isub, 1) := by decide +kernel
theorem dX12_read_72 : decode cX12_read 72 = .ok (.putfield 266, 3) := by decide +kernel
theorem dX12_read_75 : decode cX12_read 75 = .ok (.aload_n 0, 1) := by decide +kernel
theorem dX12_read_76 : decode cX12_read 76 = .ok (.getfield 40, 3) := by decide +kernel
theorem dX12_read_79 : decode cX12_read 79 = .ok (.aload_n 0, 1) := by decide +kernel
theorem dX12_read_80 : decode cX12_read 80 = .ok (.getfield 266, 3) := by decide +kernel
theorem dX12_read_83 : decode cX12_read 83 = .ok (.iconst 0, 1) := by decide +kernel
theorem dX12_read_84 : decode cX12_read 84 = .ok (.iastore, 1) := by decide +kernel
theorem dX12_read_85 : decode cX12_read 85 = .ok (.aload_n 0, 1) := by decide +kernel
theorem dX12_read_86 : decode cX12_read 86 = .ok (.getfield 49, 3) := by decide +kernel
theorem dX12_read_89 : decode cX12_read 89 = .ok (.aload_n 0, 1) := by decide +kernel
theorem dX12_read_90 : decode cX12_read 90 = .ok (.getfield 266, 3) := by decide +kernel
theorem dX12_read_93 : decode cX12_read 93 = .ok (.iconst 0, 1) := by decide +kernel
theorem dX12_read_94 : decode cX12_read 94 = .ok (.iastore, 1) := by decide +kernel
theorem dX12_read_95 : decode cX12_read 95 = .ok (.aload_n 0, 1) := by decide +kernel
theorem dX12_read_96 : decode cX12_read 96 = .ok (.sipush 500, 3) := by decide +kernel
theorem dX12_read_99 : decode cX12_read 99 = .ok (.aload_n 0, 1) := by decide +kernel
theorem dX12_read_100 : decode cX12_read 100 = .ok (.getfield 266, 3) := by decide +kernel
theorem dX12_read_103 : decode cX12_read 103 = .ok (.imul, 1) := by decide +kernel
theorem dX12_read_104 : decode cX12_read 104 = .ok (.putfield 269, 3) := by decide +kernel
theorem dX12_read_107 : decode cX12_read 107 = .ok (.aload_n 0, 1) := by decide +kernel
theorem dX12_read_108 : decode cX12_read 108 = .ok (.getfield 46, 3) := by decide +kernel
theorem dX12_read_111 : decode cX12_read 111 = .ok (.bipush 21, 2) := by decide +kernel
theorem dX12_read_113 : decode cX12_read 113 = .ok (.aload_n 0, 1) := by decide +kernel
theorem dX12_read_114 : decode cX12_read 114 = .ok (.getfield 266, 3) := by decide +kernel
theorem dX12_read_117 : decode cX12_read 117 = .ok (.imul, 1) := by decide +kernel
theorem dX12_read_118 : decode cX12_read 118 = .ok (.iconst 0, 1) := by decide +kernel
theorem dX12_read_119 : decode cX12_read 119 = .ok (.iastore, 1) := by decide +kernel
theorem dX12_read_120 : decode cX12_read 120 = .ok (.aload_n 0, 1) := by decide +kernel
theorem dX12_read_121 : decode cX12_read 121 = .ok (.getfield 233, 3) := by decide +kernel
theorem dX12_read_124 : decode cX12_read 124 = .ok (.ifCond .ne 18, 3) := by decide +kernel
theorem dX12_read_127 : decode cX12_read 127 = .ok (.aload_n 0, 1) := by decide +kernel
theorem dX12_read_128 : decode cX12_read 128 = .ok (.iconst 0, 1) := by decide +kernel
theorem dX12_read_129 : decode cX12_read 129 = .ok (.invokevirtual 251, 3) := by decide +kernel
theorem dX12_read_132 : decode cX12_read 132 = .ok (.ifCond .ne 10, 3) := by decide +kernel
theorem dX12_read_135 : decode cX12_read 135 = .ok (.aload_n 0, 1) := by decide +kernel
theorem dX12_read_136 : decode cX12_read 136 = .ok (.invokevirtual 272, 3) := by decide +kernel
theorem dX12_read_139 : decode cX12_read 139 = .ok (.goto (-19), 3) := by decide +kernel
theorem dX12_read_142 : decode cX12_read 142 = .ok (.aload_n 0, 1) := by decide +kernel
theorem dX12_read_143 : decode cX12_read 143 = .ok (.aload_n 0, 1) := by decide +kernel
theorem dX12_read_144 : decode cX12_read 144 = .ok (.getfield 233, 3) := by decide +kernel
theorem dX12_read_147 : decode cX12_read 147 = .ok (.ifCond .le 10, 3) := by decide +kernel
theorem dX12_read_150 : decode cX12_read 150 = .ok (.aload_n 0, 1) := by decide +kernel
theorem dX12_read_151 : decode cX12_read 151 = .ok (.getfield 239, 3) := by decide +kernel
theorem dX12_read_154 : decode cX12_read 154 = .ok (.goto 18, 3) := by decide +kernel
theorem dX12_read_157 : decode cX12_read 157 = .ok (.aload_n 0, 1) := by decide +kernel
theorem dX12_read_158 : decode cX12_read 158 = .ok (.getfield 242, 3) := by decide +kernel
theorem dX12_read_161 : decode cX12_read 161 = .ok (.ifCond .le 10, 3) := by decide +kernel
theorem dX12_read_164 : decode cX12_read 164 = .ok (.aload_n 0, 1) := by decide +kernel
theorem dX12_read_165 : decode cX12_read 165 = .ok (.getfield 245, 3) := by decide +kernel
theorem dX12_read_168 : decode cX12_read 168 = .ok (.goto 4, 3) := by decide +kernel
theorem dX12_read_171 : decode cX12_read 171 = .ok (.iconst (-1), 1) := by decide +kernel
theorem dX12_read_172 : decode cX12_read 172 = .ok (.putfield 37, 3) := by decide +kernel
theorem dX12_read_175 : decode cX12_read 175 = .ok (.aload_n 0, 1) := by decide +kernel
theorem dX12_read_176 : decode cX12_read 176 = .ok (.getfield 233, 3) := by decide +kernel
theorem dX12_read_179 : decode cX12_read 179 = .ok (.ifCond .le 8, 3) := by decide +kernel
theorem dX12_read_182 : decode cX12_read 182 = .ok (.aload_n 0, 1) := by decide +kernel
theorem dX12_read_183 : decode cX12_read 183 = .ok (.getfield 233, 3) := by decide +kernel
theorem dX12_read_186 : decode cX12_read 186 = .ok (.ireturn, 1) := by decide +kernel
theorem dX12_read_187 : decode cX12_read 187 = .ok (.aload_n 0, 1) := by decide +kernel
theorem dX12_read_188 : decode cX12_read 188 = .ok (.getfield 242, 3) := by decide +kernel
theorem dX12_read_191 : decode cX12_read 191 = .ok (.ifCond .le 8, 3) := by decide +kernel
theorem dX12_read_194 : decode cX12_read 194 = .ok (.aload_n 0, 1) := by decide +kernel
theorem dX12_read_195 : decode cX12_read 195 = .ok (.getfield 242, 3) := by decide +kernel
theorem dX12_read_198 : decode cX12_read 198 = .ok (.ireturn, 1) := by decide +kernel
theorem dX12_read_199 : decode cX12_read 199 = .ok (.aload_n 0, 1) := by decide +kernel
theorem dX12_read_200 : decode cX12_read 200 = .ok (.aload_n 0, 1) := by decide +kernel
theorem dX12_read_201 : decode cX12_read 201 = .ok (.getfield 266, 3) := by decide +kernel
theorem dX12_read_204 : decode cX12_read 204 = .ok (.putfield 263, 3) := by decide +kernel
theorem dX12_read_207 : decode cX12_read 207 = .ok (.iconst 0, 1) := by decide +kernel
theorem dX12_read_208 : decode cX12_read 208 = .ok (.ireturn, 1) := by decide +kernel
theorem dX12_place_0 : decode cX12_place 0 = .ok (.aload_n 0, 1) := by decide +kernel
theorem dX12_place_1 : decode cX12_place 1 = .ok (.getfield 37, 3) := by decide +kernel
theorem dX12_place_4 : decode cX12_place 4 = .ok (.ireturn, 1) := by decide +kernel
theorem dX12_tellRule_0 : decode cX12_tellRule 0 = .ok (.aload_n 0, 1) := by decide +kernel
theorem dX12_tellRule_1 : decode cX12_tellRule 1 = .ok (.bipush 20, 2) := by decide +kernel
theorem dX12_tellRule_3 : decode cX12_tellRule 3 = .ok (.invokevirtual 251, 3) := by decide +kernel
theorem dX12_tellRule_6 : decode cX12_tellRule 6 = .ok (.ifCond .ne 20, 3) := by decide +kernel
theorem dX12_tellRule_9 : decode cX12_tellRule 9 = .ok (.aload_n 0, 1) := by decide +kernel
theorem dX12_tellRule_10 : decode cX12_tellRule 10 = .ok (.bipush 22, 2) := by decide +kernel
theorem dX12_tellRule_12 : decode cX12_tellRule 12 = .ok (.invokevirtual 251, 3) := by decide +kernel
theorem dX12_tellRule_15 : decode cX12_tellRule 15 = .ok (.ifCond .ne 11, 3) := by decide +kernel
theorem dX12_tellRule_18 : decode cX12_tellRule 18 = .ok (.aload_n 0, 1) := by decide +kernel
theorem dX12_tellRule_19 : decode cX12_tellRule 19 = .ok (.iconst 1, 1) := by decide +kernel
theorem dX12_tellRule_20 : decode cX12_tellRule 20 = .ok (.invokevirtual 248, 3) := by decide +kernel
theorem dX12_tellRule_23 : decode cX12_tellRule 23 = .ok (.goto 22, 3) := by decide +kernel
theorem dX12_tellRule_26 : decode cX12_tellRule 26 = .ok (.aload_n 0, 1) := by decide +kernel
theorem dX12_tellRule_27 : decode cX12_tellRule 27 = .ok (.getfield 40, 3) := by decide +kernel
theorem dX12_tellRule_30 : decode cX12_tellRule 30 = .ok (.aload_n 0, 1) := by decide +kernel
theorem dX12_tellRule_31 : decode cX12_tellRule 31 = .ok (.getfield 266, 3) := by decide +kernel
theorem dX12_tellRule_34 : decode cX12_tellRule 34 = .ok (.iaload, 1) := by decide +kernel
theorem dX12_tellRule_35 : decode cX12_tellRule 35 = .ok (.bipush 20, 2) := by decide +kernel
theorem dX12_tellRule_37 : decode cX12_tellRule 37 = .ok (.if_icmp .ne 8, 3) := by decide +kernel
theorem dX12_tellRule_40 : decode cX12_tellRule 40 = .ok (.aload_n 0, 1) := by decide +kernel
theorem dX12_tellRule_41 : decode cX12_tellRule 41 = .ok (.iconst 2, 1) := by decide +kernel
theorem dX12_tellRule_42 : decode cX12_tellRule 42 = .ok (.invokevirtual 248, 3) := by decide +kernel
theorem dX12_tellRule_45 : decode cX12_tellRule 45 = .ok (.aload_n 0, 1) := by decide +kernel
theorem dX12_tellRule_46 : decode cX12_tellRule 46 = .ok (.getfield 233, 3) := by decide +kernel
theorem dX12_tellRule_49 : decode cX12_tellRule 49 = .ok (.ifCond .le 4, 3) := by decide +kernel
theorem dX12_tellRule_52 : decode cX12_tellRule 52 = .ok (.return_, 1) := by decide +kernel
theorem dX12_tellRule_53 : decode cX12_tellRule 53 = .ok (.bipush 20, 2) := by decide +kernel
theorem dX12_tellRule_55 : decode cX12_tellRule 55 = .ok (.aload_n 0, 1) := by decide +kernel
theorem dX12_tellRule_56 : decode cX12_tellRule 56 = .ok (.getfield 266, 3) := by decide +kernel
theorem dX12_tellRule_59 : decode cX12_tellRule 59 = .ok (.imul, 1) := by decide +kernel
theorem dX12_tellRule_60 : decode cX12_tellRule 60 = .ok (.aload_n 0, 1) := by decide +kernel
theorem dX12_tellRule_61 : decode cX12_tellRule 61 = .ok (.getfield 40, 3) := by decide +kernel
theorem dX12_tellRule_64 : decode cX12_tellRule 64 = .ok (.aload_n 0, 1) := by decide +kernel
theorem dX12_tellRule_65 : decode cX12_tellRule 65 = .ok (.getfield 266, 3) := by decide +kernel
theorem dX12_tellRule_68 : decode cX12_tellRule 68 = .ok (.iaload, 1) := by decide +kernel
theorem dX12_tellRule_69 : decode cX12_tellRule 69 = .ok (.iadd, 1) := by decide +kernel
theorem dX12_tellRule_70 : decode cX12_tellRule 70 = .ok (.istore_n 1, 1) := by decide +kernel
theorem dX12_tellRule_71 : decode cX12_tellRule 71 = .ok (.aload_n 0, 1) := by decide +kernel
theorem dX12_tellRule_72 : decode cX12_tellRule 72 = .ok (.getfield 43, 3) := by decide +kernel
theorem dX12_tellRule_75 : decode cX12_tellRule 75 = .ok (.iload_n 1, 1) := by decide +kernel
theorem dX12_tellRule_76 : decode cX12_tellRule 76 = .ok (.iconst 0, 1) := by decide +kernel
theorem dX12_tellRule_77 : decode cX12_tellRule 77 = .ok (.iastore, 1) := by decide +kernel
theorem dX12_tellRule_78 : decode cX12_tellRule 78 = .ok (.aload_n 0, 1) := by decide +kernel
theorem dX12_tellRule_79 : decode cX12_tellRule 79 = .ok (.bipush 20, 2) := by decide +kernel
theorem dX12_tellRule_81 : decode cX12_tellRule 81 = .ok (.invokevirtual 251, 3) := by decide +kernel
theorem dX12_tellRule_84 : decode cX12_tellRule 84 = .ok (.istore_n 2, 1) := by decide +kernel
theorem dX12_tellRule_85 : decode cX12_tellRule 85 = .ok (.aload_n 0, 1) := by decide +kernel
theorem dX12_tellRule_86 : decode cX12_tellRule 86 = .ok (.invokevirtual 254, 3) := by decide +kernel
theorem dX12_tellRule_89 : decode cX12_tellRule 89 = .ok (.iload_n 2, 1) := by decide +kernel
theorem dX12_tellRule_90 : decode cX12_tellRule 90 = .ok (.ifCond .eq 61, 3) := by decide +kernel
theorem dX12_tellRule_93 : decode cX12_tellRule 93 = .ok (.aload_n 0, 1) := by decide +kernel
theorem dX12_tellRule_94 : decode cX12_tellRule 94 = .ok (.getfield 236, 3) := by decide +kernel
theorem dX12_tellRule_97 : decode cX12_tellRule 97 = .ok (.istore_n 3, 1) := by decide +kernel
theorem dX12_tellRule_98 : decode cX12_tellRule 98 = .ok (.aload_n 0, 1) := by decide +kernel
theorem dX12_tellRule_99 : decode cX12_tellRule 99 = .ok (.iconst 2, 1) := by decide +kernel
theorem dX12_tellRule_100 : decode cX12_tellRule 100 = .ok (.invokevirtual 275, 3) := by decide +kernel
theorem dX12_tellRule_103 : decode cX12_tellRule 103 = .ok (.aload_n 0, 1) := by decide +kernel
theorem dX12_tellRule_104 : decode cX12_tellRule 104 = .ok (.getfield 233, 3) := by decide +kernel
theorem dX12_tellRule_107 : decode cX12_tellRule 107 = .ok (.ifCond .le 4, 3) := by decide +kernel
theorem dX12_tellRule_110 : decode cX12_tellRule 110 = .ok (.return_, 1) := by decide +kernel
theorem dX12_tellRule_111 : decode cX12_tellRule 111 = .ok (.aload_n 0, 1) := by decide +kernel
theorem dX12_tellRule_112 : decode cX12_tellRule 112 = .ok (.getfield 43, 3) := by decide +kernel
theorem dX12_tellRule_115 : decode cX12_tellRule 115 = .ok (.iload_n 1, 1) := by decide +kernel
theorem dX12_tellRule_116 : decode cX12_tellRule 116 = .ok (.aload_n 0, 1) := by decide +kernel
theorem dX12_tellRule_117 : decode cX12_tellRule 117 = .ok (.getfield 27, 3) := by decide +kernel
theorem dX12_tellRule_120 : decode cX12_tellRule 120 = .ok (.iload_n 3, 1) := by decide +kernel
theorem dX12_tellRule_121 : decode cX12_tellRule 121 = .ok (.iaload, 1) := by decide +kernel
theorem dX12_tellRule_122 : decode cX12_tellRule 122 = .ok (.iastore, 1) := by decide +kernel
theorem dX12_tellRule_123 : decode cX12_tellRule 123 = .ok (.aload_n 0, 1) := by decide +kernel
theorem dX12_tellRule_124 : decode cX12_tellRule 124 = .ok (.getfield 27, 3) := by decide +kernel
theorem dX12_tellRule_127 : decode cX12_tellRule 127 = .ok (.iload_n 3, 1) := by decide +kernel
theorem dX12_tellRule_128 : decode cX12_tellRule 128 = .ok (.iaload, 1) := by decide +kernel
theorem dX12_tellRule_129 : decode cX12_tellRule 129 = .ok (.iconst 1, 1) := by decide +kernel
theorem dX12_tellRule_130 : decode cX12_tellRule 130 = .ok (.if_icmp .lt 15, 3) := by decide +kernel
theorem dX12_tellRule_133 : decode cX12_tellRule 133 = .ok (.aload_n 0, 1) := by decide +kernel
theorem dX12_tellRule_134 : decode cX12_tellRule 134 = .ok (.getfield 27, 3) := by decide +kernel
theorem dX12_tellRule_137 : decode cX12_tellRule 137 = .ok (.iload_n 3, 1) := by decide +kernel
theorem dX12_tellRule_138 : decode cX12_tellRule 138 = .ok (.iaload, 1) := by decide +kernel
theorem dX12_tellRule_139 : decode cX12_tellRule 139 = .ok (.sipush 1000, 3) := by decide +kernel
theorem dX12_tellRule_142 : decode cX12_tellRule 142 = .ok (.if_icmp .le 9, 3) := by decide +kernel
theorem dX12_tellRule_145 : decode cX12_tellRule 145 = .ok (.aload_n 0, 1) := by decide +kernel
theorem dX12_tellRule_146 : decode cX12_tellRule 146 = .ok (.iconst 5, 1) := by decide +kernel
theorem dX12_tellRule_147 : decode cX12_tellRule 147 = .ok (.iload_n 3, 1) := by decide +kernel
theorem dX12_tellRule_148 : decode cX12_tellRule 148 = .ok (.invokevirtual 278, 3) := by decide +kernel
theorem dX12_tellRule_151 : decode cX12_tellRule 151 = .ok (.aload_n 0, 1) := by decide +kernel
theorem dX12_tellRule_152 : decode cX12_tellRule 152 = .ok (.bipush 21, 2) := by decide +kernel
theorem dX12_tellRule_154 : decode cX12_tellRule 154 = .ok (.invokevirtual 275, 3) := by decide +kernel
theorem dX12_tellRule_157 : decode cX12_tellRule 157 = .ok (.iconst 1, 1) := by decide +kernel
theorem dX12_tellRule_158 : decode cX12_tellRule 158 = .ok (.istore_n 3, 1) := by decide +kernel
theorem dX12_tellRule_159 : decode cX12_tellRule 159 = .ok (.iconst 1, 1) := by decide +kernel
theorem dX12_tellRule_160 : decode cX12_tellRule 160 = .ok (.istore 4, 2) := by decide +kernel
theorem dX12_tellRule_162 : decode cX12_tellRule 162 = .ok (.iload 4, 2) := by decide +kernel
theorem dX12_tellRule_164 : decode cX12_tellRule 164 = .ok (.ifCond .eq 54, 3) := by decide +kernel
theorem dX12_tellRule_167 : decode cX12_tellRule 167 = .ok (.aload_n 0, 1) := by decide +kernel
theorem dX12_tellRule_168 : decode cX12_tellRule 168 = .ok (.getfield 233, 3) := by decide +kernel
theorem dX12_tellRule_171 : decode cX12_tellRule 171 = .ok (.ifCond .ne 47, 3) := by decide +kernel
theorem dX12_tellRule_174 : decode cX12_tellRule 174 = .ok (.aload_n 0, 1) := by decide +kernel
theorem dX12_tellRule_175 : decode cX12_tellRule 175 = .ok (.iload_n 3, 1) := by decide +kernel
theorem dX12_tellRule_176 : decode cX12_tellRule 176 = .ok (.invokevirtual 282, 3) := by decide +kernel
theorem dX12_tellRule_179 : decode cX12_tellRule 179 = .ok (.aload_n 0, 1) := by decide +kernel
theorem dX12_tellRule_180 : decode cX12_tellRule 180 = .ok (.bipush 23, 2) := by decide +kernel
theorem dX12_tellRule_182 : decode cX12_tellRule 182 = .ok (.invokevirtual 251, 3) := by decide +kernel
theorem dX12_tellRule_185 : decode cX12_tellRule 185 = .ok (.istore_n 3, 1) := by decide +kernel
theorem dX12_tellRule_186 : decode cX12_tellRule 186 = .ok (.iload_n 3, 1) := by decide +kernel
theorem dX12_tellRule_187 : decode cX12_tellRule 187 = .ok (.ifCond .ne 12, 3) := by decide +kernel
theorem dX12_tellRule_190 : decode cX12_tellRule 190 = .ok (.aload_n 0, 1) := by decide +kernel
theorem dX12_tellRule_191 : decode cX12_tellRule 191 = .ok (.bipush 24, 2) := by decide +kernel
theorem dX12_tellRule_193 : decode cX12_tellRule 193 = .ok (.invokevirtual 251, 3) := by decide +kernel
theorem dX12_tellRule_196 : decode cX12_tellRule 196 = .ok (.ifCond .eq 7, 3) := by decide +kernel
theorem dX12_tellRule_199 : decode cX12_tellRule 199 = .ok (.iconst 1, 1) := by decide +kernel
theorem dX12_tellRule_200 : decode cX12_tellRule 200 = .ok (.goto 4, 3) := by decide +kernel
theorem dX12_tellRule_203 : decode cX12_tellRule 203 = .ok (.iconst 0, 1) := by decide +kernel
theorem dX12_tellRule_204 : decode cX12_tellRule 204 = .ok (.istore 4, 2) := by decide +kernel
theorem dX12_tellRule_206 : decode cX12_tellRule 206 = .ok (.iload 4, 2) := by decide +kernel
theorem dX12_tellRule_208 : decode cX12_tellRule 208 = .ok (.ifCond .eq (-46), 3) := by decide +kernel
theorem dX12_tellRule_211 : decode cX12_tellRule 211 = .ok (.aload_n 0, 1) := by decide +kernel
theorem dX12_tellRule_212 : decode cX12_tellRule 212 = .ok (.invokevirtual 254, 3) := by decide +kernel
theorem dX12_tellRule_215 : decode cX12_tellRule 215 = .ok (.goto (-53), 3) := by decide +kernel
theorem dX12_tellRule_218 : decode cX12_tellRule 218 = .ok (.aload_n 0, 1) := by decide +kernel
theorem dX12_tellRule_219 : decode cX12_tellRule 219 = .ok (.iconst 4, 1) := by decide +kernel
theorem dX12_tellRule_220 : decode cX12_tellRule 220 = .ok (.invokevirtual 275, 3) := by decide +kernel
theorem dX12_tellRule_223 : decode cX12_tellRule 223 = .ok (.aload_n 0, 1) := by decide +kernel
theorem dX12_tellRule_224 : decode cX12_tellRule 224 = .ok (.getfield 233, 3) := by decide +kernel
theorem dX12_tellRule_227 : decode cX12_tellRule 227 = .ok (.ifCond .le 4, 3) := by decide +kernel
theorem dX12_tellRule_230 : decode cX12_tellRule 230 = .ok (.return_, 1) := by decide +kernel
theorem dX12_tellRule_231 : decode cX12_tellRule 231 = .ok (.aload_n 0, 1) := by decide +kernel
theorem dX12_tellRule_232 : decode cX12_tellRule 232 = .ok (.getfield 40, 3) := by decide +kernel
theorem dX12_tellRule_235 : decode cX12_tellRule 235 = .ok (.aload_n 0, 1) := by decide +kernel
theorem dX12_tellRule_236 : decode cX12_tellRule 236 = .ok (.getfield 266, 3) := by decide +kernel
theorem dX12_tellRule_239 : decode cX12_tellRule 239 = .ok (.dup2, 1) := by decide +kernel
theorem dX12_tellRule_240 : decode cX12_tellRule 240 = .ok (.iaload, 1) := by decide +kernel
theorem dX12_tellRule_241 : decode cX12_tellRule 241 = .ok (.iconst 1, 1) := by decide +kernel
theorem dX12_tellRule_242 : decode cX12_tellRule 242 = .ok (.iadd, 1) := by decide +kernel
theorem dX12_tellRule_243 : decode cX12_tellRule 243 = .ok (.iastore, 1) := by decide +kernel
theorem dX12_tellRule_244 : decode cX12_tellRule 244 = .ok (.aload_n 0, 1) := by decide +kernel
theorem dX12_tellRule_245 : decode cX12_tellRule 245 = .ok (.getfield 46, 3) := by decide +kernel
theorem dX12_tellRule_248 : decode cX12_tellRule 248 = .ok (.bipush 21, 2) := by decide +kernel
theorem dX12_tellRule_250 : decode cX12_tellRule 250 = .ok (.aload_n 0, 1) := by decide +kernel
theorem dX12_tellRule_251 : decode cX12_tellRule 251 = .ok (.getfield 266, 3) := by decide +kernel
theorem dX12_tellRule_254 : decode cX12_tellRule 254 = .ok (.imul, 1) := by decide +kernel
theorem dX12_tellRule_255 : decode cX12_tellRule 255 = .ok (.aload_n 0, 1) := by decide +kernel
theorem dX12_tellRule_256 : decode cX12_tellRule 256 = .ok (.getfield 40, 3) := by decide +kernel
theorem dX12_tellRule_259 : decode cX12_tellRule 259 = .ok (.aload_n 0, 1) := by decide +kernel
theorem dX12_tellRule_260 : decode cX12_tellRule 260 = .ok (.getfield 266, 3) := by decide +kernel
theorem dX12_tellRule_263 : decode cX12_tellRule 263 = .ok (.iaload, 1) := by decide +kernel
theorem dX12_tellRule_264 : decode cX12_tellRule 264 = .ok (.iadd, 1) := by decide +kernel
theorem dX12_tellRule_265 : decode cX12_tellRule 265 = .ok (.aload_n 0, 1) := by decide +kernel
theorem dX12_tellRule_266 : decode cX12_tellRule 266 = .ok (.getfield 49, 3) := by decide +kernel
theorem dX12_tellRule_269 : decode cX12_tellRule 269 = .ok (.aload_n 0, 1) := by decide +kernel
theorem dX12_tellRule_270 : decode cX12_tellRule 270 = .ok (.getfield 266, 3) := by decide +kernel
theorem dX12_tellRule_273 : decode cX12_tellRule 273 = .ok (.iaload, 1) := by decide +kernel
theorem dX12_tellRule_274 : decode cX12_tellRule 274 = .ok (.iastore, 1) := by decide +kernel
theorem dX12_tellRule_275 : decode cX12_tellRule 275 = .ok (.return_, 1) := by decide +kernel
theorem dX12_literal_0 : decode cX12_literal 0 = .ok (.aload_n 0, 1) := by decide +kernel
theorem dX12_literal_1 : decode cX12_literal 1 = .ok (.getfield 269, 3) := by decide +kernel
theorem dX12_literal_4 : decode cX12_literal 4 = .ok (.istore_n 2, 1) := by decide +kernel
theorem dX12_literal_5 : decode cX12_literal 5 = .ok (.aload_n 0, 1) := by decide +kernel
theorem dX12_literal_6 : decode cX12_literal 6 = .ok (.getfield 269, 3) := by decide +kernel
theorem dX12_literal_9 : decode cX12_literal 9 = .ok (.istore_n 3, 1) := by decide +kernel
theorem dX12_literal_10 : decode cX12_literal 10 = .ok (.iconst 4, 1) := by decide +kernel
theorem dX12_literal_11 : decode cX12_literal 11 = .ok (.istore 4, 2) := by decide +kernel
theorem dX12_literal_13 : decode cX12_literal 13 = .ok (.aload_n 0, 1) := by decide +kernel
theorem dX12_literal_14 : decode cX12_literal 14 = .ok (.bipush 25, 2) := by decide +kernel
theorem dX12_literal_16 : decode cX12_literal 16 = .ok (.invokevirtual 251, 3) := by decide +kernel
theorem dX12_literal_19 : decode cX12_literal 19 = .ok (.ifCond .ne 12, 3) := by decide +kernel
theorem dX12_literal_22 : decode cX12_literal 22 = .ok (.aload_n 0, 1) := by decide +kernel
theorem dX12_literal_23 : decode cX12_literal 23 = .ok (.bipush 26, 2) := by decide +kernel
theorem dX12_literal_25 : decode cX12_literal 25 = .ok (.invokevirtual 251, 3) := by decide +kernel
theorem dX12_literal_28 : decode cX12_literal 28 = .ok (.ifCond .eq 22, 3) := by decide +kernel
theorem dX12_literal_31 : decode cX12_literal 31 = .ok (.aload_n 0, 1) := by decide +kernel
theorem dX12_literal_32 : decode cX12_literal 32 = .ok (.bipush 26, 2) := by decide +kernel
theorem dX12_literal_34 : decode cX12_literal 34 = .ok (.invokevirtual 251, 3) := by decide +kernel
theorem dX12_literal_37 : decode cX12_literal 37 = .ok (.ifCond .eq 6, 3) := by decide +kernel
theorem dX12_literal_40 : decode cX12_literal 40 = .ok (.iconst 5, 1) := by decide +kernel
theorem dX12_literal_41 : decode cX12_literal 41 = .ok (.istore 4, 2) := by decide +kernel
theorem dX12_literal_43 : decode cX12_literal 43 = .ok (.aload_n 0, 1) := by decide +kernel
theorem dX12_literal_44 : decode cX12_literal 44 = .ok (.invokevirtual 254, 3) := by decide +kernel
theorem dX12_literal_47 : decode cX12_literal 47 = .ok (.goto 68, 3) := by decide +kernel
theorem dX12_literal_50 : decode cX12_literal 50 = .ok (.aload_n 0, 1) := by decide +kernel
theorem dX12_literal_51 : decode cX12_literal 51 = .ok (.invokevirtual 286, 3) := by decide +kernel
theorem dX12_literal_54 : decode cX12_literal 54 = .ok (.aload_n 0, 1) := by decide +kernel
theorem dX12_literal_55 : decode cX12_literal 55 = .ok (.getfield 233, 3) := by decide +kernel
theorem dX12_literal_58 : decode cX12_literal 58 = .ok (.ifCond .le 7, 3) := by decide +kernel
theorem dX12_literal_61 : decode cX12_literal 61 = .ok (.iconst 0, 1) := by decide +kernel
theorem dX12_literal_62 : decode cX12_literal 62 = .ok (.goto 15, 3) := by decide +kernel
theorem dX12_literal_65 : decode cX12_literal 65 = .ok (.aload_n 0, 1) := by decide +kernel
theorem dX12_literal_66 : decode cX12_literal 66 = .ok (.getfield 20, 3) := by decide +kernel
theorem dX12_literal_69 : decode cX12_literal 69 = .ok (.aload_n 0, 1) := by decide +kernel
theorem dX12_literal_70 : decode cX12_literal 70 = .ok (.getfield 236, 3) := by decide +kernel
theorem dX12_literal_73 : decode cX12_literal 73 = .ok (.iaload, 1) := by decide +kernel
theorem dX12_literal_74 : decode cX12_literal 74 = .ok (.bipush 11, 2) := by decide +kernel
theorem dX12_literal_76 : decode cX12_literal 76 = .ok (.isub, 1) := by decide +kernel
theorem dX12_literal_77 : decode cX12_literal 77 = .ok (.istore 4, 2) := by decide +kernel
theorem dX12_literal_79 : decode cX12_literal 79 = .ok (.aload_n 0, 1) := by decide +kernel
theorem dX12_literal_80 : decode cX12_literal 80 = .ok (.getfield 233, 3) := by decide +kernel
theorem dX12_literal_83 : decode cX12_literal 83 = .ok (.ifCond .ne 19, 3) := by decide +kernel
theorem dX12_literal_86 : decode cX12_literal 86 = .ok (.iload 4, 2) := by decide +kernel
theorem dX12_literal_88 : decode cX12_literal 88 = .ok (.ifCond .lt 9, 3) := by decide +kernel
theorem dX12_literal_91 : decode cX12_literal 91 = .ok (.iload 4, 2) := by decide +kernel
theorem dX12_literal_93 : decode cX12_literal 93 = .ok (.iconst 3, 1) := by decide +kernel
theorem dX12_literal_94 : decode cX12_literal 94 = .ok (.if_icmp .le 8, 3) := by decide +kernel
theorem dX12_literal_97 : decode cX12_literal 97 = .ok (.aload_n 0, 1) := by decide +kernel
theorem dX12_literal_98 : decode cX12_literal 98 = .ok (.iconst 1, 1) := by decide +kernel
theorem dX12_literal_99 : decode cX12_literal 99 = .ok (.invokevirtual 248, 3) := by decide +kernel
theorem dX12_literal_102 : decode cX12_literal 102 = .ok (.aload_n 0, 1) := by decide +kernel
theorem dX12_literal_103 : decode cX12_literal 103 = .ok (.invokevirtual 254, 3) := by decide +kernel
theorem dX12_literal_106 : decode cX12_literal 106 = .ok (.aload_n 0, 1) := by decide +kernel
theorem dX12_literal_107 : decode cX12_literal 107 = .ok (.getfield 269, 3) := by decide +kernel
theorem dX12_literal_110 : decode cX12_literal 110 = .ok (.istore_n 3, 1) := by decide +kernel
theorem dX12_literal_111 : decode cX12_literal 111 = .ok (.aload_n 0, 1) := by decide +kernel
theorem dX12_literal_112 : decode cX12_literal 112 = .ok (.invokevirtual 286, 3) := by decide +kernel
theorem dX12_literal_115 : decode cX12_literal 115 = .ok (.aload_n 0, 1) := by decide +kernel
theorem dX12_literal_116 : decode cX12_literal 116 = .ok (.getfield 233, 3) := by decide +kernel
theorem dX12_literal_119 : decode cX12_literal 119 = .ok (.ifCond .le 4, 3) := by decide +kernel
theorem dX12_literal_122 : decode cX12_literal 122 = .ok (.return_, 1) := by decide +kernel
theorem dX12_literal_123 : decode cX12_literal 123 = .ok (.sipush 400, 3) := by decide +kernel
theorem dX12_literal_126 : decode cX12_literal 126 = .ok (.aload_n 0, 1) := by decide +kernel
theorem dX12_literal_127 : decode cX12_literal 127 = .ok (.getfield 266, 3) := by decide +kernel
theorem dX12_literal_130 : decode cX12_literal 130 = .ok (.imul, 1) := by decide +kernel
theorem dX12_literal_131 : decode cX12_literal 131 = .ok (.aload_n 0, 1) := by decide +kernel
theorem dX12_literal_132 : decode cX12_literal 132 = .ok (.getfield 49, 3) := by decide +kernel
theorem dX12_literal_135 : decode cX12_literal 135 = .ok (.aload_n 0, 1) := by decide +kernel
theorem dX12_literal_136 : decode cX12_literal 136 = .ok (.getfield 266, 3) := by decide +kernel
theorem dX12_literal_139 : decode cX12_literal 139 = .ok (.iaload, 1) := by decide +kernel
theorem dX12_literal_140 : decode cX12_literal 140 = .ok (.iadd, 1) := by decide +kernel
theorem dX12_literal_141 : decode cX12_literal 141 = .ok (.istore 5, 2) := by decide +kernel
theorem dX12_literal_143 : decode cX12_literal 143 = .ok (.aload_n 0, 1) := by decide +kernel
theorem dX12_literal_144 : decode cX12_literal 144 = .ok (.getfield 52, 3) := by decide +kernel
theorem dX12_literal_147 : decode cX12_literal 147 = .ok (.iload 5, 2) := by decide +kernel
theorem dX12_literal_149 : decode cX12_literal 149 = .ok (.iload 4, 2) := by decide +kernel
theorem dX12_literal_151 : decode cX12_literal 151 = .ok (.iastore, 1) := by decide +kernel
theorem dX12_literal_152 : decode cX12_literal 152 = .ok (.aload_n 0, 1) := by decide +kernel
theorem dX12_literal_153 : decode cX12_literal 153 = .ok (.getfield 55, 3) := by decide +kernel
theorem dX12_literal_156 : decode cX12_literal 156 = .ok (.iload 5, 2) := by decide +kernel
theorem dX12_literal_158 : decode cX12_literal 158 = .ok (.iload_n 2, 1) := by decide +kernel
theorem dX12_literal_159 : decode cX12_literal 159 = .ok (.iastore, 1) := by decide +kernel
theorem dX12_literal_160 : decode cX12_literal 160 = .ok (.aload_n 0, 1) := by decide +kernel
theorem dX12_literal_161 : decode cX12_literal 161 = .ok (.getfield 58, 3) := by decide +kernel
theorem dX12_literal_164 : decode cX12_literal 164 = .ok (.iload 5, 2) := by decide +kernel
theorem dX12_literal_166 : decode cX12_literal 166 = .ok (.iload_n 3, 1) := by decide +kernel
theorem dX12_literal_167 : decode cX12_literal 167 = .ok (.iastore, 1) := by decide +kernel
theorem dX12_literal_168 : decode cX12_literal 168 = .ok (.aload_n 0, 1) := by decide +kernel
theorem dX12_literal_169 : decode cX12_literal 169 = .ok (.getfield 61, 3) := by decide +kernel
theorem dX12_literal_172 : decode cX12_literal 172 = .ok (.iload 5, 2) := by decide +kernel
theorem dX12_literal_174 : decode cX12_literal 174 = .ok (.aload_n 0, 1) := by decide +kernel
theorem dX12_literal_175 : decode cX12_literal 175 = .ok (.getfield 269, 3) := by decide +kernel
theorem dX12_literal_178 : decode cX12_literal 178 = .ok (.iastore, 1) := by decide +kernel
theorem dX12_literal_179 : decode cX12_literal 179 = .ok (.aload_n 0, 1) := by decide +kernel
theorem dX12_literal_180 : decode cX12_literal 180 = .ok (.getfield 64, 3) := by decide +kernel
theorem dX12_literal_183 : decode cX12_literal 183 = .ok (.iload 5, 2) := by decide +kernel
theorem dX12_literal_185 : decode cX12_literal 185 = .ok (.iload_n 1, 1) := by decide +kernel
theorem dX12_literal_186 : decode cX12_literal 186 = .ok (.bastore, 1) := by decide +kernel
theorem dX12_literal_187 : decode cX12_literal 187 = .ok (.aload_n 0, 1) := by decide +kernel
theorem dX12_literal_188 : decode cX12_literal 188 = .ok (.getfield 49, 3) := by decide +kernel
theorem dX12_literal_191 : decode cX12_literal 191 = .ok (.aload_n 0, 1) := by decide +kernel
theorem dX12_literal_192 : decode cX12_literal 192 = .ok (.getfield 266, 3) := by decide +kernel
theorem dX12_literal_195 : decode cX12_literal 195 = .ok (.dup2, 1) := by decide +kernel
theorem dX12_literal_196 : decode cX12_literal 196 = .ok (.iaload, 1) := by decide +kernel
theorem dX12_literal_197 : decode cX12_literal 197 = .ok (.iconst 1, 1) := by decide +kernel
theorem dX12_literal_198 : decode cX12_literal 198 = .ok (.iadd, 1) := by decide +kernel
theorem dX12_literal_199 : decode cX12_literal 199 = .ok (.iastore, 1) := by decide +kernel
theorem dX12_literal_200 : decode cX12_literal 200 = .ok (.return_, 1) := by decide +kernel
theorem dX12_emit_0 : decode cX12_emit 0 = .ok (.aload_n 0, 1) := by decide +kernel
theorem dX12_emit_1 : decode cX12_emit 1 = .ok (.getfield 68, 3) := by decide +kernel
theorem dX12_emit_4 : decode cX12_emit 4 = .ok (.aload_n 0, 1) := by decide +kernel
theorem dX12_emit_5 : decode cX12_emit 5 = .ok (.getfield 269, 3) := by decide +kernel
theorem dX12_emit_8 : decode cX12_emit 8 = .ok (.iload_n 1, 1) := by decide +kernel
theorem dX12_emit_9 : decode cX12_emit 9 = .ok (.iastore, 1) := by decide +kernel
theorem dX12_emit_10 : decode cX12_emit 10 = .ok (.aload_n 0, 1) := by decide +kernel
theorem dX12_emit_11 : decode cX12_emit 11 = .ok (.getfield 71, 3) := by decide +kernel
theorem dX12_emit_14 : decode cX12_emit 14 = .ok (.aload_n 0, 1) := by decide +kernel
theorem dX12_emit_15 : decode cX12_emit 15 = .ok (.getfield 269, 3) := by decide +kernel
theorem dX12_emit_18 : decode cX12_emit 18 = .ok (.iload_n 2, 1) := by decide +kernel
theorem dX12_emit_19 : decode cX12_emit 19 = .ok (.iastore, 1) := by decide +kernel
theorem dX12_emit_20 : decode cX12_emit 20 = .ok (.aload_n 0, 1) := by decide +kernel
theorem dX12_emit_21 : decode cX12_emit 21 = .ok (.dup, 1) := by decide +kernel
theorem dX12_emit_22 : decode cX12_emit 22 = .ok (.getfield 269, 3) := by decide +kernel
theorem dX12_emit_25 : decode cX12_emit 25 = .ok (.iconst 1, 1) := by decide +kernel
theorem dX12_emit_26 : decode cX12_emit 26 = .ok (.iadd, 1) := by decide +kernel
theorem dX12_emit_27 : decode cX12_emit 27 = .ok (.putfield 269, 3) := by decide +kernel
theorem dX12_emit_30 : decode cX12_emit 30 = .ok (.return_, 1) := by decide +kernel
theorem dX12_comesOut_0 : decode cX12_comesOut 0 = .ok (.aload_n 0, 1) := by decide +kernel
theorem dX12_comesOut_1 : decode cX12_comesOut 1 = .ok (.getfield 289, 3) := by decide +kernel
theorem dX12_comesOut_4 : decode cX12_comesOut 4 = .ok (.ifCond .le 88, 3) := by decide +kernel
theorem dX12_comesOut_7 : decode cX12_comesOut 7 = .ok (.aload_n 0, 1) := by decide +kernel
theorem dX12_comesOut_8 : decode cX12_comesOut 8 = .ok (.getfield 74, 3) := by decide +kernel
theorem dX12_comesOut_11 : decode cX12_comesOut 11 = .ok (.aload_n 0, 1) := by decide +kernel
theorem dX12_comesOut_12 : decode cX12_comesOut 12 = .ok (.getfield 289, 3) := by decide +kernel
theorem dX12_comesOut_15 : decode cX12_comesOut 15 = .ok (.iconst 1, 1) := by decide +kernel
theorem dX12_comesOut_16 : decode cX12_comesOut 16 = .ok (.isub, 1) := by decide +kernel
theorem dX12_comesOut_17 : decode cX12_comesOut 17 = .ok (.iaload, 1) := by decide +kernel
theorem dX12_comesOut_18 : decode cX12_comesOut 18 = .ok (.bipush 6, 2) := by decide +kernel
theorem dX12_comesOut_20 : decode cX12_comesOut 20 = .ok (.if_icmp .eq 72, 3) := by decide +kernel
theorem dX12_comesOut_23 : decode cX12_comesOut 23 = .ok (.iload_n 1, 1) := by decide +kernel
theorem dX12_comesOut_24 : decode cX12_comesOut 24 = .ok (.ifCond .eq 19, 3) := by decide +kernel
theorem dX12_comesOut_27 : decode cX12_comesOut 27 = .ok (.aload_n 0, 1) := by decide +kernel
theorem dX12_comesOut_28 : decode cX12_comesOut 28 = .ok (.getfield 74, 3) := by decide +kernel
theorem dX12_comesOut_31 : decode cX12_comesOut 31 = .ok (.aload_n 0, 1) := by decide +kernel
theorem dX12_comesOut_32 : decode cX12_comesOut 32 = .ok (.getfield 289, 3) := by decide +kernel
theorem dX12_comesOut_35 : decode cX12_comesOut 35 = .ok (.iconst 1, 1) := by decide +kernel
theorem dX12_comesOut_36 : decode cX12_comesOut 36 = .ok (.isub, 1) := by decide +kernel
theorem dX12_comesOut_37 : decode cX12_comesOut 37 = .ok (.iaload, 1) := by decide +kernel
theorem dX12_comesOut_38 : decode cX12_comesOut 38 = .ok (.bipush 10, 2) := by decide +kernel
theorem dX12_comesOut_40 : decode cX12_comesOut 40 = .ok (.if_icmp .ne 52, 3) := by decide +kernel
theorem dX12_comesOut_43 : decode cX12_comesOut 43 = .ok (.aload_n 0, 1) := by decide +kernel
theorem dX12_comesOut_44 : decode cX12_comesOut 44 = .ok (.dup, 1) := by decide +kernel
theorem dX12_comesOut_45 : decode cX12_comesOut 45 = .ok (.getfield 289, 3) := by decide +kernel
theorem dX12_comesOut_48 : decode cX12_comesOut 48 = .ok (.iconst 1, 1) := by decide +kernel
theorem dX12_comesOut_49 : decode cX12_comesOut 49 = .ok (.isub, 1) := by decide +kernel
theorem dX12_comesOut_50 : decode cX12_comesOut 50 = .ok (.putfield 289, 3) := by decide +kernel
theorem dX12_comesOut_53 : decode cX12_comesOut 53 = .ok (.aload_n 0, 1) := by decide +kernel
theorem dX12_comesOut_54 : decode cX12_comesOut 54 = .ok (.getfield 74, 3) := by decide +kernel
theorem dX12_comesOut_57 : decode cX12_comesOut 57 = .ok (.aload_n 0, 1) := by decide +kernel
theorem dX12_comesOut_58 : decode cX12_comesOut 58 = .ok (.getfield 289, 3) := by decide +kernel
theorem dX12_comesOut_61 : decode cX12_comesOut 61 = .ok (.iaload, 1) := by decide +kernel
theorem dX12_comesOut_62 : decode cX12_comesOut 62 = .ok (.istore_n 2, 1) := by decide +kernel
theorem dX12_comesOut_63 : decode cX12_comesOut 63 = .ok (.aload_n 0, 1) := by decide +kernel
theorem dX12_comesOut_64 : decode cX12_comesOut 64 = .ok (.iload_n 2, 1) := by decide +kernel
theorem dX12_comesOut_65 : decode cX12_comesOut 65 = .ok (.bipush 8, 2) := by decide +kernel
theorem dX12_comesOut_67 : decode cX12_comesOut 67 = .ok (.if_icmp .ne 7, 3) := by decide +kernel
theorem dX12_comesOut_70 : decode cX12_comesOut 70 = .ok (.iconst 2, 1) := by decide +kernel
theorem dX12_comesOut_71 : decode cX12_comesOut 71 = .ok (.goto 14, 3) := by decide +kernel
theorem dX12_comesOut_74 : decode cX12_comesOut 74 = .ok (.iload_n 2, 1) := by decide +kernel
theorem dX12_comesOut_75 : decode cX12_comesOut 75 = .ok (.bipush 9, 2) := by decide +kernel
theorem dX12_comesOut_77 : decode cX12_comesOut 77 = .ok (.if_icmp .ne 7, 3) := by decide +kernel
theorem dX12_comesOut_80 : decode cX12_comesOut 80 = .ok (.iconst 3, 1) := by decide +kernel
theorem dX12_comesOut_81 : decode cX12_comesOut 81 = .ok (.goto 4, 3) := by decide +kernel
theorem dX12_comesOut_84 : decode cX12_comesOut 84 = .ok (.iconst 4, 1) := by decide +kernel
theorem dX12_comesOut_85 : decode cX12_comesOut 85 = .ok (.iconst 0, 1) := by decide +kernel
theorem dX12_comesOut_86 : decode cX12_comesOut 86 = .ok (.invokevirtual 292, 3) := by decide +kernel
theorem dX12_comesOut_89 : decode cX12_comesOut 89 = .ok (.goto (-89), 3) := by decide +kernel
theorem dX12_comesOut_92 : decode cX12_comesOut 92 = .ok (.return_, 1) := by decide +kernel
theorem dX12_expression_0 : decode cX12_expression 0 = .ok (.aload_n 0, 1) := by decide +kernel
theorem dX12_expression_1 : decode cX12_expression 1 = .ok (.iconst 0, 1) := by decide +kernel
theorem dX12_expression_2 : decode cX12_expression 2 = .ok (.putfield 289, 3) := by decide +kernel
theorem dX12_expression_5 : decode cX12_expression 5 = .ok (.aload_n 0, 1) := by decide +kernel
theorem dX12_expression_6 : decode cX12_expression 6 = .ok (.getfield 260, 3) := by decide +kernel
theorem dX12_expression_9 : decode cX12_expression 9 = .ok (.istore_n 1, 1) := by decide +kernel
theorem dX12_expression_10 : decode cX12_expression 10 = .ok (.iconst 1, 1) := by decide +kernel
theorem dX12_expression_11 : decode cX12_expression 11 = .ok (.istore_n 2, 1) := by decide +kernel
theorem dX12_expression_12 : decode cX12_expression 12 = .ok (.iload_n 2, 1) := by decide +kernel
theorem dX12_expression_13 : decode cX12_expression 13 = .ok (.ifCond .eq 347, 3) := by decide +kernel
theorem dX12_expression_16 : decode cX12_expression 16 = .ok (.aload_n 0, 1) := by decide +kernel
theorem dX12_expression_17 : decode cX12_expression 17 = .ok (.getfield 233, 3) := by decide +kernel
theorem dX12_expression_20 : decode cX12_expression 20 = .ok (.ifCond .ne 340, 3) := by decide +kernel
theorem dX12_expression_23 : decode cX12_expression 23 = .ok (.aload_n 0, 1) := by decide +kernel
theorem dX12_expression_24 : decode cX12_expression 24 = .ok (.bipush 6, 2) := by decide +kernel
theorem dX12_expression_26 : decode cX12_expression 26 = .ok (.invokevirtual 251, 3) := by decide +kernel
theorem dX12_expression_29 : decode cX12_expression 29 = .ok (.ifCond .eq 63, 3) := by decide +kernel
theorem dX12_expression_32 : decode cX12_expression 32 = .ok (.aload_n 0, 1) := by decide +kernel
theorem dX12_expression_33 : decode cX12_expression 33 = .ok (.getfield 260, 3) := by decide +kernel
theorem dX12_expression_36 : decode cX12_expression 36 = .ok (.bipush 6, 2) := by decide +kernel
theorem dX12_expression_38 : decode cX12_expression 38 = .ok (.if_icmp .ne 8, 3) := by decide +kernel
theorem dX12_expression_41 : decode cX12_expression 41 = .ok (.aload_n 0, 1) := by decide +kernel
theorem dX12_expression_42 : decode cX12_expression 42 = .ok (.iconst 2, 1) := by decide +kernel
theorem dX12_expression_43 : decode cX12_expression 43 = .ok (.invokevirtual 248, 3) := by decide +kernel
theorem dX12_expression_46 : decode cX12_expression 46 = .ok (.aload_n 0, 1) := by decide +kernel
theorem dX12_expression_47 : decode cX12_expression 47 = .ok (.getfield 233, 3) := by decide +kernel
theorem dX12_expression_50 : decode cX12_expression 50 = .ok (.ifCond .le 4, 3) := by decide +kernel
theorem dX12_expression_53 : decode cX12_expression 53 = .ok (.return_, 1) := by decide +kernel
theorem dX12_expression_54 : decode cX12_expression 54 = .ok (.aload_n 0, 1) := by decide +kernel
theorem dX12_expression_55 : decode cX12_expression 55 = .ok (.dup, 1) := by decide +kernel
theorem dX12_expression_56 : decode cX12_expression 56 = .ok (.getfield 260, 3) := by decide +kernel
theorem dX12_expression_59 : decode cX12_expression 59 = .ok (.iconst 1, 1) := by decide +kernel
theorem dX12_expression_60 : decode cX12_expression 60 = .ok (.iadd, 1) := by decide +kernel
theorem dX12_expression_61 : decode cX12_expression 61 = .ok (.putfield 260, 3) := by decide +kernel
theorem dX12_expression_64 : decode cX12_expression 64 = .ok (.aload_n 0, 1) := by decide +kernel
theorem dX12_expression_65 : decode cX12_expression 65 = .ok (.invokevirtual 254, 3) := by decide +kernel
theorem dX12_expression_68 : decode cX12_expression 68 = .ok (.aload_n 0, 1) := by decide +kernel
theorem dX12_expression_69 : decode cX12_expression 69 = .ok (.getfield 74, 3) := by decide +kernel
theorem dX12_expression_72 : decode cX12_expression 72 = .ok (.aload_n 0, 1) := by decide +kernel
theorem dX12_expression_73 : decode cX12_expression 73 = .ok (.getfield 289, 3) := by decide +kernel
theorem dX12_expression_76 : decode cX12_expression 76 = .ok (.bipush 6, 2) := by decide +kernel
theorem dX12_expression_78 : decode cX12_expression 78 = .ok (.iastore, 1) := by decide +kernel
theorem dX12_expression_79 : decode cX12_expression 79 = .ok (.aload_n 0, 1) := by decide +kernel
theorem dX12_expression_80 : decode cX12_expression 80 = .ok (.dup, 1) := by decide +kernel
theorem dX12_expression_81 : decode cX12_expression 81 = .ok (.getfield 289, 3) := by decide +kernel
theorem dX12_expression_84 : decode cX12_expression 84 = .ok (.iconst 1, 1) := by decide +kernel
theorem dX12_expression_85 : decode cX12_expression 85 = .ok (.iadd, 1) := by decide +kernel
theorem dX12_expression_86 : decode cX12_expression 86 = .ok (.putfield 289, 3) := by decide +kernel
theorem dX12_expression_89 : decode cX12_expression 89 = .ok (.goto (-77), 3) := by decide +kernel
theorem dX12_expression_92 : decode cX12_expression 92 = .ok (.aload_n 0, 1) := by decide +kernel
theorem dX12_expression_93 : decode cX12_expression 93 = .ok (.getfield 233, 3) := by decide +kernel
theorem dX12_expression_96 : decode cX12_expression 96 = .ok (.ifCond .ne 35, 3) := by decide +kernel
theorem dX12_expression_99 : decode cX12_expression 99 = .ok (.aload_n 0, 1) := by decide +kernel
theorem dX12_expression_100 : decode cX12_expression 100 = .ok (.getfield 20, 3) := by decide +kernel
theorem dX12_expression_103 : decode cX12_expression 103 = .ok (.aload_n 0, 1) := by decide +kernel
theorem dX12_expression_104 : decode cX12_expression 104 = .ok (.getfield 236, 3) := by decide +kernel
theorem dX12_expression_107 : decode cX12_expression 107 = .ok (.iaload, 1) := by decide +kernel
theorem dX12_expression_108 : decode cX12_expression 108 = .ok (.bipush 27, 2) := by decide +kernel
theorem dX12_expression_110 : decode cX12_expression 110 = .ok (.if_icmp .lt 21, 3) := by decide +kernel
theorem dX12_expression_113 : decode cX12_expression 113 = .ok (.aload_n 0, 1) := by decide +kernel
theorem dX12_expression_114 : decode cX12_expression 114 = .ok (.getfield 20, 3) := by decide +kernel
theorem dX12_expression_117 : decode cX12_expression 117 = .ok (.aload_n 0, 1) := by decide +kernel
theorem dX12_expression_118 : decode cX12_expression 118 = .ok (.getfield 236, 3) := by decide +kernel
theorem dX12_expression_121 : decode cX12_expression 121 = .ok (.iaload, 1) := by decide +kernel
theorem dX12_expression_122 : decode cX12_expression 122 = .ok (.bipush 33, 2) := by decide +kernel
theorem dX12_expression_124 : decode cX12_expression 124 = .ok (.if_icmp .gt 7, 3) := by decide +kernel
theorem dX12_expression_127 : decode cX12_expression 127 = .ok (.iconst 1, 1) := by decide +kernel
theorem dX12_expression_128 : decode cX12_expression 128 = .ok (.goto 4, 3) := by decide +kernel
theorem dX12_expression_131 : decode cX12_expression 131 = .ok (.iconst 0, 1) := by decide +kernel
theorem dX12_expression_132 : decode cX12_expression 132 = .ok (.istore_n 3, 1) := by decide +kernel
theorem dX12_expression_133 : decode cX12_expression 133 = .ok (.aload_n 0, 1) := by decide +kernel
theorem dX12_expression_134 : decode cX12_expression 134 = .ok (.iconst 2, 1) := by decide +kernel
theorem dX12_expression_135 : decode cX12_expression 135 = .ok (.invokevirtual 251, 3) := by decide +kernel
theorem dX12_expression_138 : decode cX12_expression 138 = .ok (.ifCond .ne 12, 3) := by decide +kernel
theorem dX12_expression_141 : decode cX12_expression 141 = .ok (.iload_n 3, 1) := by decide +kernel
theorem dX12_expression_142 : decode cX12_expression 142 = .ok (.ifCond .ne 8, 3) := by decide +kernel
theorem dX12_expression_145 : decode cX12_expression 145 = .ok (.aload_n 0, 1) := by decide +kernel
theorem dX12_expression_146 : decode cX12_expression 146 = .ok (.iconst 1, 1) := by decide +kernel
theorem dX12_expression_147 : decode cX12_expression 147 = .ok (.invokevirtual 248, 3) := by decide +kernel
theorem dX12_expression_150 : decode cX12_expression 150 = .ok (.aload_n 0, 1) := by decide +kernel
theorem dX12_expression_151 : decode cX12_expression 151 = .ok (.getfield 233, 3) := by decide +kernel
theorem dX12_expression_154 : decode cX12_expression 154 = .ok (.ifCond .le 4, 3) := by decide +kernel
theorem dX12_expression_157 : decode cX12_expression 157 = .ok (.return_, 1) := by decide +kernel
theorem dX12_expression_158 : decode cX12_expression 158 = .ok (.iload_n 3, 1) := by decide +kernel
theorem dX12_expression_159 : decode cX12_expression 159 = .ok (.ifCond .eq 23, 3) := by decide +kernel
theorem dX12_expression_162 : decode cX12_expression 162 = .ok (.aload_n 0, 1) := by decide +kernel
theorem dX12_expression_163 : decode cX12_expression 163 = .ok (.iconst 1, 1) := by decide +kernel
theorem dX12_expression_164 : decode cX12_expression 164 = .ok (.aload_n 0, 1) := by decide +kernel
theorem dX12_expression_165 : decode cX12_expression 165 = .ok (.getfield 20, 3) := by decide +kernel
theorem dX12_expression_168 : decode cX12_expression 168 = .ok (.aload_n 0, 1) := by decide +kernel
theorem dX12_expression_169 : decode cX12_expression 169 = .ok (.getfield 236, 3) := by decide +kernel
theorem dX12_expression_172 : decode cX12_expression 172 = .ok (.iaload, 1) := by decide +kernel
theorem dX12_expression_173 : decode cX12_expression 173 = .ok (.bipush 27, 2) := by decide +kernel
theorem dX12_expression_175 : decode cX12_expression 175 = .ok (.isub, 1) := by decide +kernel
theorem dX12_expression_176 : decode cX12_expression 176 = .ok (.invokevirtual 292, 3) := by decide +kernel
theorem dX12_expression_179 : decode cX12_expression 179 = .ok (.goto 17, 3) := by decide +kernel
theorem dX12_expression_182 : decode cX12_expression 182 = .ok (.aload_n 0, 1) := by decide +kernel
theorem dX12_expression_183 : decode cX12_expression 183 = .ok (.iconst 0, 1) := by decide +kernel
theorem dX12_expression_184 : decode cX12_expression 184 = .ok (.aload_n 0, 1) := by decide +kernel
theorem dX12_expression_185 : decode cX12_expression 185 = .ok (.getfield 27, 3) := by decide +kernel
theorem dX12_expression_188 : decode cX12_expression 188 = .ok (.aload_n 0, 1) := by decide +kernel
theorem dX12_expression_189 : decode cX12_expression 189 = .ok (.getfield 236, 3) := by decide +kernel
theorem dX12_expression_192 : decode cX12_expression 192 = .ok (.iaload, 1) := by decide +kernel
theorem dX12_expression_193 : decode cX12_expression 193 = .ok (.invokevirtual 292, 3) := by decide +kernel
theorem dX12_expression_196 : decode cX12_expression 196 = .ok (.aload_n 0, 1) := by decide +kernel
theorem dX12_expression_197 : decode cX12_expression 197 = .ok (.invokevirtual 254, 3) := by decide +kernel
theorem dX12_expression_200 : decode cX12_expression 200 = .ok (.aload_n 0, 1) := by decide +kernel
theorem dX12_expression_201 : decode cX12_expression 201 = .ok (.bipush 7, 2) := by decide +kernel
theorem dX12_expression_203 : decode cX12_expression 203 = .ok (.invokevirtual 251, 3) := by decide +kernel
theorem dX12_expression_206 : decode cX12_expression 206 = .ok (.ifCond .eq 43, 3) := by decide +kernel
theorem dX12_expression_209 : decode cX12_expression 209 = .ok (.aload_n 0, 1) := by decide +kernel
theorem dX12_expression_210 : decode cX12_expression 210 = .ok (.getfield 260, 3) := by decide +kernel
theorem dX12_expression_213 : decode cX12_expression 213 = .ok (.iload_n 1, 1) := by decide +kernel
theorem dX12_expression_214 : decode cX12_expression 214 = .ok (.if_icmp .le 35, 3) := by decide +kernel
theorem dX12_expression_217 : decode cX12_expression 217 = .ok (.aload_n 0, 1) := by decide +kernel
theorem dX12_expression_218 : decode cX12_expression 218 = .ok (.iconst 0, 1) := by decide +kernel
theorem dX12_expression_219 : decode cX12_expression 219 = .ok (.invokevirtual 295, 3) := by decide +kernel
theorem dX12_expression_222 : decode cX12_expression 222 = .ok (.aload_n 0, 1) := by decide +kernel
theorem dX12_expression_223 : decode cX12_expression 223 = .ok (.dup, 1) := by decide +kernel
theorem dX12_expression_224 : decode cX12_expression 224 = .ok (.getfield 289, 3) := by decide +kernel
theorem dX12_expression_227 : decode cX12_expression 227 = .ok (.iconst 1, 1) := by decide +kernel
theorem dX12_expression_228 : decode cX12_expression 228 = .ok (.isub, 1) := by decide +kernel
theorem dX12_expression_229 : decode cX12_expression 229 = .ok (.putfield 289, 3) := by decide +kernel
theorem dX12_expression_232 : decode cX12_expression 232 = .ok (.aload_n 0, 1) := by decide +kernel
theorem dX12_expression_233 : decode cX12_expression 233 = .ok (.dup, 1) := by decide +kernel
theorem dX12_expression_234 : decode cX12_expression 234 = .ok (.getfield 260, 3) := by decide +kernel
theorem dX12_expression_237 : decode cX12_expression 237 = .ok (.iconst 1, 1) := by decide +kernel
theorem dX12_expression_238 : decode cX12_expression 238 = .ok (.isub, 1) := by decide +kernel
theorem dX12_expression_239 : decode cX12_expression 239 = .ok (.putfield 260, 3) := by decide +kernel
theorem dX12_expression_242 : decode cX12_expression 242 = .ok (.aload_n 0, 1) := by decide +kernel
theorem dX12_expression_243 : decode cX12_expression 243 = .ok (.invokevirtual 254, 3) := by decide +kernel
theorem dX12_expression_246 : decode cX12_expression 246 = .ok (.goto (-46), 3) := by decide +kernel
theorem dX12_expression_249 : decode cX12_expression 249 = .ok (.aload_n 0, 1) := by decide +kernel
theorem dX12_expression_250 : decode cX12_expression 250 = .ok (.bipush 8, 2) := by decide +kernel
theorem dX12_expression_252 : decode cX12_expression 252 = .ok (.invokevirtual 251, 3) := by decide +kernel
theorem dX12_expression_255 : decode cX12_expression 255 = .ok (.ifCond .ne 21, 3) := by decide +kernel
theorem dX12_expression_258 : decode cX12_expression 258 = .ok (.aload_n 0, 1) := by decide +kernel
theorem dX12_expression_259 : decode cX12_expression 259 = .ok (.bipush 9, 2) := by decide +kernel
theorem dX12_expression_261 : decode cX12_expression 261 = .ok (.invokevirtual 251, 3) := by decide +kernel
theorem dX12_expression_264 : decode cX12_expression 264 = .ok (.ifCond .ne 12, 3) := by decide +kernel
theorem dX12_expression_267 : decode cX12_expression 267 = .ok (.aload_n 0, 1) := by decide +kernel
theorem dX12_expression_268 : decode cX12_expression 268 = .ok (.bipush 10, 2) := by decide +kernel
theorem dX12_expression_270 : decode cX12_expression 270 = .ok (.invokevirtual 251, 3) := by decide +kernel
theorem dX12_expression_273 : decode cX12_expression 273 = .ok (.ifCond .eq 7, 3) := by decide +kernel
theorem dX12_expression_276 : decode cX12_expression 276 = .ok (.iconst 1, 1) := by decide +kernel
theorem dX12_expression_277 : decode cX12_expression 277 = .ok (.goto 4, 3) := by decide +kernel
theorem dX12_expression_280 : decode cX12_expression 280 = .ok (.iconst 0, 1) := by decide +kernel
theorem dX12_expression_281 : decode cX12_expression 281 = .ok (.istore_n 2, 1) := by decide +kernel
theorem dX12_expression_282 : decode cX12_expression 282 = .ok (.iload_n 2, 1) := by decide +kernel
theorem dX12_expression_283 : decode cX12_expression 283 = .ok (.ifCond .ne 22, 3) := by decide +kernel
theorem dX12_expression_286 : decode cX12_expression 286 = .ok (.aload_n 0, 1) := by decide +kernel
theorem dX12_expression_287 : decode cX12_expression 287 = .ok (.getfield 260, 3) := by decide +kernel
theorem dX12_expression_290 : decode cX12_expression 290 = .ok (.iload_n 1, 1) := by decide +kernel
theorem dX12_expression_291 : decode cX12_expression 291 = .ok (.if_icmp .le 8, 3) := by decide +kernel
theorem dX12_expression_294 : decode cX12_expression 294 = .ok (.aload_n 0, 1) := by decide +kernel
theorem dX12_expression_295 : decode cX12_expression 295 = .ok (.iconst 1, 1) := by decide +kernel
theorem dX12_expression_296 : decode cX12_expression 296 = .ok (.invokevirtual 248, 3) := by decide +kernel
theorem dX12_expression_299 : decode cX12_expression 299 = .ok (.aload_n 0, 1) := by decide +kernel
theorem dX12_expression_300 : decode cX12_expression 300 = .ok (.iconst 0, 1) := by decide +kernel
theorem dX12_expression_301 : decode cX12_expression 301 = .ok (.invokevirtual 295, 3) := by decide +kernel
theorem dX12_expression_304 : decode cX12_expression 304 = .ok (.return_, 1) := by decide +kernel
theorem dX12_expression_305 : decode cX12_expression 305 = .ok (.aload_n 0, 1) := by decide +kernel
theorem dX12_expression_306 : decode cX12_expression 306 = .ok (.getfield 20, 3) := by decide +kernel
theorem dX12_expression_309 : decode cX12_expression 309 = .ok (.aload_n 0, 1) := by decide +kernel
theorem dX12_expression_310 : decode cX12_expression 310 = .ok (.getfield 236, 3) := by decide +kernel
theorem dX12_expression_313 : decode cX12_expression 313 = .ok (.iaload, 1) := by decide +kernel
theorem dX12_expression_314 : decode cX12_expression 314 = .ok (.istore 4, 2) := by decide +kernel
theorem dX12_expression_316 : decode cX12_expression 316 = .ok (.aload_n 0, 1) := by decide +kernel
theorem dX12_expression_317 : decode cX12_expression 317 = .ok (.iload 4, 2) := by decide +kernel
theorem dX12_expression_319 : decode cX12_expression 319 = .ok (.bipush 10, 2) := by decide +kernel
theorem dX12_expression_321 : decode cX12_expression 321 = .ok (.if_icmp .ne 7, 3) := by decide +kernel
theorem dX12_expression_324 : decode cX12_expression 324 = .ok (.iconst 1, 1) := by decide +kernel
theorem dX12_expression_325 : decode cX12_expression 325 = .ok (.goto 4, 3) := by decide +kernel
theorem dX12_expression_328 : decode cX12_expression 328 = .ok (.iconst 0, 1) := by decide +kernel
theorem dX12_expression_329 : decode cX12_expression 329 = .ok (.invokevirtual 295, 3) := by decide +kernel
theorem dX12_expression_332 : decode cX12_expression 332 = .ok (.aload_n 0, 1) := by decide +kernel
theorem dX12_expression_333 : decode cX12_expression 333 = .ok (.getfield 74, 3) := by decide +kernel
theorem dX12_expression_336 : decode cX12_expression 336 = .ok (.aload_n 0, 1) := by decide +kernel
theorem dX12_expression_337 : decode cX12_expression 337 = .ok (.getfield 289, 3) := by decide +kernel
theorem dX12_expression_340 : decode cX12_expression 340 = .ok (.iload 4, 2) := by decide +kernel
theorem dX12_expression_342 : decode cX12_expression 342 = .ok (.iastore, 1) := by decide +kernel
theorem dX12_expression_343 : decode cX12_expression 343 = .ok (.aload_n 0, 1) := by decide +kernel
theorem dX12_expression_344 : decode cX12_expression 344 = .ok (.dup, 1) := by decide +kernel
theorem dX12_expression_345 : decode cX12_expression 345 = .ok (.getfield 289, 3) := by decide +kernel
theorem dX12_expression_348 : decode cX12_expression 348 = .ok (.iconst 1, 1) := by decide +kernel
theorem dX12_expression_349 : decode cX12_expression 349 = .ok (.iadd, 1) := by decide +kernel
theorem dX12_expression_350 : decode cX12_expression 350 = .ok (.putfield 289, 3) := by decide +kernel
theorem dX12_expression_353 : decode cX12_expression 353 = .ok (.aload_n 0, 1) := by decide +kernel
theorem dX12_expression_354 : decode cX12_expression 354 = .ok (.invokevirtual 254, 3) := by decide +kernel
theorem dX12_expression_357 : decode cX12_expression 357 = .ok (.goto (-345), 3) := by decide +kernel
theorem dX12_expression_360 : decode cX12_expression 360 = .ok (.return_, 1) := by decide +kernel
theorem dX12_isChannel_0 : decode cX12_isChannel 0 = .ok (.iload_n 1, 1) := by decide +kernel
theorem dX12_isChannel_1 : decode cX12_isChannel 1 = .ok (.ifCond .lt 15, 3) := by decide +kernel
theorem dX12_isChannel_4 : decode cX12_isChannel 4 = .ok (.iload_n 1, 1) := by decide +kernel
theorem dX12_isChannel_5 : decode cX12_isChannel 5 = .ok (.aload_n 0, 1) := by decide +kernel
theorem dX12_isChannel_6 : decode cX12_isChannel 6 = .ok (.getfield 186, 3) := by decide +kernel
theorem dX12_isChannel_9 : decode cX12_isChannel 9 = .ok (.if_icmp .ge 7, 3) := by decide +kernel
theorem dX12_isChannel_12 : decode cX12_isChannel 12 = .ok (.iconst 1, 1) := by decide +kernel
theorem dX12_isChannel_13 : decode cX12_isChannel 13 = .ok (.goto 4, 3) := by decide +kernel
theorem dX12_isChannel_16 : decode cX12_isChannel 16 = .ok (.iconst 0, 1) := by decide +kernel
theorem dX12_isChannel_17 : decode cX12_isChannel 17 = .ok (.ireturn, 1) := by decide +kernel
theorem dX12_isSlot_0 : decode cX12_isSlot 0 = .ok (.iload_n 0, 1) := by decide +kernel
theorem dX12_isSlot_1 : decode cX12_isSlot 1 = .ok (.ifCond .lt 14, 3) := by decide +kernel
theorem dX12_isSlot_4 : decode cX12_isSlot 4 = .ok (.iload_n 0, 1) := by decide +kernel
theorem dX12_isSlot_5 : decode cX12_isSlot 5 = .ok (.sipush 288, 3) := by decide +kernel
theorem dX12_isSlot_8 : decode cX12_isSlot 8 = .ok (.if_icmp .ge 7, 3) := by decide +kernel
theorem dX12_isSlot_11 : decode cX12_isSlot 11 = .ok (.iconst 1, 1) := by decide +kernel
theorem dX12_isSlot_12 : decode cX12_isSlot 12 = .ok (.goto 4, 3) := by decide +kernel
theorem dX12_isSlot_15 : decode cX12_isSlot 15 = .ok (.iconst 0, 1) := by decide +kernel
theorem dX12_isSlot_16 : decode cX12_isSlot 16 = .ok (.ireturn, 1) := by decide +kernel
theorem dX12_isKnown_0 : decode cX12_isKnown 0 = .ok (.iload_n 1, 1) := by decide +kernel
theorem dX12_isKnown_1 : decode cX12_isKnown 1 = .ok (.ifCond .lt 15, 3) := by decide +kernel
theorem dX12_isKnown_4 : decode cX12_isKnown 4 = .ok (.iload_n 1, 1) := by decide +kernel
theorem dX12_isKnown_5 : decode cX12_isKnown 5 = .ok (.aload_n 0, 1) := by decide +kernel
theorem dX12_isKnown_6 : decode cX12_isKnown 6 = .ok (.getfield 298, 3) := by decide +kernel
theorem dX12_isKnown_9 : decode cX12_isKnown 9 = .ok (.if_icmp .gt 7, 3) := by decide +kernel
theorem dX12_isKnown_12 : decode cX12_isKnown 12 = .ok (.iconst 1, 1) := by decide +kernel
theorem dX12_isKnown_13 : decode cX12_isKnown 13 = .ok (.goto 4, 3) := by decide +kernel
theorem dX12_isKnown_16 : decode cX12_isKnown 16 = .ok (.iconst 0, 1) := by decide +kernel
theorem dX12_isKnown_17 : decode cX12_isKnown 17 = .ok (.ireturn, 1) := by decide +kernel
theorem dX12_channels_0 : decode cX12_channels 0 = .ok (.iload_n 1, 1) := by decide +kernel
theorem dX12_channels_1 : decode cX12_channels 1 = .ok (.iconst 1, 1) := by decide +kernel
theorem dX12_channels_2 : decode cX12_channels 2 = .ok (.if_icmp .lt 16, 3) := by decide +kernel
theorem dX12_channels_5 : decode cX12_channels 5 = .ok (.iload_n 1, 1) := by decide +kernel
theorem dX12_channels_6 : decode cX12_channels 6 = .ok (.bipush 6, 2) := by decide +kernel
theorem dX12_channels_8 : decode cX12_channels 8 = .ok (.if_icmp .gt 10, 3) := by decide +kernel
theorem dX12_channels_11 : decode cX12_channels 11 = .ok (.aload_n 0, 1) := by decide +kernel
theorem dX12_channels_12 : decode cX12_channels 12 = .ok (.getfield 298, 3) := by decide +kernel
theorem dX12_channels_15 : decode cX12_channels 15 = .ok (.ifCond .le 5, 3) := by decide +kernel
theorem dX12_channels_18 : decode cX12_channels 18 = .ok (.iconst 0, 1) := by decide +kernel
theorem dX12_channels_19 : decode cX12_channels 19 = .ok (.ireturn, 1) := by decide +kernel
theorem dX12_channels_20 : decode cX12_channels 20 = .ok (.aload_n 0, 1) := by decide +kernel
theorem dX12_channels_21 : decode cX12_channels 21 = .ok (.iload_n 1, 1) := by decide +kernel
theorem dX12_channels_22 : decode cX12_channels 22 = .ok (.putfield 186, 3) := by decide +kernel
theorem dX12_channels_25 : decode cX12_channels 25 = .ok (.aload_n 0, 1) := by decide +kernel
theorem dX12_channels_26 : decode cX12_channels 26 = .ok (.iconst (-1), 1) := by decide +kernel
theorem dX12_channels_27 : decode cX12_channels 27 = .ok (.putfield 104, 3) := by decide +kernel
theorem dX12_channels_30 : decode cX12_channels 30 = .ok (.iconst 1, 1) := by decide +kernel
theorem dX12_channels_31 : decode cX12_channels 31 = .ok (.ireturn, 1) := by decide +kernel
theorem dX12_source_0 : decode cX12_source 0 = .ok (.aload_n 0, 1) := by decide +kernel
theorem dX12_source_1 : decode cX12_source 1 = .ok (.getfield 301, 3) := by decide +kernel
theorem dX12_source_4 : decode cX12_source 4 = .ok (.bipush 6, 2) := by decide +kernel
theorem dX12_source_6 : decode cX12_source 6 = .ok (.if_icmp .eq 14, 3) := by decide +kernel
theorem dX12_source_9 : decode cX12_source 9 = .ok (.iload_n 1, 1) := by decide +kernel
theorem dX12_source_10 : decode cX12_source 10 = .ok (.iconst 1, 1) := by decide +kernel
theorem dX12_source_11 : decode cX12_source 11 = .ok (.if_icmp .lt 9, 3) := by decide +kernel
theorem dX12_source_14 : decode cX12_source 14 = .ok (.iload_n 1, 1) := by decide +kernel
theorem dX12_source_15 : decode cX12_source 15 = .ok (.bipush 9, 2) := by decide +kernel
theorem dX12_source_17 : decode cX12_source 17 = .ok (.if_icmp .le 5, 3) := by decide +kernel
theorem dX12_source_20 : decode cX12_source 20 = .ok (.iconst (-1), 1) := by decide +kernel
theorem dX12_source_21 : decode cX12_source 21 = .ok (.ireturn, 1) := by decide +kernel
theorem dX12_source_22 : decode cX12_source 22 = .ok (.aload_n 0, 1) := by decide +kernel
theorem dX12_source_23 : decode cX12_source 23 = .ok (.getfield 77, 3) := by decide +kernel
theorem dX12_source_26 : decode cX12_source 26 = .ok (.aload_n 0, 1) := by decide +kernel
theorem dX12_source_27 : decode cX12_source 27 = .ok (.getfield 301, 3) := by decide +kernel
theorem dX12_source_30 : decode cX12_source 30 = .ok (.iload_n 1, 1) := by decide +kernel
theorem dX12_source_31 : decode cX12_source 31 = .ok (.iastore, 1) := by decide +kernel
theorem dX12_source_32 : decode cX12_source 32 = .ok (.aload_n 0, 1) := by decide +kernel
theorem dX12_source_33 : decode cX12_source 33 = .ok (.dup, 1) := by decide +kernel
theorem dX12_source_34 : decode cX12_source 34 = .ok (.getfield 301, 3) := by decide +kernel
theorem dX12_source_37 : decode cX12_source 37 = .ok (.iconst 1, 1) := by decide +kernel
theorem dX12_source_38 : decode cX12_source 38 = .ok (.iadd, 1) := by decide +kernel
theorem dX12_source_39 : decode cX12_source 39 = .ok (.putfield 301, 3) := by decide +kernel
theorem dX12_source_42 : decode cX12_source 42 = .ok (.aload_n 0, 1) := by decide +kernel
theorem dX12_source_43 : decode cX12_source 43 = .ok (.getfield 301, 3) := by decide +kernel
theorem dX12_source_46 : decode cX12_source 46 = .ok (.iconst 1, 1) := by decide +kernel
theorem dX12_source_47 : decode cX12_source 47 = .ok (.isub, 1) := by decide +kernel
theorem dX12_source_48 : decode cX12_source 48 = .ok (.ireturn, 1) := by decide +kernel
theorem dX12_notice_0 : decode cX12_notice 0 = .ok (.aload_n 0, 1) := by decide +kernel
theorem dX12_notice_1 : decode cX12_notice 1 = .ok (.getfield 298, 3) := by decide +kernel
theorem dX12_notice_4 : decode cX12_notice 4 = .ok (.sipush 300, 3) := by decide +kernel
theorem dX12_notice_7 : decode cX12_notice 7 = .ok (.if_icmp .eq 65, 3) := by decide +kernel
theorem dX12_notice_10 : decode cX12_notice 10 = .ok (.iload_n 1, 1) := by decide +kernel
theorem dX12_notice_11 : decode cX12_notice 11 = .ok (.ifCond .lt 61, 3) := by decide +kernel
theorem dX12_notice_14 : decode cX12_notice 14 = .ok (.iload_n 1, 1) := by decide +kernel
theorem dX12_notice_15 : decode cX12_notice 15 = .ok (.aload_n 0, 1) := by decide +kernel
theorem dX12_notice_16 : decode cX12_notice 16 = .ok (.getfield 301, 3) := by decide +kernel
theorem dX12_notice_19 : decode cX12_notice 19 = .ok (.if_icmp .ge 53, 3) := by decide +kernel
theorem dX12_notice_22 : decode cX12_notice 22 = .ok (.aload_n 0, 1) := by decide +kernel
theorem dX12_notice_23 : decode cX12_notice 23 = .ok (.iload_n 2, 1) := by decide +kernel
theorem dX12_notice_24 : decode cX12_notice 24 = .ok (.invokevirtual 304, 3) := by decide +kernel
theorem dX12_notice_27 : decode cX12_notice 27 = .ok (.ifCond .eq 45, 3) := by decide +kernel
theorem dX12_notice_30 : decode cX12_notice 30 = .ok (.iload_n 3, 1) := by decide +kernel
theorem dX12_notice_31 : decode cX12_notice 31 = .ok (.ifCond .lt 41, 3) := by decide +kernel
theorem dX12_notice_34 : decode cX12_notice 34 = .ok (.iload_n 3, 1) := by decide +kernel
theorem dX12_notice_35 : decode cX12_notice 35 = .ok (.iload 4, 2) := by decide +kernel
theorem dX12_notice_37 : decode cX12_notice 37 = .ok (.if_icmp .ge 35, 3) := by decide +kernel
theorem dX12_notice_40 : decode cX12_notice 40 = .ok (.iload 4, 2) := by decide +kernel
theorem dX12_notice_42 : decode cX12_notice 42 = .ok (.sipush 288, 3) := by decide +kernel
theorem dX12_notice_45 : decode cX12_notice 45 = .ok (.if_icmp .gt 27, 3) := by decide +kernel
theorem dX12_notice_48 : decode cX12_notice 48 = .ok (.iload 5, 2) := by decide +kernel
theorem dX12_notice_50 : decode cX12_notice 50 = .ok (.ifCond .lt 22, 3) := by decide +kernel
theorem dX12_notice_53 : decode cX12_notice 53 = .ok (.iload 5, 2) := by decide +kernel
theorem dX12_notice_55 : decode cX12_notice 55 = .ok (.bipush 31, 2) := by decide +kernel
theorem dX12_notice_57 : decode cX12_notice 57 = .ok (.if_icmp .gt 15, 3) := by decide +kernel
theorem dX12_notice_60 : decode cX12_notice 60 = .ok (.iload 6, 2) := by decide +kernel
theorem dX12_notice_62 : decode cX12_notice 62 = .ok (.ifCond .lt 10, 3) := by decide +kernel
theorem dX12_notice_65 : decode cX12_notice 65 = .ok (.iload 6, 2) := by decide +kernel
theorem dX12_notice_67 : decode cX12_notice 67 = .ok (.bipush 31, 2) := by decide +kernel
theorem dX12_notice_69 : decode cX12_notice 69 = .ok (.if_icmp .le 5, 3) := by decide +kernel
theorem dX12_notice_72 : decode cX12_notice 72 = .ok (.iconst (-1), 1) := by decide +kernel
theorem dX12_notice_73 : decode cX12_notice 73 = .ok (.ireturn, 1) := by decide +kernel
theorem dX12_notice_74 : decode cX12_notice 74 = .ok (.aload_n 0, 1) := by decide +kernel
theorem dX12_notice_75 : decode cX12_notice 75 = .ok (.getfield 80, 3) := by decide +kernel
theorem dX12_notice_78 : decode cX12_notice 78 = .ok (.aload_n 0, 1) := by decide +kernel
theorem dX12_notice_79 : decode cX12_notice 79 = .ok (.getfield 298, 3) := by decide +kernel
theorem dX12_notice_82 : decode cX12_notice 82 = .ok (.iconst 0, 1) := by decide +kernel
theorem dX12_notice_83 : decode cX12_notice 83 = .ok (.bastore, 1) := by decide +kernel
theorem dX12_notice_84 : decode cX12_notice 84 = .ok (.aload_n 0, 1) := by decide +kernel
theorem dX12_notice_85 : decode cX12_notice 85 = .ok (.getfield 83, 3) := by decide +kernel
theorem dX12_notice_88 : decode cX12_notice 88 = .ok (.aload_n 0, 1) := by decide +kernel
theorem dX12_notice_89 : decode cX12_notice 89 = .ok (.getfield 298, 3) := by decide +kernel
theorem dX12_notice_92 : decode cX12_notice 92 = .ok (.iload_n 1, 1) := by decide +kernel
theorem dX12_notice_93 : decode cX12_notice 93 = .ok (.iastore, 1) := by decide +kernel
theorem dX12_notice_94 : decode cX12_notice 94 = .ok (.aload_n 0, 1) := by decide +kernel
theorem dX12_notice_95 : decode cX12_notice 95 = .ok (.getfield 86, 3) := by decide +kernel
theorem dX12_notice_98 : decode cX12_notice 98 = .ok (.aload_n 0, 1) := by decide +kernel
theorem dX12_notice_99 : decode cX12_notice 99 = .ok (.getfield 298, 3) := by decide +kernel
theorem dX12_notice_102 : decode cX12_notice 102 = .ok (.iload_n 2, 1) := by decide +kernel
theorem dX12_notice_103 : decode cX12_notice 103 = .ok (.iastore, 1) := by decide +kernel
theorem dX12_notice_104 : decode cX12_notice 104 = .ok (.aload_n 0, 1) := by decide +kernel
theorem dX12_notice_105 : decode cX12_notice 105 = .ok (.getfield 89, 3) := by decide +kernel
theorem dX12_notice_108 : decode cX12_notice 108 = .ok (.aload_n 0, 1) := by decide +kernel
theorem dX12_notice_109 : decode cX12_notice 109 = .ok (.getfield 298, 3) := by decide +kernel
theorem dX12_notice_112 : decode cX12_notice 112 = .ok (.iload_n 3, 1) := by decide +kernel
theorem dX12_notice_113 : decode cX12_notice 113 = .ok (.iastore, 1) := by decide +kernel
theorem dX12_notice_114 : decode cX12_notice 114 = .ok (.aload_n 0, 1) := by decide +kernel
theorem dX12_notice_115 : decode cX12_notice 115 = .ok (.getfield 92, 3) := by decide +kernel
theorem dX12_notice_118 : decode cX12_notice 118 = .ok (.aload_n 0, 1) := by decide +kernel
theorem dX12_notice_119 : decode cX12_notice 119 = .ok (.getfield 298, 3) := by decide +kernel
theorem dX12_notice_122 : decode cX12_notice 122 = .ok (.iload 4, 2) := by decide +kernel
theorem dX12_notice_124 : decode cX12_notice 124 = .ok (.iastore, 1) := by decide +kernel
theorem dX12_notice_125 : decode cX12_notice 125 = .ok (.aload_n 0, 1) := by decide +kernel
theorem dX12_notice_126 : decode cX12_notice 126 = .ok (.getfield 95, 3) := by decide +kernel
theorem dX12_notice_129 : decode cX12_notice 129 = .ok (.aload_n 0, 1) := by decide +kernel
theorem dX12_notice_130 : decode cX12_notice 130 = .ok (.getfield 298, 3) := by decide +kernel
theorem dX12_notice_133 : decode cX12_notice 133 = .ok (.iload 5, 2) := by decide +kernel
theorem dX12_notice_135 : decode cX12_notice 135 = .ok (.iastore, 1) := by decide +kernel
theorem dX12_notice_136 : decode cX12_notice 136 = .ok (.aload_n 0, 1) := by decide +kernel
theorem dX12_notice_137 : decode cX12_notice 137 = .ok (.getfield 98, 3) := by decide +kernel
theorem dX12_notice_140 : decode cX12_notice 140 = .ok (.aload_n 0, 1) := by decide +kernel
theorem dX12_notice_141 : decode cX12_notice 141 = .ok (.getfield 298, 3) := by decide +kernel
theorem dX12_notice_144 : decode cX12_notice 144 = .ok (.iload 6, 2) := by decide +kernel
theorem dX12_notice_146 : decode cX12_notice 146 = .ok (.iastore, 1) := by decide +kernel
theorem dX12_notice_147 : decode cX12_notice 147 = .ok (.aload_n 0, 1) := by decide +kernel
theorem dX12_notice_148 : decode cX12_notice 148 = .ok (.getfield 101, 3) := by decide +kernel
theorem dX12_notice_151 : decode cX12_notice 151 = .ok (.aload_n 0, 1) := by decide +kernel
theorem dX12_notice_152 : decode cX12_notice 152 = .ok (.getfield 298, 3) := by decide +kernel
theorem dX12_notice_155 : decode cX12_notice 155 = .ok (.iload 7, 2) := by decide +kernel
theorem dX12_notice_157 : decode cX12_notice 157 = .ok (.bastore, 1) := by decide +kernel
theorem dX12_notice_158 : decode cX12_notice 158 = .ok (.aload_n 0, 1) := by decide +kernel
theorem dX12_notice_159 : decode cX12_notice 159 = .ok (.dup, 1) := by decide +kernel
theorem dX12_notice_160 : decode cX12_notice 160 = .ok (.getfield 298, 3) := by decide +kernel
theorem dX12_notice_163 : decode cX12_notice 163 = .ok (.iconst 1, 1) := by decide +kernel
theorem dX12_notice_164 : decode cX12_notice 164 = .ok (.iadd, 1) := by decide +kernel
theorem dX12_notice_165 : decode cX12_notice 165 = .ok (.putfield 298, 3) := by decide +kernel
theorem dX12_notice_168 : decode cX12_notice 168 = .ok (.aload_n 0, 1) := by decide +kernel
theorem dX12_notice_169 : decode cX12_notice 169 = .ok (.getfield 298, 3) := by decide +kernel
theorem dX12_notice_172 : decode cX12_notice 172 = .ok (.iconst 1, 1) := by decide +kernel
theorem dX12_notice_173 : decode cX12_notice 173 = .ok (.isub, 1) := by decide +kernel
theorem dX12_notice_174 : decode cX12_notice 174 = .ok (.ireturn, 1) := by decide +kernel
theorem dX12_over_0 : decode cX12_over 0 = .ok (.aload_n 0, 1) := by decide +kernel
theorem dX12_over_1 : decode cX12_over 1 = .ok (.getfield 298, 3) := by decide +kernel
theorem dX12_over_4 : decode cX12_over 4 = .ok (.sipush 300, 3) := by decide +kernel
theorem dX12_over_7 : decode cX12_over 7 = .ok (.if_icmp .eq 34, 3) := by decide +kernel
theorem dX12_over_10 : decode cX12_over 10 = .ok (.aload_n 0, 1) := by decide +kernel
theorem dX12_over_11 : decode cX12_over 11 = .ok (.iload_n 1, 1) := by decide +kernel
theorem dX12_over_12 : decode cX12_over 12 = .ok (.invokevirtual 304, 3) := by decide +kernel
theorem dX12_over_15 : decode cX12_over 15 = .ok (.ifCond .eq 26, 3) := by decide +kernel
theorem dX12_over_18 : decode cX12_over 18 = .ok (.iload_n 2, 1) := by decide +kernel
theorem dX12_over_19 : decode cX12_over 19 = .ok (.iconst 1, 1) := by decide +kernel
theorem dX12_over_20 : decode cX12_over 20 = .ok (.if_icmp .lt 21, 3) := by decide +kernel
theorem dX12_over_23 : decode cX12_over 23 = .ok (.iload_n 2, 1) := by decide +kernel
theorem dX12_over_24 : decode cX12_over 24 = .ok (.sipush 287, 3) := by decide +kernel
theorem dX12_over_27 : decode cX12_over 27 = .ok (.if_icmp .gt 14, 3) := by decide +kernel
theorem dX12_over_30 : decode cX12_over 30 = .ok (.iload_n 3, 1) := by decide +kernel
theorem dX12_over_31 : decode cX12_over 31 = .ok (.iconst 1, 1) := by decide +kernel
theorem dX12_over_32 : decode cX12_over 32 = .ok (.if_icmp .lt 9, 3) := by decide +kernel
theorem dX12_over_35 : decode cX12_over 35 = .ok (.iload_n 3, 1) := by decide +kernel
theorem dX12_over_36 : decode cX12_over 36 = .ok (.bipush 48, 2) := by decide +kernel
theorem dX12_over_38 : decode cX12_over 38 = .ok (.if_icmp .le 5, 3) := by decide +kernel
theorem dX12_over_41 : decode cX12_over 41 = .ok (.iconst (-1), 1) := by decide +kernel
theorem dX12_over_42 : decode cX12_over 42 = .ok (.ireturn, 1) := by decide +kernel
theorem dX12_over_43 : decode cX12_over 43 = .ok (.aload_n 0, 1) := by decide +kernel
theorem dX12_over_44 : decode cX12_over 44 = .ok (.getfield 80, 3) := by decide +kernel
theorem dX12_over_47 : decode cX12_over 47 = .ok (.aload_n 0, 1) := by decide +kernel
theorem dX12_over_48 : decode cX12_over 48 = .ok (.getfield 298, 3) := by decide +kernel
theorem dX12_over_51 : decode cX12_over 51 = .ok (.iconst 1, 1) := by decide +kernel
theorem dX12_over_52 : decode cX12_over 52 = .ok (.bastore, 1) := by decide +kernel
theorem dX12_over_53 : decode cX12_over 53 = .ok (.aload_n 0, 1) := by decide +kernel
theorem dX12_over_54 : decode cX12_over 54 = .ok (.getfield 86, 3) := by decide +kernel
theorem dX12_over_57 : decode cX12_over 57 = .ok (.aload_n 0, 1) := by decide +kernel
theorem dX12_over_58 : decode cX12_over 58 = .ok (.getfield 298, 3) := by decide +kernel
theorem dX12_over_61 : decode cX12_over 61 = .ok (.iload_n 1, 1) := by decide +kernel
theorem dX12_over_62 : decode cX12_over 62 = .ok (.iastore, 1) := by decide +kernel
theorem dX12_over_63 : decode cX12_over 63 = .ok (.aload_n 0, 1) := by decide +kernel
theorem dX12_over_64 : decode cX12_over 64 = .ok (.getfield 89, 3) := by decide +kernel
theorem dX12_over_67 : decode cX12_over 67 = .ok (.aload_n 0, 1) := by decide +kernel
theorem dX12_over_68 : decode cX12_over 68 = .ok (.getfield 298, 3) := by decide +kernel
theorem dX12_over_71 : decode cX12_over 71 = .ok (.iload_n 2, 1) := by decide +kernel
theorem dX12_over_72 : decode cX12_over 72 = .ok (.iastore, 1) := by decide +kernel
theorem dX12_over_73 : decode cX12_over 73 = .ok (.aload_n 0, 1) := by decide +kernel
theorem dX12_over_74 : decode cX12_over 74 = .ok (.getfield 92, 3) := by decide +kernel
theorem dX12_over_77 : decode cX12_over 77 = .ok (.aload_n 0, 1) := by decide +kernel
theorem dX12_over_78 : decode cX12_over 78 = .ok (.getfield 298, 3) := by decide +kernel
theorem dX12_over_81 : decode cX12_over 81 = .ok (.iload_n 3, 1) := by decide +kernel
theorem dX12_over_82 : decode cX12_over 82 = .ok (.iastore, 1) := by decide +kernel
theorem dX12_over_83 : decode cX12_over 83 = .ok (.aload_n 0, 1) := by decide +kernel
theorem dX12_over_84 : decode cX12_over 84 = .ok (.dup, 1) := by decide +kernel
theorem dX12_over_85 : decode cX12_over 85 = .ok (.getfield 298, 3) := by decide +kernel
theorem dX12_over_88 : decode cX12_over 88 = .ok (.iconst 1, 1) := by decide +kernel
theorem dX12_over_89 : decode cX12_over 89 = .ok (.iadd, 1) := by decide +kernel
theorem dX12_over_90 : decode cX12_over 90 = .ok (.putfield 298, 3) := by decide +kernel
theorem dX12_over_93 : decode cX12_over 93 = .ok (.aload_n 0, 1) := by decide +kernel
theorem dX12_over_94 : decode cX12_over 94 = .ok (.getfield 298, 3) := by decide +kernel
theorem dX12_over_97 : decode cX12_over 97 = .ok (.iconst 1, 1) := by decide +kernel
theorem dX12_over_98 : decode cX12_over 98 = .ok (.isub, 1) := by decide +kernel
theorem dX12_over_99 : decode cX12_over 99 = .ok (.ireturn, 1) := by decide +kernel
theorem dX12_recorder_0 : decode cX12_recorder 0 = .ok (.iload_n 1, 1) := by decide +kernel
theorem dX12_recorder_1 : decode cX12_recorder 1 = .ok (.iconst 1, 1) := by decide +kernel
theorem dX12_recorder_2 : decode cX12_recorder 2 = .ok (.if_icmp .lt 41, 3) := by decide +kernel
theorem dX12_recorder_5 : decode cX12_recorder 5 = .ok (.iload_n 1, 1) := by decide +kernel
theorem dX12_recorder_6 : decode cX12_recorder 6 = .ok (.iconst 3, 1) := by decide +kernel
theorem dX12_recorder_7 : decode cX12_recorder 7 = .ok (.if_icmp .gt 36, 3) := by decide +kernel
theorem dX12_recorder_10 : decode cX12_recorder 10 = .ok (.iload_n 2, 1) := by decide +kernel
theorem dX12_recorder_11 : decode cX12_recorder 11 = .ok (.ifCond .lt 32, 3) := by decide +kernel
theorem dX12_recorder_14 : decode cX12_recorder 14 = .ok (.iload_n 2, 1) := by decide +kernel
theorem dX12_recorder_15 : decode cX12_recorder 15 = .ok (.bipush 6, 2) := by decide +kernel
theorem dX12_recorder_17 : decode cX12_recorder 17 = .ok (.if_icmp .gt 26, 3) := by decide +kernel
theorem dX12_recorder_20 : decode cX12_recorder 20 = .ok (.iload_n 3, 1) := by decide +kernel
theorem dX12_recorder_21 : decode cX12_recorder 21 = .ok (.ifCond .lt 22, 3) := by decide +kernel
theorem dX12_recorder_24 : decode cX12_recorder 24 = .ok (.iload_n 3, 1) := by decide +kernel
theorem dX12_recorder_25 : decode cX12_recorder 25 = .ok (.bipush 6, 2) := by decide +kernel
theorem dX12_recorder_27 : decode cX12_recorder 27 = .ok (.if_icmp .gt 16, 3) := by decide +kernel
theorem dX12_recorder_30 : decode cX12_recorder 30 = .ok (.iload 4, 2) := by decide +kernel
theorem dX12_recorder_32 : decode cX12_recorder 32 = .ok (.ifCond .lt 11, 3) := by decide +kernel
theorem dX12_recorder_35 : decode cX12_recorder 35 = .ok (.iload 4, 2) := by decide +kernel
theorem dX12_recorder_37 : decode cX12_recorder 37 = .ok (.sipush 2000, 3) := by decide +kernel
theorem dX12_recorder_40 : decode cX12_recorder 40 = .ok (.if_icmp .le 5, 3) := by decide +kernel
theorem dX12_recorder_43 : decode cX12_recorder 43 = .ok (.iconst 0, 1) := by decide +kernel
theorem dX12_recorder_44 : decode cX12_recorder 44 = .ok (.ireturn, 1) := by decide +kernel
theorem dX12_recorder_45 : decode cX12_recorder 45 = .ok (.aload_n 0, 1) := by decide +kernel
theorem dX12_recorder_46 : decode cX12_recorder 46 = .ok (.iload_n 1, 1) := by decide +kernel
theorem dX12_recorder_47 : decode cX12_recorder 47 = .ok (.putfield 189, 3) := by decide +kernel
theorem dX12_recorder_50 : decode cX12_recorder 50 = .ok (.aload_n 0, 1) := by decide +kernel
theorem dX12_recorder_51 : decode cX12_recorder 51 = .ok (.iload_n 2, 1) := by decide +kernel
theorem dX12_recorder_52 : decode cX12_recorder 52 = .ok (.putfield 307, 3) := by decide +kernel
theorem dX12_recorder_55 : decode cX12_recorder 55 = .ok (.aload_n 0, 1) := by decide +kernel
theorem dX12_recorder_56 : decode cX12_recorder 56 = .ok (.iload_n 3, 1) := by decide +kernel
theorem dX12_recorder_57 : decode cX12_recorder 57 = .ok (.putfield 310, 3) := by decide +kernel
theorem dX12_recorder_60 : decode cX12_recorder 60 = .ok (.aload_n 0, 1) := by decide +kernel
theorem dX12_recorder_61 : decode cX12_recorder 61 = .ok (.iload 4, 2) := by decide +kernel
theorem dX12_recorder_63 : decode cX12_recorder 63 = .ok (.putfield 192, 3) := by decide +kernel
theorem dX12_recorder_66 : decode cX12_recorder 66 = .ok (.iconst 1, 1) := by decide +kernel
theorem dX12_recorder_67 : decode cX12_recorder 67 = .ok (.ireturn, 1) := by decide +kernel
theorem dX12_clock_0 : decode cX12_clock 0 = .ok (.iload_n 1, 1) := by decide +kernel
theorem dX12_clock_1 : decode cX12_clock 1 = .ok (.aload_n 0, 1) := by decide +kernel
theorem dX12_clock_2 : decode cX12_clock 2 = .ok (.getfield 313, 3) := by decide +kernel
theorem dX12_clock_5 : decode cX12_clock 5 = .ok (.if_icmp .lt 10, 3) := by decide +kernel
theorem dX12_clock_8 : decode cX12_clock 8 = .ok (.iload_n 1, 1) := by decide +kernel
theorem dX12_clock_9 : decode cX12_clock 9 = .ok (.invokestatic 316, 3) := by decide +kernel
theorem dX12_clock_12 : decode cX12_clock 12 = .ok (.ifCond .ne 5, 3) := by decide +kernel
theorem dX12_clock_15 : decode cX12_clock 15 = .ok (.iconst 0, 1) := by decide +kernel
theorem dX12_clock_16 : decode cX12_clock 16 = .ok (.ireturn, 1) := by decide +kernel
theorem dX12_clock_17 : decode cX12_clock 17 = .ok (.aload_n 0, 1) := by decide +kernel
