theorem sX12_init : ∀ q ∈ tX12_init, mSnd mInf iX12_init q.1 q.2 := by
  unfold tX12_init
  refine List.forall_mem_cons.mpr ⟨sn_aload_n dX12_init_0 rfl rfl, ?_⟩
  refine List.forall_mem_cons.mpr ⟨sn_objinit kt_1029 kt_28 kt_29 dX12_init_1 rfl, ?_⟩
  refine List.forall_mem_cons.mpr ⟨sn_aload_n dX12_init_4 rfl rfl, ?_⟩
  refine List.forall_mem_cons.mpr ⟨sn_sipush dX12_init_5 rfl (by decide) ⟨by decide, by decide⟩, ?_⟩
  refine List.forall_mem_cons.mpr ⟨sn_newB kt_130 dX12_init_8 rfl, ?_⟩
  refine List.forall_mem_cons.mpr ⟨sn_putr mCl_12 (by decide) rfl (Or.inr ⟨rfl, rfl, rfl⟩) kt_1037 dX12_init_10 rfl, ?_⟩
  refine List.forall_mem_cons.mpr ⟨sn_aload_n dX12_init_13 rfl rfl, ?_⟩
  refine List.forall_mem_cons.mpr ⟨sn_sipush dX12_init_14 rfl (by decide) ⟨by decide, by decide⟩, ?_⟩
  refine List.forall_mem_cons.mpr ⟨sn_newB kt_130 dX12_init_17 rfl, ?_⟩
  refine List.forall_mem_cons.mpr ⟨sn_putr mCl_12 (by decide) rfl (Or.inr ⟨rfl, rfl, rfl⟩) kt_1039 dX12_init_19 rfl, ?_⟩
  refine List.forall_mem_cons.mpr ⟨sn_aload_n dX12_init_22 rfl rfl, ?_⟩
  refine List.forall_mem_cons.mpr ⟨sn_sipush dX12_init_23 rfl (by decide) ⟨by decide, by decide⟩, ?_⟩
  refine List.forall_mem_cons.mpr ⟨sn_newI kt_99 dX12_init_26 rfl, ?_⟩
  refine List.forall_mem_cons.mpr ⟨sn_putr mCl_12 (by decide) rfl (Or.inr ⟨rfl, rfl, rfl⟩) kt_1041 dX12_init_28 rfl, ?_⟩
  refine List.forall_mem_cons.mpr ⟨sn_aload_n dX12_init_31 rfl rfl, ?_⟩
  refine List.forall_mem_cons.mpr ⟨sn_sipush dX12_init_32 rfl (by decide) ⟨by decide, by decide⟩, ?_⟩
  refine List.forall_mem_cons.mpr ⟨sn_newI kt_99 dX12_init_35 rfl, ?_⟩
  refine List.forall_mem_cons.mpr ⟨sn_putr mCl_12 (by decide) rfl (Or.inr ⟨rfl, rfl, rfl⟩) kt_1042 dX12_init_37 rfl, ?_⟩
  refine List.forall_mem_cons.mpr ⟨sn_aload_n dX12_init_40 rfl rfl, ?_⟩
  refine List.forall_mem_cons.mpr ⟨sn_sipush dX12_init_41 rfl (by decide) ⟨by decide, by decide⟩, ?_⟩
  refine List.forall_mem_cons.mpr ⟨sn_newI kt_99 dX12_init_44 rfl, ?_⟩
  refine List.forall_mem_cons.mpr ⟨sn_putr mCl_12 (by decide) rfl (Or.inr ⟨rfl, rfl, rfl⟩) kt_1043 dX12_init_46 rfl, ?_⟩
  refine List.forall_mem_cons.mpr ⟨sn_aload_n dX12_init_49 rfl rfl, ?_⟩
  refine List.forall_mem_cons.mpr ⟨sn_sipush dX12_init_50 rfl (by decide) ⟨by decide, by decide⟩, ?_⟩
  refine List.forall_mem_cons.mpr ⟨sn_newJ kt_1283 dX12_init_53 rfl, ?_⟩
  refine List.forall_mem_cons.mpr ⟨sn_putr mCl_12 (by decide) rfl (Or.inr ⟨rfl, rfl, rfl⟩) kt_1044 dX12_init_55 rfl, ?_⟩
  refine List.forall_mem_cons.mpr ⟨sn_aload_n dX12_init_58 rfl rfl, ?_⟩
  refine List.forall_mem_cons.mpr ⟨sn_bipush dX12_init_59 rfl (by decide) ⟨by decide, by decide⟩, ?_⟩
  refine List.forall_mem_cons.mpr ⟨sn_newJ kt_1283 dX12_init_61 rfl, ?_⟩
  refine List.forall_mem_cons.mpr ⟨sn_putr mCl_12 (by decide) rfl (Or.inr ⟨rfl, rfl, rfl⟩) kt_1045 dX12_init_63 rfl, ?_⟩
  refine List.forall_mem_cons.mpr ⟨sn_aload_n dX12_init_66 rfl rfl, ?_⟩
  refine List.forall_mem_cons.mpr ⟨sn_iconst dX12_init_67 rfl ⟨by decide, by decide⟩, ?_⟩
  refine List.forall_mem_cons.mpr ⟨sn_puti mCl_12 (by decide) rfl (Or.inl rfl) kt_1053 dX12_init_68 rfl, ?_⟩
  refine List.forall_mem_cons.mpr ⟨sn_aload_n dX12_init_71 rfl rfl, ?_⟩
  refine List.forall_mem_cons.mpr ⟨sn_iconst dX12_init_72 rfl ⟨by decide, by decide⟩, ?_⟩
  refine List.forall_mem_cons.mpr ⟨sn_newI kt_99 dX12_init_73 rfl, ?_⟩
  refine List.forall_mem_cons.mpr ⟨sn_putr mCl_12 (by decide) rfl (Or.inr ⟨rfl, rfl, rfl⟩) kt_1056 dX12_init_75 rfl, ?_⟩
  refine List.forall_mem_cons.mpr ⟨sn_aload_n dX12_init_78 rfl rfl, ?_⟩
  refine List.forall_mem_cons.mpr ⟨sn_bipush dX12_init_79 rfl (by decide) ⟨by decide, by decide⟩, ?_⟩
  refine List.forall_mem_cons.mpr ⟨sn_newI kt_99 dX12_init_81 rfl, ?_⟩
  refine List.forall_mem_cons.mpr ⟨sn_putr mCl_12 (by decide) rfl (Or.inr ⟨rfl, rfl, rfl⟩) kt_1057 dX12_init_83 rfl, ?_⟩
  refine List.forall_mem_cons.mpr ⟨sn_aload_n dX12_init_86 rfl rfl, ?_⟩
  refine List.forall_mem_cons.mpr ⟨sn_bipush dX12_init_87 rfl (by decide) ⟨by decide, by decide⟩, ?_⟩
  refine List.forall_mem_cons.mpr ⟨sn_newI kt_99 dX12_init_89 rfl, ?_⟩
  refine List.forall_mem_cons.mpr ⟨sn_putr mCl_12 (by decide) rfl (Or.inr ⟨rfl, rfl, rfl⟩) kt_1058 dX12_init_91 rfl, ?_⟩
  refine List.forall_mem_cons.mpr ⟨sn_aload_n dX12_init_94 rfl rfl, ?_⟩
  refine List.forall_mem_cons.mpr ⟨sn_iconst dX12_init_95 rfl ⟨by decide, by decide⟩, ?_⟩
  refine List.forall_mem_cons.mpr ⟨sn_newI kt_99 dX12_init_96 rfl, ?_⟩
  refine List.forall_mem_cons.mpr ⟨sn_putr mCl_12 (by decide) rfl (Or.inr ⟨rfl, rfl, rfl⟩) kt_1059 dX12_init_98 rfl, ?_⟩
  refine List.forall_mem_cons.mpr ⟨sn_aload_n dX12_init_101 rfl rfl, ?_⟩
  refine List.forall_mem_cons.mpr ⟨sn_sipush dX12_init_102 rfl (by decide) ⟨by decide, by decide⟩, ?_⟩
  refine List.forall_mem_cons.mpr ⟨sn_newI kt_99 dX12_init_105 rfl, ?_⟩
  refine List.forall_mem_cons.mpr ⟨sn_putr mCl_12 (by decide) rfl (Or.inr ⟨rfl, rfl, rfl⟩) kt_1060 dX12_init_107 rfl, ?_⟩
  refine List.forall_mem_cons.mpr ⟨sn_aload_n dX12_init_110 rfl rfl, ?_⟩
  refine List.forall_mem_cons.mpr ⟨sn_sipush dX12_init_111 rfl (by decide) ⟨by decide, by decide⟩, ?_⟩
  refine List.forall_mem_cons.mpr ⟨sn_newI kt_99 dX12_init_114 rfl, ?_⟩
  refine List.forall_mem_cons.mpr ⟨sn_putr mCl_12 (by decide) rfl (Or.inr ⟨rfl, rfl, rfl⟩) kt_1061 dX12_init_116 rfl, ?_⟩
  refine List.forall_mem_cons.mpr ⟨sn_aload_n dX12_init_119 rfl rfl, ?_⟩
  refine List.forall_mem_cons.mpr ⟨sn_sipush dX12_init_120 rfl (by decide) ⟨by decide, by decide⟩, ?_⟩
  refine List.forall_mem_cons.mpr ⟨sn_newI kt_99 dX12_init_123 rfl, ?_⟩
  refine List.forall_mem_cons.mpr ⟨sn_putr mCl_12 (by decide) rfl (Or.inr ⟨rfl, rfl, rfl⟩) kt_1062 dX12_init_125 rfl, ?_⟩
  refine List.forall_mem_cons.mpr ⟨sn_aload_n dX12_init_128 rfl rfl, ?_⟩
  refine List.forall_mem_cons.mpr ⟨sn_sipush dX12_init_129 rfl (by decide) ⟨by decide, by decide⟩, ?_⟩
  refine List.forall_mem_cons.mpr ⟨sn_newI kt_99 dX12_init_132 rfl, ?_⟩
  refine List.forall_mem_cons.mpr ⟨sn_putr mCl_12 (by decide) rfl (Or.inr ⟨rfl, rfl, rfl⟩) kt_1063 dX12_init_134 rfl, ?_⟩
  refine List.forall_mem_cons.mpr ⟨sn_aload_n dX12_init_137 rfl rfl, ?_⟩
  refine List.forall_mem_cons.mpr ⟨sn_sipush dX12_init_138 rfl (by decide) ⟨by decide, by decide⟩, ?_⟩
  refine List.forall_mem_cons.mpr ⟨sn_newZ kt_1284 dX12_init_141 rfl, ?_⟩
  refine List.forall_mem_cons.mpr ⟨sn_putr mCl_12 (by decide) rfl (Or.inr ⟨rfl, rfl, rfl⟩) kt_1064 dX12_init_143 rfl, ?_⟩
  refine List.forall_mem_cons.mpr ⟨sn_aload_n dX12_init_146 rfl rfl, ?_⟩
  refine List.forall_mem_cons.mpr ⟨sn_sipush dX12_init_147 rfl (by decide) ⟨by decide, by decide⟩, ?_⟩
  refine List.forall_mem_cons.mpr ⟨sn_newI kt_99 dX12_init_150 rfl, ?_⟩
  refine List.forall_mem_cons.mpr ⟨sn_putr mCl_12 (by decide) rfl (Or.inr ⟨rfl, rfl, rfl⟩) kt_1066 dX12_init_152 rfl, ?_⟩
  refine List.forall_mem_cons.mpr ⟨sn_aload_n dX12_init_155 rfl rfl, ?_⟩
  refine List.forall_mem_cons.mpr ⟨sn_sipush dX12_init_156 rfl (by decide) ⟨by decide, by decide⟩, ?_⟩
  refine List.forall_mem_cons.mpr ⟨sn_newI kt_99 dX12_init_159 rfl, ?_⟩
  refine List.forall_mem_cons.mpr ⟨sn_putr mCl_12 (by decide) rfl (Or.inr ⟨rfl, rfl, rfl⟩) kt_1067 dX12_init_161 rfl, ?_⟩
  refine List.forall_mem_cons.mpr ⟨sn_aload_n dX12_init_164 rfl rfl, ?_⟩
  refine List.forall_mem_cons.mpr ⟨sn_bipush dX12_init_165 rfl (by decide) ⟨by decide, by decide⟩, ?_⟩
  refine List.forall_mem_cons.mpr ⟨sn_newI kt_99 dX12_init_167 rfl, ?_⟩
  refine List.forall_mem_cons.mpr ⟨sn_putr mCl_12 (by decide) rfl (Or.inr ⟨rfl, rfl, rfl⟩) kt_1068 dX12_init_169 rfl, ?_⟩
  refine List.forall_mem_cons.mpr ⟨sn_aload_n dX12_init_172 rfl rfl, ?_⟩
  refine List.forall_mem_cons.mpr ⟨sn_bipush dX12_init_173 rfl (by decide) ⟨by decide, by decide⟩, ?_⟩
  refine List.forall_mem_cons.mpr ⟨sn_newI kt_99 dX12_init_175 rfl, ?_⟩
  refine List.forall_mem_cons.mpr ⟨sn_putr mCl_12 (by decide) rfl (Or.inr ⟨rfl, rfl, rfl⟩) kt_1072 dX12_init_177 rfl, ?_⟩
  refine List.forall_mem_cons.mpr ⟨sn_aload_n dX12_init_180 rfl rfl, ?_⟩
  refine List.forall_mem_cons.mpr ⟨sn_sipush dX12_init_181 rfl (by decide) ⟨by decide, by decide⟩, ?_⟩
  refine List.forall_mem_cons.mpr ⟨sn_newZ kt_1284 dX12_init_184 rfl, ?_⟩
  refine List.forall_mem_cons.mpr ⟨sn_putr mCl_12 (by decide) rfl (Or.inr ⟨rfl, rfl, rfl⟩) kt_1074 dX12_init_186 rfl, ?_⟩
  refine List.forall_mem_cons.mpr ⟨sn_aload_n dX12_init_189 rfl rfl, ?_⟩
  refine List.forall_mem_cons.mpr ⟨sn_sipush dX12_init_190 rfl (by decide) ⟨by decide, by decide⟩, ?_⟩
  refine List.forall_mem_cons.mpr ⟨sn_newI kt_99 dX12_init_193 rfl, ?_⟩
  refine List.forall_mem_cons.mpr ⟨sn_putr mCl_12 (by decide) rfl (Or.inr ⟨rfl, rfl, rfl⟩) kt_1075 dX12_init_195 rfl, ?_⟩
  refine List.forall_mem_cons.mpr ⟨sn_aload_n dX12_init_198 rfl rfl, ?_⟩
  refine List.forall_mem_cons.mpr ⟨sn_sipush dX12_init_199 rfl (by decide) ⟨by decide, by decide⟩, ?_⟩
  refine List.forall_mem_cons.mpr ⟨sn_newI kt_99 dX12_init_202 rfl, ?_⟩
  refine List.forall_mem_cons.mpr ⟨sn_putr mCl_12 (by decide) rfl (Or.inr ⟨rfl, rfl, rfl⟩) kt_1076 dX12_init_204 rfl, ?_⟩
  refine List.forall_mem_cons.mpr ⟨sn_aload_n dX12_init_207 rfl rfl, ?_⟩
  refine List.forall_mem_cons.mpr ⟨sn_sipush dX12_init_208 rfl (by decide) ⟨by decide, by decide⟩, ?_⟩
  refine List.forall_mem_cons.mpr ⟨sn_newI kt_99 dX12_init_211 rfl, ?_⟩
  refine List.forall_mem_cons.mpr ⟨sn_putr mCl_12 (by decide) rfl (Or.inr ⟨rfl, rfl, rfl⟩) kt_1077 dX12_init_213 rfl, ?_⟩
  refine List.forall_mem_cons.mpr ⟨sn_aload_n dX12_init_216 rfl rfl, ?_⟩
  refine List.forall_mem_cons.mpr ⟨sn_sipush dX12_init_217 rfl (by decide) ⟨by decide, by decide⟩, ?_⟩
  refine List.forall_mem_cons.mpr ⟨sn_newI kt_99 dX12_init_220 rfl, ?_⟩
  refine List.forall_mem_cons.mpr ⟨sn_putr mCl_12 (by decide) rfl (Or.inr ⟨rfl, rfl, rfl⟩) kt_1078 dX12_init_222 rfl, ?_⟩
  refine List.forall_mem_cons.mpr ⟨sn_aload_n dX12_init_225 rfl rfl, ?_⟩
  refine List.forall_mem_cons.mpr ⟨sn_sipush dX12_init_226 rfl (by decide) ⟨by decide, by decide⟩, ?_⟩
  refine List.forall_mem_cons.mpr ⟨sn_newI kt_99 dX12_init_229 rfl, ?_⟩
  refine List.forall_mem_cons.mpr ⟨sn_putr mCl_12 (by decide) rfl (Or.inr ⟨rfl, rfl, rfl⟩) kt_1079 dX12_init_231 rfl, ?_⟩
  refine List.forall_mem_cons.mpr ⟨sn_aload_n dX12_init_234 rfl rfl, ?_⟩
  refine List.forall_mem_cons.mpr ⟨sn_sipush dX12_init_235 rfl (by decide) ⟨by decide, by decide⟩, ?_⟩
  refine List.forall_mem_cons.mpr ⟨sn_newI kt_99 dX12_init_238 rfl, ?_⟩
  refine List.forall_mem_cons.mpr ⟨sn_putr mCl_12 (by decide) rfl (Or.inr ⟨rfl, rfl, rfl⟩) kt_1080 dX12_init_240 rfl, ?_⟩
  refine List.forall_mem_cons.mpr ⟨sn_aload_n dX12_init_243 rfl rfl, ?_⟩
  refine List.forall_mem_cons.mpr ⟨sn_sipush dX12_init_244 rfl (by decide) ⟨by decide, by decide⟩, ?_⟩
  refine List.forall_mem_cons.mpr ⟨sn_newZ kt_1284 dX12_init_247 rfl, ?_⟩
  refine List.forall_mem_cons.mpr ⟨sn_putr mCl_12 (by decide) rfl (Or.inr ⟨rfl, rfl, rfl⟩) kt_1081 dX12_init_249 rfl, ?_⟩
  refine List.forall_mem_cons.mpr ⟨sn_aload_n dX12_init_252 rfl rfl, ?_⟩
  refine List.forall_mem_cons.mpr ⟨sn_iconst dX12_init_253 rfl ⟨by decide, by decide⟩, ?_⟩
  refine List.forall_mem_cons.mpr ⟨sn_puti mCl_12 (by decide) rfl (Or.inl rfl) kt_1087 dX12_init_254 rfl, ?_⟩
  refine List.forall_mem_cons.mpr ⟨sn_aload_n dX12_init_257 rfl rfl, ?_⟩
  refine List.forall_mem_cons.mpr ⟨sn_sipush dX12_init_258 rfl (by decide) ⟨by decide, by decide⟩, ?_⟩
  refine List.forall_mem_cons.mpr ⟨sn_newI kt_99 dX12_init_261 rfl, ?_⟩
  refine List.forall_mem_cons.mpr ⟨sn_putr mCl_12 (by decide) rfl (Or.inr ⟨rfl, rfl, rfl⟩) kt_1088 dX12_init_263 rfl, ?_⟩
  refine List.forall_mem_cons.mpr ⟨sn_aload_n dX12_init_266 rfl rfl, ?_⟩
  refine List.forall_mem_cons.mpr ⟨sn_sipush dX12_init_267 rfl (by decide) ⟨by decide, by decide⟩, ?_⟩
  refine List.forall_mem_cons.mpr ⟨sn_newI kt_99 dX12_init_270 rfl, ?_⟩
  refine List.forall_mem_cons.mpr ⟨sn_putr mCl_12 (by decide) rfl (Or.inr ⟨rfl, rfl, rfl⟩) kt_1089 dX12_init_272 rfl, ?_⟩
  refine List.forall_mem_cons.mpr ⟨sn_aload_n dX12_init_275 rfl rfl, ?_⟩
  refine List.forall_mem_cons.mpr ⟨sn_sipush dX12_init_276 rfl (by decide) ⟨by decide, by decide⟩, ?_⟩
  refine List.forall_mem_cons.mpr ⟨sn_newI kt_99 dX12_init_279 rfl, ?_⟩
  refine List.forall_mem_cons.mpr ⟨sn_putr mCl_12 (by decide) rfl (Or.inr ⟨rfl, rfl, rfl⟩) kt_1090 dX12_init_281 rfl, ?_⟩
  refine List.forall_mem_cons.mpr ⟨sn_aload_n dX12_init_284 rfl rfl, ?_⟩
  refine List.forall_mem_cons.mpr ⟨sn_sipush dX12_init_285 rfl (by decide) ⟨by decide, by decide⟩, ?_⟩
  refine List.forall_mem_cons.mpr ⟨sn_newI kt_99 dX12_init_288 rfl, ?_⟩
  refine List.forall_mem_cons.mpr ⟨sn_putr mCl_12 (by decide) rfl (Or.inr ⟨rfl, rfl, rfl⟩) kt_1092 dX12_init_290 rfl, ?_⟩
  refine List.forall_mem_cons.mpr ⟨sn_aload_n dX12_init_293 rfl rfl, ?_⟩
  refine List.forall_mem_cons.mpr ⟨sn_sipush dX12_init_294 rfl (by decide) ⟨by decide, by decide⟩, ?_⟩
  refine List.forall_mem_cons.mpr ⟨sn_newI kt_99 dX12_init_297 rfl, ?_⟩
  refine List.forall_mem_cons.mpr ⟨sn_putr mCl_12 (by decide) rfl (Or.inr ⟨rfl, rfl, rfl⟩) kt_1093 dX12_init_299 rfl, ?_⟩
  refine List.forall_mem_cons.mpr ⟨sn_aload_n dX12_init_302 rfl rfl, ?_⟩
  refine List.forall_mem_cons.mpr ⟨sn_sipush dX12_init_303 rfl (by decide) ⟨by decide, by decide⟩, ?_⟩
  refine List.forall_mem_cons.mpr ⟨sn_newI kt_99 dX12_init_306 rfl, ?_⟩
  refine List.forall_mem_cons.mpr ⟨sn_putr mCl_12 (by decide) rfl (Or.inr ⟨rfl, rfl, rfl⟩) kt_1094 dX12_init_308 rfl, ?_⟩
  refine List.forall_mem_cons.mpr ⟨sn_aload_n dX12_init_311 rfl rfl, ?_⟩
  refine List.forall_mem_cons.mpr ⟨sn_sipush dX12_init_312 rfl (by decide) ⟨by decide, by decide⟩, ?_⟩
  refine List.forall_mem_cons.mpr ⟨sn_newI kt_99 dX12_init_315 rfl, ?_⟩
  refine List.forall_mem_cons.mpr ⟨sn_putr mCl_12 (by decide) rfl (Or.inr ⟨rfl, rfl, rfl⟩) kt_1095 dX12_init_317 rfl, ?_⟩
  refine List.forall_mem_cons.mpr ⟨sn_aload_n dX12_init_320 rfl rfl, ?_⟩
  refine List.forall_mem_cons.mpr ⟨sn_sipush dX12_init_321 rfl (by decide) ⟨by decide, by decide⟩, ?_⟩
  refine List.forall_mem_cons.mpr ⟨sn_newI kt_99 dX12_init_324 rfl, ?_⟩
  refine List.forall_mem_cons.mpr ⟨sn_putr mCl_12 (by decide) rfl (Or.inr ⟨rfl, rfl, rfl⟩) kt_1096 dX12_init_326 rfl, ?_⟩
  refine List.forall_mem_cons.mpr ⟨sn_aload_n dX12_init_329 rfl rfl, ?_⟩
  refine List.forall_mem_cons.mpr ⟨sn_iconst dX12_init_330 rfl ⟨by decide, by decide⟩, ?_⟩
  refine List.forall_mem_cons.mpr ⟨sn_puti mCl_12 (by decide) rfl (Or.inl rfl) kt_1097 dX12_init_331 rfl, ?_⟩
  refine List.forall_mem_cons.mpr ⟨sn_aload_n dX12_init_334 rfl rfl, ?_⟩
  refine List.forall_mem_cons.mpr ⟨sn_bipush dX12_init_335 rfl (by decide) ⟨by decide, by decide⟩, ?_⟩
  refine List.forall_mem_cons.mpr ⟨sn_newI kt_99 dX12_init_337 rfl, ?_⟩
  refine List.forall_mem_cons.mpr ⟨sn_putr mCl_12 (by decide) rfl (Or.inr ⟨rfl, rfl, rfl⟩) kt_1101 dX12_init_339 rfl, ?_⟩
  refine List.forall_mem_cons.mpr ⟨sn_aload_n dX12_init_342 rfl rfl, ?_⟩
  refine List.forall_mem_cons.mpr ⟨sn_bipush dX12_init_343 rfl (by decide) ⟨by decide, by decide⟩, ?_⟩
  refine List.forall_mem_cons.mpr ⟨sn_newI kt_99 dX12_init_345 rfl, ?_⟩
  refine List.forall_mem_cons.mpr ⟨sn_putr mCl_12 (by decide) rfl (Or.inr ⟨rfl, rfl, rfl⟩) kt_1102 dX12_init_347 rfl, ?_⟩
  refine List.forall_mem_cons.mpr ⟨sn_aload_n dX12_init_350 rfl rfl, ?_⟩
  refine List.forall_mem_cons.mpr ⟨sn_bipush dX12_init_351 rfl (by decide) ⟨by decide, by decide⟩, ?_⟩
  refine List.forall_mem_cons.mpr ⟨sn_newI kt_99 dX12_init_353 rfl, ?_⟩
  refine List.forall_mem_cons.mpr ⟨sn_putr mCl_12 (by decide) rfl (Or.inr ⟨rfl, rfl, rfl⟩) kt_1103 dX12_init_355 rfl, ?_⟩
  refine List.forall_mem_cons.mpr ⟨sn_aload_n dX12_init_358 rfl rfl, ?_⟩
  refine List.forall_mem_cons.mpr ⟨sn_bipush dX12_init_359 rfl (by decide) ⟨by decide, by decide⟩, ?_⟩
  refine List.forall_mem_cons.mpr ⟨sn_newI kt_99 dX12_init_361 rfl, ?_⟩
  refine List.forall_mem_cons.mpr ⟨sn_putr mCl_12 (by decide) rfl (Or.inr ⟨rfl, rfl, rfl⟩) kt_1104 dX12_init_363 rfl, ?_⟩
  refine List.forall_mem_cons.mpr ⟨sn_aload_n dX12_init_366 rfl rfl, ?_⟩
  refine List.forall_mem_cons.mpr ⟨sn_bipush dX12_init_367 rfl (by decide) ⟨by decide, by decide⟩, ?_⟩
  refine List.forall_mem_cons.mpr ⟨sn_newI kt_99 dX12_init_369 rfl, ?_⟩
  refine List.forall_mem_cons.mpr ⟨sn_putr mCl_12 (by decide) rfl (Or.inr ⟨rfl, rfl, rfl⟩) kt_1105 dX12_init_371 rfl, ?_⟩
  refine List.forall_mem_cons.mpr ⟨sn_aload_n dX12_init_374 rfl rfl, ?_⟩
  refine List.forall_mem_cons.mpr ⟨sn_bipush dX12_init_375 rfl (by decide) ⟨by decide, by decide⟩, ?_⟩
  refine List.forall_mem_cons.mpr ⟨sn_newI kt_99 dX12_init_377 rfl, ?_⟩
  refine List.forall_mem_cons.mpr ⟨sn_putr mCl_12 (by decide) rfl (Or.inr ⟨rfl, rfl, rfl⟩) kt_1106 dX12_init_379 rfl, ?_⟩
  refine List.forall_mem_cons.mpr ⟨sn_aload_n dX12_init_382 rfl rfl, ?_⟩
  refine List.forall_mem_cons.mpr ⟨sn_bipush dX12_init_383 rfl (by decide) ⟨by decide, by decide⟩, ?_⟩
  refine List.forall_mem_cons.mpr ⟨sn_newI kt_99 dX12_init_385 rfl, ?_⟩
  refine List.forall_mem_cons.mpr ⟨sn_putr mCl_12 (by decide) rfl (Or.inr ⟨rfl, rfl, rfl⟩) kt_1107 dX12_init_387 rfl, ?_⟩
  refine List.forall_mem_cons.mpr ⟨sn_aload_n dX12_init_390 rfl rfl, ?_⟩
  refine List.forall_mem_cons.mpr ⟨sn_bipush dX12_init_391 rfl (by decide) ⟨by decide, by decide⟩, ?_⟩
  refine List.forall_mem_cons.mpr ⟨sn_newI kt_99 dX12_init_393 rfl, ?_⟩
  refine List.forall_mem_cons.mpr ⟨sn_putr mCl_12 (by decide) rfl (Or.inr ⟨rfl, rfl, rfl⟩) kt_1108 dX12_init_395 rfl, ?_⟩
  refine List.forall_mem_cons.mpr ⟨sn_aload_n dX12_init_398 rfl rfl, ?_⟩
  refine List.forall_mem_cons.mpr ⟨sn_bipush dX12_init_399 rfl (by decide) ⟨by decide, by decide⟩, ?_⟩
  refine List.forall_mem_cons.mpr ⟨sn_newZ kt_1284 dX12_init_401 rfl, ?_⟩
  refine List.forall_mem_cons.mpr ⟨sn_putr mCl_12 (by decide) rfl (Or.inr ⟨rfl, rfl, rfl⟩) kt_1109 dX12_init_403 rfl, ?_⟩
  refine List.forall_mem_cons.mpr ⟨sn_aload_n dX12_init_406 rfl rfl, ?_⟩
  refine List.forall_mem_cons.mpr ⟨sn_bipush dX12_init_407 rfl (by decide) ⟨by decide, by decide⟩, ?_⟩
  refine List.forall_mem_cons.mpr ⟨sn_newZ kt_1284 dX12_init_409 rfl, ?_⟩
  refine List.forall_mem_cons.mpr ⟨sn_putr mCl_12 (by decide) rfl (Or.inr ⟨rfl, rfl, rfl⟩) kt_1110 dX12_init_411 rfl, ?_⟩
  refine List.forall_mem_cons.mpr ⟨sn_aload_n dX12_init_414 rfl rfl, ?_⟩
  refine List.forall_mem_cons.mpr ⟨sn_bipush dX12_init_415 rfl (by decide) ⟨by decide, by decide⟩, ?_⟩
  refine List.forall_mem_cons.mpr ⟨sn_newI kt_99 dX12_init_417 rfl, ?_⟩
  refine List.forall_mem_cons.mpr ⟨sn_putr mCl_12 (by decide) rfl (Or.inr ⟨rfl, rfl, rfl⟩) kt_1111 dX12_init_419 rfl, ?_⟩
  refine List.forall_mem_cons.mpr ⟨sn_aload_n dX12_init_422 rfl rfl, ?_⟩
  refine List.forall_mem_cons.mpr ⟨sn_bipush dX12_init_423 rfl (by decide) ⟨by decide, by decide⟩, ?_⟩
  refine List.forall_mem_cons.mpr ⟨sn_newI kt_99 dX12_init_425 rfl, ?_⟩
  refine List.forall_mem_cons.mpr ⟨sn_putr mCl_12 (by decide) rfl (Or.inr ⟨rfl, rfl, rfl⟩) kt_1112 dX12_init_427 rfl, ?_⟩
  refine List.forall_mem_cons.mpr ⟨sn_aload_n dX12_init_430 rfl rfl, ?_⟩
  refine List.forall_mem_cons.mpr ⟨sn_bipush dX12_init_431 rfl (by decide) ⟨by decide, by decide⟩, ?_⟩
  refine List.forall_mem_cons.mpr ⟨sn_newI kt_99 dX12_init_433 rfl, ?_⟩
  refine List.forall_mem_cons.mpr ⟨sn_putr mCl_12 (by decide) rfl (Or.inr ⟨rfl, rfl, rfl⟩) kt_1114 dX12_init_435 rfl, ?_⟩
  refine List.forall_mem_cons.mpr ⟨sn_aload_n dX12_init_438 rfl rfl, ?_⟩
  refine List.forall_mem_cons.mpr ⟨sn_bipush dX12_init_439 rfl (by decide) ⟨by decide, by decide⟩, ?_⟩
  refine List.forall_mem_cons.mpr ⟨sn_newI kt_99 dX12_init_441 rfl, ?_⟩
  refine List.forall_mem_cons.mpr ⟨sn_putr mCl_12 (by decide) rfl (Or.inr ⟨rfl, rfl, rfl⟩) kt_1115 dX12_init_443 rfl, ?_⟩
  refine List.forall_mem_cons.mpr ⟨sn_aload_n dX12_init_446 rfl rfl, ?_⟩
  refine List.forall_mem_cons.mpr ⟨sn_bipush dX12_init_447 rfl (by decide) ⟨by decide, by decide⟩, ?_⟩
  refine List.forall_mem_cons.mpr ⟨sn_newI kt_99 dX12_init_449 rfl, ?_⟩
  refine List.forall_mem_cons.mpr ⟨sn_putr mCl_12 (by decide) rfl (Or.inr ⟨rfl, rfl, rfl⟩) kt_1116 dX12_init_451 rfl, ?_⟩
  refine List.forall_mem_cons.mpr ⟨sn_aload_n dX12_init_454 rfl rfl, ?_⟩
  refine List.forall_mem_cons.mpr ⟨sn_bipush dX12_init_455 rfl (by decide) ⟨by decide, by decide⟩, ?_⟩
  refine List.forall_mem_cons.mpr ⟨sn_newI kt_99 dX12_init_457 rfl, ?_⟩
  refine List.forall_mem_cons.mpr ⟨sn_putr mCl_12 (by decide) rfl (Or.inr ⟨rfl, rfl, rfl⟩) kt_1117 dX12_init_459 rfl, ?_⟩
  refine List.forall_mem_cons.mpr ⟨sn_aload_n dX12_init_462 rfl rfl, ?_⟩
  refine List.forall_mem_cons.mpr ⟨sn_getr mCl_12 (by decide) rfl kt_1045 dX12_init_463 rfl, ?_⟩
  refine List.forall_mem_cons.mpr ⟨sn_iconst dX12_init_466 rfl ⟨by decide, by decide⟩, ?_⟩
  refine List.forall_mem_cons.mpr ⟨sn_bipush dX12_init_467 rfl (by decide) ⟨by decide, by decide⟩, ?_⟩
  refine List.forall_mem_cons.mpr ⟨sn_bipush dX12_init_469 rfl (by decide) ⟨by decide, by decide⟩, ?_⟩
  refine List.forall_mem_cons.mpr ⟨sn_bipush dX12_init_471 rfl (by decide) ⟨by decide, by decide⟩, ?_⟩
  refine List.forall_mem_cons.mpr ⟨sn_bipush dX12_init_473 rfl (by decide) ⟨by decide, by decide⟩, ?_⟩
  refine List.forall_mem_cons.mpr ⟨sn_iconst dX12_init_475 rfl ⟨by decide, by decide⟩, ?_⟩
  refine List.forall_mem_cons.mpr ⟨sn_iconst dX12_init_476 rfl ⟨by decide, by decide⟩, ?_⟩
  refine List.forall_mem_cons.mpr ⟨sn_iconst dX12_init_477 rfl ⟨by decide, by decide⟩, ?_⟩
  refine List.forall_mem_cons.mpr ⟨sn_callS mt_130 kt_1030 kt_1031 dX12_init_478 rfl, ?_⟩
  refine List.forall_mem_cons.mpr ⟨sn_last dX12_init_481 rfl, ?_⟩
  refine List.forall_mem_cons.mpr ⟨sn_aload_n dX12_init_482 rfl rfl, ?_⟩
  refine List.forall_mem_cons.mpr ⟨sn_getr mCl_12 (by decide) rfl kt_1045 dX12_init_483 rfl, ?_⟩
  refine List.forall_mem_cons.mpr ⟨sn_iconst dX12_init_486 rfl ⟨by decide, by decide⟩, ?_⟩
  refine List.forall_mem_cons.mpr ⟨sn_bipush dX12_init_487 rfl (by decide) ⟨by decide, by decide⟩, ?_⟩
  refine List.forall_mem_cons.mpr ⟨sn_bipush dX12_init_489 rfl (by decide) ⟨by decide, by decide⟩, ?_⟩
  refine List.forall_mem_cons.mpr ⟨sn_iconst dX12_init_491 rfl ⟨by decide, by decide⟩, ?_⟩
  refine List.forall_mem_cons.mpr ⟨sn_iconst dX12_init_492 rfl ⟨by decide, by decide⟩, ?_⟩
  refine List.forall_mem_cons.mpr ⟨sn_iconst dX12_init_493 rfl ⟨by decide, by decide⟩, ?_⟩
  refine List.forall_mem_cons.mpr ⟨sn_iconst dX12_init_494 rfl ⟨by decide, by decide⟩, ?_⟩
  refine List.forall_mem_cons.mpr ⟨sn_iconst dX12_init_495 rfl ⟨by decide, by decide⟩, ?_⟩
  refine List.forall_mem_cons.mpr ⟨sn_callS mt_130 kt_1030 kt_1031 dX12_init_496 rfl, ?_⟩
  refine List.forall_mem_cons.mpr ⟨sn_last dX12_init_499 rfl, ?_⟩
  refine List.forall_mem_cons.mpr ⟨sn_aload_n dX12_init_500 rfl rfl, ?_⟩
  refine List.forall_mem_cons.mpr ⟨sn_getr mCl_12 (by decide) rfl kt_1045 dX12_init_501 rfl, ?_⟩
  refine List.forall_mem_cons.mpr ⟨sn_iconst dX12_init_504 rfl ⟨by decide, by decide⟩, ?_⟩
  refine List.forall_mem_cons.mpr ⟨sn_bipush dX12_init_505 rfl (by decide) ⟨by decide, by decide⟩, ?_⟩
  refine List.forall_mem_cons.mpr ⟨sn_bipush dX12_init_507 rfl (by decide) ⟨by decide, by decide⟩, ?_⟩
  refine List.forall_mem_cons.mpr ⟨sn_bipush dX12_init_509 rfl (by decide) ⟨by decide, by decide⟩, ?_⟩
  refine List.forall_mem_cons.mpr ⟨sn_bipush dX12_init_511 rfl (by decide) ⟨by decide, by decide⟩, ?_⟩
  refine List.forall_mem_cons.mpr ⟨sn_bipush dX12_init_513 rfl (by decide) ⟨by decide, by decide⟩, ?_⟩
  refine List.forall_mem_cons.mpr ⟨sn_iconst dX12_init_515 rfl ⟨by decide, by decide⟩, ?_⟩
  refine List.forall_mem_cons.mpr ⟨sn_iconst dX12_init_516 rfl ⟨by decide, by decide⟩, ?_⟩
  refine List.forall_mem_cons.mpr ⟨sn_callS mt_130 kt_1030 kt_1031 dX12_init_517 rfl, ?_⟩
  refine List.forall_mem_cons.mpr ⟨sn_last dX12_init_520 rfl, ?_⟩
  refine List.forall_mem_cons.mpr ⟨sn_aload_n dX12_init_521 rfl rfl, ?_⟩
  refine List.forall_mem_cons.mpr ⟨sn_getr mCl_12 (by decide) rfl kt_1045 dX12_init_522 rfl, ?_⟩
  refine List.forall_mem_cons.mpr ⟨sn_iconst dX12_init_525 rfl ⟨by decide, by decide⟩, ?_⟩
  refine List.forall_mem_cons.mpr ⟨sn_bipush dX12_init_526 rfl (by decide) ⟨by decide, by decide⟩, ?_⟩
  refine List.forall_mem_cons.mpr ⟨sn_bipush dX12_init_528 rfl (by decide) ⟨by decide, by decide⟩, ?_⟩
  refine List.forall_mem_cons.mpr ⟨sn_iconst dX12_init_530 rfl ⟨by decide, by decide⟩, ?_⟩
  refine List.forall_mem_cons.mpr ⟨sn_iconst dX12_init_531 rfl ⟨by decide, by decide⟩, ?_⟩
  refine List.forall_mem_cons.mpr ⟨sn_iconst dX12_init_532 rfl ⟨by decide, by decide⟩, ?_⟩
  refine List.forall_mem_cons.mpr ⟨sn_iconst dX12_init_533 rfl ⟨by decide, by decide⟩, ?_⟩
  refine List.forall_mem_cons.mpr ⟨sn_iconst dX12_init_534 rfl ⟨by decide, by decide⟩, ?_⟩
  refine List.forall_mem_cons.mpr ⟨sn_callS mt_130 kt_1030 kt_1031 dX12_init_535 rfl, ?_⟩
  refine List.forall_mem_cons.mpr ⟨sn_last dX12_init_538 rfl, ?_⟩
  refine List.forall_mem_cons.mpr ⟨sn_aload_n dX12_init_539 rfl rfl, ?_⟩
  refine List.forall_mem_cons.mpr ⟨sn_getr mCl_12 (by decide) rfl kt_1045 dX12_init_540 rfl, ?_⟩
  refine List.forall_mem_cons.mpr ⟨sn_iconst dX12_init_543 rfl ⟨by decide, by decide⟩, ?_⟩
  refine List.forall_mem_cons.mpr ⟨sn_bipush dX12_init_544 rfl (by decide) ⟨by decide, by decide⟩, ?_⟩
  refine List.forall_mem_cons.mpr ⟨sn_bipush dX12_init_546 rfl (by decide) ⟨by decide, by decide⟩, ?_⟩
  refine List.forall_mem_cons.mpr ⟨sn_bipush dX12_init_548 rfl (by decide) ⟨by decide, by decide⟩, ?_⟩
  refine List.forall_mem_cons.mpr ⟨sn_iconst dX12_init_550 rfl ⟨by decide, by decide⟩, ?_⟩
  refine List.forall_mem_cons.mpr ⟨sn_iconst dX12_init_551 rfl ⟨by decide, by decide⟩, ?_⟩
  refine List.forall_mem_cons.mpr ⟨sn_iconst dX12_init_552 rfl ⟨by decide, by decide⟩, ?_⟩
  refine List.forall_mem_cons.mpr ⟨sn_iconst dX12_init_553 rfl ⟨by decide, by decide⟩, ?_⟩
  refine List.forall_mem_cons.mpr ⟨sn_callS mt_130 kt_1030 kt_1031 dX12_init_554 rfl, ?_⟩
  refine List.forall_mem_cons.mpr ⟨sn_last dX12_init_557 rfl, ?_⟩
  refine List.forall_mem_cons.mpr ⟨sn_aload_n dX12_init_558 rfl rfl, ?_⟩
  refine List.forall_mem_cons.mpr ⟨sn_getr mCl_12 (by decide) rfl kt_1045 dX12_init_559 rfl, ?_⟩
  refine List.forall_mem_cons.mpr ⟨sn_iconst dX12_init_562 rfl ⟨by decide, by decide⟩, ?_⟩
  refine List.forall_mem_cons.mpr ⟨sn_bipush dX12_init_563 rfl (by decide) ⟨by decide, by decide⟩, ?_⟩
  refine List.forall_mem_cons.mpr ⟨sn_bipush dX12_init_565 rfl (by decide) ⟨by decide, by decide⟩, ?_⟩
  refine List.forall_mem_cons.mpr ⟨sn_bipush dX12_init_567 rfl (by decide) ⟨by decide, by decide⟩, ?_⟩
  refine List.forall_mem_cons.mpr ⟨sn_bipush dX12_init_569 rfl (by decide) ⟨by decide, by decide⟩, ?_⟩
  refine List.forall_mem_cons.mpr ⟨sn_iconst dX12_init_571 rfl ⟨by decide, by decide⟩, ?_⟩
  refine List.forall_mem_cons.mpr ⟨sn_iconst dX12_init_572 rfl ⟨by decide, by decide⟩, ?_⟩
  refine List.forall_mem_cons.mpr ⟨sn_iconst dX12_init_573 rfl ⟨by decide, by decide⟩, ?_⟩
  refine List.forall_mem_cons.mpr ⟨sn_callS mt_130 kt_1030 kt_1031 dX12_init_574 rfl, ?_⟩
  refine List.forall_mem_cons.mpr ⟨sn_last dX12_init_577 rfl, ?_⟩
  refine List.forall_mem_cons.mpr ⟨sn_aload_n dX12_init_578 rfl rfl, ?_⟩
  refine List.forall_mem_cons.mpr ⟨sn_getr mCl_12 (by decide) rfl kt_1045 dX12_init_579 rfl, ?_⟩
  refine List.forall_mem_cons.mpr ⟨sn_bipush dX12_init_582 rfl (by decide) ⟨by decide, by decide⟩, ?_⟩
  refine List.forall_mem_cons.mpr ⟨sn_bipush dX12_init_584 rfl (by decide) ⟨by decide, by decide⟩, ?_⟩
  refine List.forall_mem_cons.mpr ⟨sn_bipush dX12_init_586 rfl (by decide) ⟨by decide, by decide⟩, ?_⟩
  refine List.forall_mem_cons.mpr ⟨sn_bipush dX12_init_588 rfl (by decide) ⟨by decide, by decide⟩, ?_⟩
  refine List.forall_mem_cons.mpr ⟨sn_bipush dX12_init_590 rfl (by decide) ⟨by decide, by decide⟩, ?_⟩
  refine List.forall_mem_cons.mpr ⟨sn_bipush dX12_init_592 rfl (by decide) ⟨by decide, by decide⟩, ?_⟩
  refine List.forall_mem_cons.mpr ⟨sn_iconst dX12_init_594 rfl ⟨by decide, by decide⟩, ?_⟩
  refine List.forall_mem_cons.mpr ⟨sn_iconst dX12_init_595 rfl ⟨by decide, by decide⟩, ?_⟩
  refine List.forall_mem_cons.mpr ⟨sn_callS mt_130 kt_1030 kt_1031 dX12_init_596 rfl, ?_⟩
  refine List.forall_mem_cons.mpr ⟨sn_last dX12_init_599 rfl, ?_⟩
  refine List.forall_mem_cons.mpr ⟨sn_aload_n dX12_init_600 rfl rfl, ?_⟩
  refine List.forall_mem_cons.mpr ⟨sn_getr mCl_12 (by decide) rfl kt_1045 dX12_init_601 rfl, ?_⟩
  refine List.forall_mem_cons.mpr ⟨sn_bipush dX12_init_604 rfl (by decide) ⟨by decide, by decide⟩, ?_⟩
  refine List.forall_mem_cons.mpr ⟨sn_bipush dX12_init_606 rfl (by decide) ⟨by decide, by decide⟩, ?_⟩
  refine List.forall_mem_cons.mpr ⟨sn_bipush dX12_init_608 rfl (by decide) ⟨by decide, by decide⟩, ?_⟩
  refine List.forall_mem_cons.mpr ⟨sn_bipush dX12_init_610 rfl (by decide) ⟨by decide, by decide⟩, ?_⟩
  refine List.forall_mem_cons.mpr ⟨sn_bipush dX12_init_612 rfl (by decide) ⟨by decide, by decide⟩, ?_⟩
  refine List.forall_mem_cons.mpr ⟨sn_bipush dX12_init_614 rfl (by decide) ⟨by decide, by decide⟩, ?_⟩
  refine List.forall_mem_cons.mpr ⟨sn_iconst dX12_init_616 rfl ⟨by decide, by decide⟩, ?_⟩
  refine List.forall_mem_cons.mpr ⟨sn_iconst dX12_init_617 rfl ⟨by decide, by decide⟩, ?_⟩
  refine List.forall_mem_cons.mpr ⟨sn_callS mt_130 kt_1030 kt_1031 dX12_init_618 rfl, ?_⟩
  refine List.forall_mem_cons.mpr ⟨sn_last dX12_init_621 rfl, ?_⟩
  refine List.forall_mem_cons.mpr ⟨sn_aload_n dX12_init_622 rfl rfl, ?_⟩
  refine List.forall_mem_cons.mpr ⟨sn_getr mCl_12 (by decide) rfl kt_1045 dX12_init_623 rfl, ?_⟩
  refine List.forall_mem_cons.mpr ⟨sn_bipush dX12_init_626 rfl (by decide) ⟨by decide, by decide⟩, ?_⟩
  refine List.forall_mem_cons.mpr ⟨sn_bipush dX12_init_628 rfl (by decide) ⟨by decide, by decide⟩, ?_⟩
  refine List.forall_mem_cons.mpr ⟨sn_bipush dX12_init_630 rfl (by decide) ⟨by decide, by decide⟩, ?_⟩
  refine List.forall_mem_cons.mpr ⟨sn_bipush dX12_init_632 rfl (by decide) ⟨by decide, by decide⟩, ?_⟩
  refine List.forall_mem_cons.mpr ⟨sn_bipush dX12_init_634 rfl (by decide) ⟨by decide, by decide⟩, ?_⟩
  refine List.forall_mem_cons.mpr ⟨sn_bipush dX12_init_636 rfl (by decide) ⟨by decide, by decide⟩, ?_⟩
  refine List.forall_mem_cons.mpr ⟨sn_bipush dX12_init_638 rfl (by decide) ⟨by decide, by decide⟩, ?_⟩
  refine List.forall_mem_cons.mpr ⟨sn_bipush dX12_init_640 rfl (by decide) ⟨by decide, by decide⟩, ?_⟩
  refine List.forall_mem_cons.mpr ⟨sn_callS mt_130 kt_1030 kt_1031 dX12_init_642 rfl, ?_⟩
  refine List.forall_mem_cons.mpr ⟨sn_last dX12_init_645 rfl, ?_⟩
  refine List.forall_mem_cons.mpr ⟨sn_aload_n dX12_init_646 rfl rfl, ?_⟩
  refine List.forall_mem_cons.mpr ⟨sn_getr mCl_12 (by decide) rfl kt_1045 dX12_init_647 rfl, ?_⟩
  refine List.forall_mem_cons.mpr ⟨sn_bipush dX12_init_650 rfl (by decide) ⟨by decide, by decide⟩, ?_⟩
  refine List.forall_mem_cons.mpr ⟨sn_bipush dX12_init_652 rfl (by decide) ⟨by decide, by decide⟩, ?_⟩
  refine List.forall_mem_cons.mpr ⟨sn_bipush dX12_init_654 rfl (by decide) ⟨by decide, by decide⟩, ?_⟩
  refine List.forall_mem_cons.mpr ⟨sn_bipush dX12_init_656 rfl (by decide) ⟨by decide, by decide⟩, ?_⟩
  refine List.forall_mem_cons.mpr ⟨sn_bipush dX12_init_658 rfl (by decide) ⟨by decide, by decide⟩, ?_⟩
  refine List.forall_mem_cons.mpr ⟨sn_bipush dX12_init_660 rfl (by decide) ⟨by decide, by decide⟩, ?_⟩
  refine List.forall_mem_cons.mpr ⟨sn_bipush dX12_init_662 rfl (by decide) ⟨by decide, by decide⟩, ?_⟩
  refine List.forall_mem_cons.mpr ⟨sn_bipush dX12_init_664 rfl (by decide) ⟨by decide, by decide⟩, ?_⟩
  refine List.forall_mem_cons.mpr ⟨sn_callS mt_130 kt_1030 kt_1031 dX12_init_666 rfl, ?_⟩
  refine List.forall_mem_cons.mpr ⟨sn_last dX12_init_669 rfl, ?_⟩
  refine List.forall_mem_cons.mpr ⟨sn_aload_n dX12_init_670 rfl rfl, ?_⟩
  refine List.forall_mem_cons.mpr ⟨sn_getr mCl_12 (by decide) rfl kt_1045 dX12_init_671 rfl, ?_⟩
  refine List.forall_mem_cons.mpr ⟨sn_bipush dX12_init_674 rfl (by decide) ⟨by decide, by decide⟩, ?_⟩
  refine List.forall_mem_cons.mpr ⟨sn_bipush dX12_init_676 rfl (by decide) ⟨by decide, by decide⟩, ?_⟩
  refine List.forall_mem_cons.mpr ⟨sn_bipush dX12_init_678 rfl (by decide) ⟨by decide, by decide⟩, ?_⟩
  refine List.forall_mem_cons.mpr ⟨sn_bipush dX12_init_680 rfl (by decide) ⟨by decide, by decide⟩, ?_⟩
  refine List.forall_mem_cons.mpr ⟨sn_bipush dX12_init_682 rfl (by decide) ⟨by decide, by decide⟩, ?_⟩
  refine List.forall_mem_cons.mpr ⟨sn_iconst dX12_init_684 rfl ⟨by decide, by decide⟩, ?_⟩
  refine List.forall_mem_cons.mpr ⟨sn_iconst dX12_init_685 rfl ⟨by decide, by decide⟩, ?_⟩
  refine List.forall_mem_cons.mpr ⟨sn_iconst dX12_init_686 rfl ⟨by decide, by decide⟩, ?_⟩
  refine List.forall_mem_cons.mpr ⟨sn_callS mt_130 kt_1030 kt_1031 dX12_init_687 rfl, ?_⟩
  refine List.forall_mem_cons.mpr ⟨sn_last dX12_init_690 rfl, ?_⟩
  refine List.forall_mem_cons.mpr ⟨sn_aload_n dX12_init_691 rfl rfl, ?_⟩
  refine List.forall_mem_cons.mpr ⟨sn_getr mCl_12 (by decide) rfl kt_1045 dX12_init_692 rfl, ?_⟩
  refine List.forall_mem_cons.mpr ⟨sn_bipush dX12_init_695 rfl (by decide) ⟨by decide, by decide⟩, ?_⟩
  refine List.forall_mem_cons.mpr ⟨sn_bipush dX12_init_697 rfl (by decide) ⟨by decide, by decide⟩, ?_⟩
  refine List.forall_mem_cons.mpr ⟨sn_bipush dX12_init_699 rfl (by decide) ⟨by decide, by decide⟩, ?_⟩
  refine List.forall_mem_cons.mpr ⟨sn_bipush dX12_init_701 rfl (by decide) ⟨by decide, by decide⟩, ?_⟩
  refine List.forall_mem_cons.mpr ⟨sn_bipush dX12_init_703 rfl (by decide) ⟨by decide, by decide⟩, ?_⟩
  refine List.forall_mem_cons.mpr ⟨sn_bipush dX12_init_705 rfl (by decide) ⟨by decide, by decide⟩, ?_⟩
  refine List.forall_mem_cons.mpr ⟨sn_iconst dX12_init_707 rfl ⟨by decide, by decide⟩, ?_⟩
  refine List.forall_mem_cons.mpr ⟨sn_iconst dX12_init_708 rfl ⟨by decide, by decide⟩, ?_⟩
  refine List.forall_mem_cons.mpr ⟨sn_callS mt_130 kt_1030 kt_1031 dX12_init_709 rfl, ?_⟩
  refine List.forall_mem_cons.mpr ⟨sn_last dX12_init_712 rfl, ?_⟩
  refine List.forall_mem_cons.mpr ⟨sn_aload_n dX12_init_713 rfl rfl, ?_⟩
  refine List.forall_mem_cons.mpr ⟨sn_getr mCl_12 (by decide) rfl kt_1045 dX12_init_714 rfl, ?_⟩
  refine List.forall_mem_cons.mpr ⟨sn_bipush dX12_init_717 rfl (by decide) ⟨by decide, by decide⟩, ?_⟩
  refine List.forall_mem_cons.mpr ⟨sn_bipush dX12_init_719 rfl (by decide) ⟨by decide, by decide⟩, ?_⟩
  refine List.forall_mem_cons.mpr ⟨sn_bipush dX12_init_721 rfl (by decide) ⟨by decide, by decide⟩, ?_⟩
  refine List.forall_mem_cons.mpr ⟨sn_bipush dX12_init_723 rfl (by decide) ⟨by decide, by decide⟩, ?_⟩
  refine List.forall_mem_cons.mpr ⟨sn_bipush dX12_init_725 rfl (by decide) ⟨by decide, by decide⟩, ?_⟩
  refine List.forall_mem_cons.mpr ⟨sn_bipush dX12_init_727 rfl (by decide) ⟨by decide, by decide⟩, ?_⟩
  refine List.forall_mem_cons.mpr ⟨sn_bipush dX12_init_729 rfl (by decide) ⟨by decide, by decide⟩, ?_⟩
  refine List.forall_mem_cons.mpr ⟨sn_iconst dX12_init_731 rfl ⟨by decide, by decide⟩, ?_⟩
  refine List.forall_mem_cons.mpr ⟨sn_callS mt_130 kt_1030 kt_1031 dX12_init_732 rfl, ?_⟩
  refine List.forall_mem_cons.mpr ⟨sn_last dX12_init_735 rfl, ?_⟩
  refine List.forall_mem_cons.mpr ⟨sn_aload_n dX12_init_736 rfl rfl, ?_⟩
  refine List.forall_mem_cons.mpr ⟨sn_getr mCl_12 (by decide) rfl kt_1045 dX12_init_737 rfl, ?_⟩
  refine List.forall_mem_cons.mpr ⟨sn_bipush dX12_init_740 rfl (by decide) ⟨by decide, by decide⟩, ?_⟩
  refine List.forall_mem_cons.mpr ⟨sn_bipush dX12_init_742 rfl (by decide) ⟨by decide, by decide⟩, ?_⟩
  refine List.forall_mem_cons.mpr ⟨sn_bipush dX12_init_744 rfl (by decide) ⟨by decide, by decide⟩, ?_⟩
  refine List.forall_mem_cons.mpr ⟨sn_bipush dX12_init_746 rfl (by decide) ⟨by decide, by decide⟩, ?_⟩
  refine List.forall_mem_cons.mpr ⟨sn_bipush dX12_init_748 rfl (by decide) ⟨by decide, by decide⟩, ?_⟩
  refine List.forall_mem_cons.mpr ⟨sn_bipush dX12_init_750 rfl (by decide) ⟨by decide, by decide⟩, ?_⟩
  refine List.forall_mem_cons.mpr ⟨sn_iconst dX12_init_752 rfl ⟨by decide, by decide⟩, ?_⟩
  refine List.forall_mem_cons.mpr ⟨sn_iconst dX12_init_753 rfl ⟨by decide, by decide⟩, ?_⟩
  refine List.forall_mem_cons.mpr ⟨sn_callS mt_130 kt_1030 kt_1031 dX12_init_754 rfl, ?_⟩
  refine List.forall_mem_cons.mpr ⟨sn_last dX12_init_757 rfl, ?_⟩
  refine List.forall_mem_cons.mpr ⟨sn_aload_n dX12_init_758 rfl rfl, ?_⟩
  refine List.forall_mem_cons.mpr ⟨sn_iconst dX12_init_759 rfl ⟨by decide, by decide⟩, ?_⟩
  refine List.forall_mem_cons.mpr ⟨sn_puti mCl_12 (by decide) rfl (Or.inl rfl) kt_1070 dX12_init_760 rfl, ?_⟩
  refine List.forall_mem_cons.mpr ⟨sn_aload_n dX12_init_763 rfl rfl, ?_⟩
  refine List.forall_mem_cons.mpr ⟨sn_iconst dX12_init_764 rfl ⟨by decide, by decide⟩, ?_⟩
  refine List.forall_mem_cons.mpr ⟨sn_puti mCl_12 (by decide) rfl (Or.inl rfl) kt_1082 dX12_init_765 rfl, ?_⟩
  refine List.forall_mem_cons.mpr ⟨sn_aload_n dX12_init_768 rfl rfl, ?_⟩
  refine List.forall_mem_cons.mpr ⟨sn_sipush dX12_init_769 rfl (by decide) ⟨by decide, by decide⟩, ?_⟩
  refine List.forall_mem_cons.mpr ⟨sn_puti mCl_12 (by decide) rfl (Or.inl rfl) kt_1085 dX12_init_772 rfl, ?_⟩
  refine List.forall_mem_cons.mpr ⟨sn_vret rfl dX12_init_775, ?_⟩
  exact List.forall_mem_nil _
theorem sX12_feed : ∀ q ∈ tX12_feed, mSnd mInf iX12_feed q.1 q.2 := by
  unfold tX12_feed
  refine List.forall_mem_cons.mpr ⟨sn_aload_n dX12_feed_0 rfl rfl, ?_⟩
  refine List.forall_mem_cons.mpr ⟨sn_geti mCl_12 (by decide) rfl kt_1038 dX12_feed_1 rfl, ?_⟩
  refine List.forall_mem_cons.mpr ⟨sn_bipush dX12_feed_4 rfl (by decide) ⟨by decide, by decide⟩, ?_⟩
  refine List.forall_mem_cons.mpr ⟨sn_iadd dX12_feed_6 rfl, ?_⟩
  refine List.forall_mem_cons.mpr ⟨sn_sipush dX12_feed_7 rfl (by decide) ⟨by decide, by decide⟩, ?_⟩
  refine List.forall_mem_cons.mpr ⟨sn_icmple dX12_feed_10 (by decide) rfl, ?_⟩
  refine List.forall_mem_cons.mpr ⟨sn_iconst dX12_feed_13 rfl ⟨by decide, by decide⟩, ?_⟩
  refine List.forall_mem_cons.mpr ⟨sn_iret rfl dX12_feed_14, ?_⟩
  refine List.forall_mem_cons.mpr ⟨sn_aload_n dX12_feed_15 rfl rfl, ?_⟩
  refine List.forall_mem_cons.mpr ⟨sn_iload_n dX12_feed_16 rfl rfl, ?_⟩
  refine List.forall_mem_cons.mpr ⟨sn_callV mCl_12 mt_124 rfl kt_1289 kt_1291 kp_39 dX12_feed_17 rfl, ?_⟩
  refine List.forall_mem_cons.mpr ⟨sn_aload_n dX12_feed_20 rfl rfl, ?_⟩
  refine List.forall_mem_cons.mpr ⟨sn_iload_n dX12_feed_21 rfl rfl, ?_⟩
  refine List.forall_mem_cons.mpr ⟨sn_callV mCl_12 mt_124 rfl kt_1289 kt_1291 kp_39 dX12_feed_22 rfl, ?_⟩
  refine List.forall_mem_cons.mpr ⟨sn_aload_n dX12_feed_25 rfl rfl, ?_⟩
  refine List.forall_mem_cons.mpr ⟨sn_iload_n dX12_feed_26 rfl rfl, ?_⟩
  refine List.forall_mem_cons.mpr ⟨sn_callV mCl_12 mt_124 rfl kt_1289 kt_1291 kp_39 dX12_feed_27 rfl, ?_⟩
  refine List.forall_mem_cons.mpr ⟨sn_aload_n dX12_feed_30 rfl rfl, ?_⟩
  refine List.forall_mem_cons.mpr ⟨sn_iload dX12_feed_31 rfl, ?_⟩
  refine List.forall_mem_cons.mpr ⟨sn_callV mCl_12 mt_124 rfl kt_1289 kt_1291 kp_39 dX12_feed_33 rfl, ?_⟩
  refine List.forall_mem_cons.mpr ⟨sn_aload_n dX12_feed_36 rfl rfl, ?_⟩
  refine List.forall_mem_cons.mpr ⟨sn_iload dX12_feed_37 rfl, ?_⟩
  refine List.forall_mem_cons.mpr ⟨sn_callV mCl_12 mt_124 rfl kt_1289 kt_1291 kp_39 dX12_feed_39 rfl, ?_⟩
  refine List.forall_mem_cons.mpr ⟨sn_aload_n dX12_feed_42 rfl rfl, ?_⟩
  refine List.forall_mem_cons.mpr ⟨sn_geti mCl_12 (by decide) rfl kt_1038 dX12_feed_43 rfl, ?_⟩
  refine List.forall_mem_cons.mpr ⟨sn_iret rfl dX12_feed_46, ?_⟩
  exact List.forall_mem_nil _
theorem sX12_put : ∀ q ∈ tX12_put, mSnd mInf iX12_put q.1 q.2 := by
  unfold tX12_put
  refine List.forall_mem_cons.mpr ⟨sn_bipush dX12_put_0 rfl (by decide) ⟨by decide, by decide⟩, ?_⟩
  refine List.forall_mem_cons.mpr ⟨sn_istore_n dX12_put_2 rfl rfl, ?_⟩
  refine List.forall_mem_cons.mpr ⟨sn_iload_n dX12_put_3 rfl rfl, ?_⟩
  refine List.forall_mem_cons.mpr ⟨sn_iflt dX12_put_4 (by decide) rfl, ?_⟩
  refine List.forall_mem_cons.mpr ⟨sn_aload_n dX12_put_7 rfl rfl, ?_⟩
  refine List.forall_mem_cons.mpr ⟨sn_getr mCl_12 (by decide) rfl kt_1037 dX12_put_8 rfl, ?_⟩
  refine List.forall_mem_cons.mpr ⟨sn_aload_n dX12_put_11 rfl rfl, ?_⟩
  refine List.forall_mem_cons.mpr ⟨sn_geti mCl_12 (by decide) rfl kt_1038 dX12_put_12 rfl, ?_⟩
  refine List.forall_mem_cons.mpr ⟨sn_iload_n dX12_put_15 rfl rfl, ?_⟩
  refine List.forall_mem_cons.mpr ⟨sn_iload_n dX12_put_16 rfl rfl, ?_⟩
  refine List.forall_mem_cons.mpr ⟨sn_ishr dX12_put_17 rfl, ?_⟩
  refine List.forall_mem_cons.mpr ⟨sn_i2b dX12_put_18 rfl, ?_⟩
  refine List.forall_mem_cons.mpr ⟨sn_bast dX12_put_19 rfl, ?_⟩
  refine List.forall_mem_cons.mpr ⟨sn_aload_n dX12_put_20 rfl rfl, ?_⟩
  refine List.forall_mem_cons.mpr ⟨sn_dup dX12_put_21 rfl, ?_⟩
  refine List.forall_mem_cons.mpr ⟨sn_geti mCl_12 (by decide) rfl kt_1038 dX12_put_22 rfl, ?_⟩
  refine List.forall_mem_cons.mpr ⟨sn_iconst dX12_put_25 rfl ⟨by decide, by decide⟩, ?_⟩
  refine List.forall_mem_cons.mpr ⟨sn_iadd dX12_put_26 rfl, ?_⟩
  refine List.forall_mem_cons.mpr ⟨sn_puti mCl_12 (by decide) rfl (Or.inl rfl) kt_1038 dX12_put_27 rfl, ?_⟩
  refine List.forall_mem_cons.mpr ⟨sn_iinc dX12_put_30 rfl, ?_⟩
  refine List.forall_mem_cons.mpr ⟨sn_goto dX12_put_33 (by decide), ?_⟩
  refine List.forall_mem_cons.mpr ⟨sn_vret rfl dX12_put_36, ?_⟩
  exact List.forall_mem_nil _
theorem sX12_back : ∀ q ∈ tX12_back, mSnd mInf iX12_back q.1 q.2 := by
  unfold tX12_back
  refine List.forall_mem_cons.mpr ⟨sn_iload_n dX12_back_0 rfl rfl, ?_⟩
  refine List.forall_mem_cons.mpr ⟨sn_iflt dX12_back_1 (by decide) rfl, ?_⟩
  refine List.forall_mem_cons.mpr ⟨sn_iload_n dX12_back_4 rfl rfl, ?_⟩
  refine List.forall_mem_cons.mpr ⟨sn_aload_n dX12_back_5 rfl rfl, ?_⟩
  refine List.forall_mem_cons.mpr ⟨sn_geti mCl_12 (by decide) rfl kt_1038 dX12_back_6 rfl, ?_⟩
  refine List.forall_mem_cons.mpr ⟨sn_icmple dX12_back_9 (by decide) rfl, ?_⟩
  refine List.forall_mem_cons.mpr ⟨sn_iconst dX12_back_12 rfl ⟨by decide, by decide⟩, ?_⟩
  refine List.forall_mem_cons.mpr ⟨sn_iret rfl dX12_back_13, ?_⟩
  refine List.forall_mem_cons.mpr ⟨sn_aload_n dX12_back_14 rfl rfl, ?_⟩
  refine List.forall_mem_cons.mpr ⟨sn_dup dX12_back_15 rfl, ?_⟩
  refine List.forall_mem_cons.mpr ⟨sn_geti mCl_12 (by decide) rfl kt_1038 dX12_back_16 rfl, ?_⟩
  refine List.forall_mem_cons.mpr ⟨sn_iload_n dX12_back_19 rfl rfl, ?_⟩
  refine List.forall_mem_cons.mpr ⟨sn_isub dX12_back_20 rfl, ?_⟩
  refine List.forall_mem_cons.mpr ⟨sn_puti mCl_12 (by decide) rfl (Or.inl rfl) kt_1038 dX12_back_21 rfl, ?_⟩
  refine List.forall_mem_cons.mpr ⟨sn_aload_n dX12_back_24 rfl rfl, ?_⟩
  refine List.forall_mem_cons.mpr ⟨sn_geti mCl_12 (by decide) rfl kt_1038 dX12_back_25 rfl, ?_⟩
  refine List.forall_mem_cons.mpr ⟨sn_iret rfl dX12_back_28, ?_⟩
  exact List.forall_mem_nil _
theorem sX12_at : ∀ q ∈ tX12_at, mSnd mInf iX12_at q.1 q.2 := by
  unfold tX12_at
  refine List.forall_mem_cons.mpr ⟨sn_iload_n dX12_at_0 rfl rfl, ?_⟩
  refine List.forall_mem_cons.mpr ⟨sn_aload_n dX12_at_1 rfl rfl, ?_⟩
  refine List.forall_mem_cons.mpr ⟨sn_geti mCl_12 (by decide) rfl kt_1040 dX12_at_2 rfl, ?_⟩
  refine List.forall_mem_cons.mpr ⟨sn_icmpge dX12_at_5 (by decide) rfl, ?_⟩
  refine List.forall_mem_cons.mpr ⟨sn_aload_n dX12_at_8 rfl rfl, ?_⟩
  refine List.forall_mem_cons.mpr ⟨sn_getr mCl_12 (by decide) rfl kt_1039 dX12_at_9 rfl, ?_⟩
  refine List.forall_mem_cons.mpr ⟨sn_iload_n dX12_at_12 rfl rfl, ?_⟩
  refine List.forall_mem_cons.mpr ⟨sn_bald dX12_at_13 rfl, ?_⟩
  refine List.forall_mem_cons.mpr ⟨sn_sipush dX12_at_14 rfl (by decide) ⟨by decide, by decide⟩, ?_⟩
  refine List.forall_mem_cons.mpr ⟨sn_iand dX12_at_17 rfl, ?_⟩
  refine List.forall_mem_cons.mpr ⟨sn_goto dX12_at_18 (by decide), ?_⟩
  refine List.forall_mem_cons.mpr ⟨sn_iconst dX12_at_21 rfl ⟨by decide, by decide⟩, ?_⟩
  refine List.forall_mem_cons.mpr ⟨sn_iret rfl dX12_at_22, ?_⟩
  exact List.forall_mem_nil _
theorem sX12_isDigit : ∀ q ∈ tX12_isDigit, mSnd mInf iX12_isDigit q.1 q.2 := by
  unfold tX12_isDigit
  refine List.forall_mem_cons.mpr ⟨sn_iload_n dX12_isDigit_0 rfl rfl, ?_⟩
  refine List.forall_mem_cons.mpr ⟨sn_bipush dX12_isDigit_1 rfl (by decide) ⟨by decide, by decide⟩, ?_⟩
  refine List.forall_mem_cons.mpr ⟨sn_icmplt dX12_isDigit_3 (by decide) rfl, ?_⟩
  refine List.forall_mem_cons.mpr ⟨sn_iload_n dX12_isDigit_6 rfl rfl, ?_⟩
  refine List.forall_mem_cons.mpr ⟨sn_bipush dX12_isDigit_7 rfl (by decide) ⟨by decide, by decide⟩, ?_⟩
  refine List.forall_mem_cons.mpr ⟨sn_icmpgt dX12_isDigit_9 (by decide) rfl, ?_⟩
  refine List.forall_mem_cons.mpr ⟨sn_iconst dX12_isDigit_12 rfl ⟨by decide, by decide⟩, ?_⟩
  refine List.forall_mem_cons.mpr ⟨sn_goto dX12_isDigit_13 (by decide), ?_⟩
  refine List.forall_mem_cons.mpr ⟨sn_iconst dX12_isDigit_16 rfl ⟨by decide, by decide⟩, ?_⟩
  refine List.forall_mem_cons.mpr ⟨sn_zret rfl dX12_isDigit_17, ?_⟩
  exact List.forall_mem_nil _
theorem sX12_isLetter : ∀ q ∈ tX12_isLetter, mSnd mInf iX12_isLetter q.1 q.2 := by
  unfold tX12_isLetter
  refine List.forall_mem_cons.mpr ⟨sn_iload_n dX12_isLetter_0 rfl rfl, ?_⟩
  refine List.forall_mem_cons.mpr ⟨sn_bipush dX12_isLetter_1 rfl (by decide) ⟨by decide, by decide⟩, ?_⟩
  refine List.forall_mem_cons.mpr ⟨sn_icmplt dX12_isLetter_3 (by decide) rfl, ?_⟩
  refine List.forall_mem_cons.mpr ⟨sn_iload_n dX12_isLetter_6 rfl rfl, ?_⟩
  refine List.forall_mem_cons.mpr ⟨sn_bipush dX12_isLetter_7 rfl (by decide) ⟨by decide, by decide⟩, ?_⟩
  refine List.forall_mem_cons.mpr ⟨sn_icmpgt dX12_isLetter_9 (by decide) rfl, ?_⟩
  refine List.forall_mem_cons.mpr ⟨sn_iconst dX12_isLetter_12 rfl ⟨by decide, by decide⟩, ?_⟩
  refine List.forall_mem_cons.mpr ⟨sn_goto dX12_isLetter_13 (by decide), ?_⟩
  refine List.forall_mem_cons.mpr ⟨sn_iconst dX12_isLetter_16 rfl ⟨by decide, by decide⟩, ?_⟩
  refine List.forall_mem_cons.mpr ⟨sn_zret rfl dX12_isLetter_17, ?_⟩
  exact List.forall_mem_nil _
theorem sX12_more : ∀ q ∈ tX12_more, mSnd mInf iX12_more q.1 q.2 := by
  unfold tX12_more
  refine List.forall_mem_cons.mpr ⟨sn_iload_n dX12_more_0 rfl rfl, ?_⟩
  refine List.forall_mem_cons.mpr ⟨sn_ifne dX12_more_1 (by decide) rfl, ?_⟩
  refine List.forall_mem_cons.mpr ⟨sn_lload_n dX12_more_4 rfl rfl, ?_⟩
  refine List.forall_mem_cons.mpr ⟨sn_goto dX12_more_5 (by decide), ?_⟩
  refine List.forall_mem_cons.mpr ⟨sn_ldc2 dX12_more_8 rfl kt_1036 ⟨by decide, by decide⟩, ?_⟩
  refine List.forall_mem_cons.mpr ⟨sn_lload_n dX12_more_11 rfl rfl, ?_⟩
  refine List.forall_mem_cons.mpr ⟨sn_lmul dX12_more_12 rfl, ?_⟩
  refine List.forall_mem_cons.mpr ⟨sn_iload_n dX12_more_13 rfl rfl, ?_⟩
  refine List.forall_mem_cons.mpr ⟨sn_bipush dX12_more_14 rfl (by decide) ⟨by decide, by decide⟩, ?_⟩
  refine List.forall_mem_cons.mpr ⟨sn_isub dX12_more_16 rfl, ?_⟩
  refine List.forall_mem_cons.mpr ⟨sn_iconst dX12_more_17 rfl ⟨by decide, by decide⟩, ?_⟩
  refine List.forall_mem_cons.mpr ⟨sn_iadd dX12_more_18 rfl, ?_⟩
  refine List.forall_mem_cons.mpr ⟨sn_i2l dX12_more_19 rfl, ?_⟩
  refine List.forall_mem_cons.mpr ⟨sn_ladd dX12_more_20 rfl, ?_⟩
  refine List.forall_mem_cons.mpr ⟨sn_lret rfl dX12_more_21, ?_⟩
  exact List.forall_mem_nil _
theorem sX12_word : ∀ q ∈ tX12_word, mSnd mInf iX12_word q.1 q.2 := by
  unfold tX12_word
  refine List.forall_mem_cons.mpr ⟨sn_lconst0 dX12_word_0 rfl, ?_⟩
  refine List.forall_mem_cons.mpr ⟨sn_iload_n dX12_word_1 rfl rfl, ?_⟩
  refine List.forall_mem_cons.mpr ⟨sn_callS mt_129 kt_1033 kt_1034 dX12_word_2 rfl, ?_⟩
  refine List.forall_mem_cons.mpr ⟨sn_iload_n dX12_word_5 rfl rfl, ?_⟩
  refine List.forall_mem_cons.mpr ⟨sn_callS mt_129 kt_1033 kt_1034 dX12_word_6 rfl, ?_⟩
  refine List.forall_mem_cons.mpr ⟨sn_iload_n dX12_word_9 rfl rfl, ?_⟩
  refine List.forall_mem_cons.mpr ⟨sn_callS mt_129 kt_1033 kt_1034 dX12_word_10 rfl, ?_⟩
  refine List.forall_mem_cons.mpr ⟨sn_iload_n dX12_word_13 rfl rfl, ?_⟩
  refine List.forall_mem_cons.mpr ⟨sn_callS mt_129 kt_1033 kt_1034 dX12_word_14 rfl, ?_⟩
  refine List.forall_mem_cons.mpr ⟨sn_iload dX12_word_17 rfl, ?_⟩
  refine List.forall_mem_cons.mpr ⟨sn_callS mt_129 kt_1033 kt_1034 dX12_word_19 rfl, ?_⟩
  refine List.forall_mem_cons.mpr ⟨sn_iload dX12_word_22 rfl, ?_⟩
  refine List.forall_mem_cons.mpr ⟨sn_callS mt_129 kt_1033 kt_1034 dX12_word_24 rfl, ?_⟩
  refine List.forall_mem_cons.mpr ⟨sn_iload dX12_word_27 rfl, ?_⟩
  refine List.forall_mem_cons.mpr ⟨sn_callS mt_129 kt_1033 kt_1034 dX12_word_29 rfl, ?_⟩
  refine List.forall_mem_cons.mpr ⟨sn_lret rfl dX12_word_32, ?_⟩
  exact List.forall_mem_nil _
theorem sX12_token : ∀ q ∈ tX12_token, mSnd mInf iX12_token q.1 q.2 := by
  unfold tX12_token
  refine List.forall_mem_cons.mpr ⟨sn_aload_n dX12_token_0 rfl rfl, ?_⟩
  refine List.forall_mem_cons.mpr ⟨sn_getr mCl_12 (by decide) rfl kt_1041 dX12_token_1 rfl, ?_⟩
  refine List.forall_mem_cons.mpr ⟨sn_aload_n dX12_token_4 rfl rfl, ?_⟩
  refine List.forall_mem_cons.mpr ⟨sn_geti mCl_12 (by decide) rfl kt_1046 dX12_token_5 rfl, ?_⟩
  refine List.forall_mem_cons.mpr ⟨sn_iload_n dX12_token_8 rfl rfl, ?_⟩
  refine List.forall_mem_cons.mpr ⟨sn_iast dX12_token_9 rfl, ?_⟩
  refine List.forall_mem_cons.mpr ⟨sn_aload_n dX12_token_10 rfl rfl, ?_⟩
  refine List.forall_mem_cons.mpr ⟨sn_getr mCl_12 (by decide) rfl kt_1042 dX12_token_11 rfl, ?_⟩
  refine List.forall_mem_cons.mpr ⟨sn_aload_n dX12_token_14 rfl rfl, ?_⟩
  refine List.forall_mem_cons.mpr ⟨sn_geti mCl_12 (by decide) rfl kt_1046 dX12_token_15 rfl, ?_⟩
  refine List.forall_mem_cons.mpr ⟨sn_iload_n dX12_token_18 rfl rfl, ?_⟩
  refine List.forall_mem_cons.mpr ⟨sn_iast dX12_token_19 rfl, ?_⟩
  refine List.forall_mem_cons.mpr ⟨sn_aload_n dX12_token_20 rfl rfl, ?_⟩
  refine List.forall_mem_cons.mpr ⟨sn_getr mCl_12 (by decide) rfl kt_1043 dX12_token_21 rfl, ?_⟩
  refine List.forall_mem_cons.mpr ⟨sn_aload_n dX12_token_24 rfl rfl, ?_⟩
  refine List.forall_mem_cons.mpr ⟨sn_geti mCl_12 (by decide) rfl kt_1046 dX12_token_25 rfl, ?_⟩
  refine List.forall_mem_cons.mpr ⟨sn_iload_n dX12_token_28 rfl rfl, ?_⟩
  refine List.forall_mem_cons.mpr ⟨sn_iast dX12_token_29 rfl, ?_⟩
  refine List.forall_mem_cons.mpr ⟨sn_aload_n dX12_token_30 rfl rfl, ?_⟩
  refine List.forall_mem_cons.mpr ⟨sn_getr mCl_12 (by decide) rfl kt_1044 dX12_token_31 rfl, ?_⟩
  refine List.forall_mem_cons.mpr ⟨sn_aload_n dX12_token_34 rfl rfl, ?_⟩
  refine List.forall_mem_cons.mpr ⟨sn_geti mCl_12 (by decide) rfl kt_1046 dX12_token_35 rfl, ?_⟩
  refine List.forall_mem_cons.mpr ⟨sn_lload dX12_token_38 rfl, ?_⟩
  refine List.forall_mem_cons.mpr ⟨sn_last dX12_token_40 rfl, ?_⟩
  refine List.forall_mem_cons.mpr ⟨sn_aload_n dX12_token_41 rfl rfl, ?_⟩
  refine List.forall_mem_cons.mpr ⟨sn_dup dX12_token_42 rfl, ?_⟩
  refine List.forall_mem_cons.mpr ⟨sn_geti mCl_12 (by decide) rfl kt_1046 dX12_token_43 rfl, ?_⟩
  refine List.forall_mem_cons.mpr ⟨sn_iconst dX12_token_46 rfl ⟨by decide, by decide⟩, ?_⟩
  refine List.forall_mem_cons.mpr ⟨sn_iadd dX12_token_47 rfl, ?_⟩
  refine List.forall_mem_cons.mpr ⟨sn_puti mCl_12 (by decide) rfl (Or.inl rfl) kt_1046 dX12_token_48 rfl, ?_⟩
  refine List.forall_mem_cons.mpr ⟨sn_vret rfl dX12_token_51, ?_⟩
  exact List.forall_mem_nil _
theorem sX12_cut : ∀ q ∈ tX12_cut, mSnd mInf iX12_cut q.1 q.2 := by
  unfold tX12_cut
  refine List.forall_mem_cons.mpr ⟨sn_aload_n dX12_cut_0 rfl rfl, ?_⟩
  refine List.forall_mem_cons.mpr ⟨sn_iconst dX12_cut_1 rfl ⟨by decide, by decide⟩, ?_⟩
  refine List.forall_mem_cons.mpr ⟨sn_puti mCl_12 (by decide) rfl (Or.inl rfl) kt_1046 dX12_cut_2 rfl, ?_⟩
  refine List.forall_mem_cons.mpr ⟨sn_iconst dX12_cut_5 rfl ⟨by decide, by decide⟩, ?_⟩
  refine List.forall_mem_cons.mpr ⟨sn_istore_n dX12_cut_6 rfl rfl, ?_⟩
  refine List.forall_mem_cons.mpr ⟨sn_aload_n dX12_cut_7 rfl rfl, ?_⟩
  refine List.forall_mem_cons.mpr ⟨sn_geti mCl_12 (by decide) rfl kt_1046 dX12_cut_8 rfl, ?_⟩
  refine List.forall_mem_cons.mpr ⟨sn_sipush dX12_cut_11 rfl (by decide) ⟨by decide, by decide⟩, ?_⟩
  refine List.forall_mem_cons.mpr ⟨sn_icmpgt dX12_cut_14 (by decide) rfl, ?_⟩
  refine List.forall_mem_cons.mpr ⟨sn_aload_n dX12_cut_17 rfl rfl, ?_⟩
  refine List.forall_mem_cons.mpr ⟨sn_iload_n dX12_cut_18 rfl rfl, ?_⟩
  refine List.forall_mem_cons.mpr ⟨sn_callV mCl_12 mt_126 rfl kt_1305 kt_1307 kp_41 dX12_cut_19 rfl, ?_⟩
  refine List.forall_mem_cons.mpr ⟨sn_istore_n dX12_cut_22 rfl rfl, ?_⟩
  refine List.forall_mem_cons.mpr ⟨sn_iload_n dX12_cut_23 rfl rfl, ?_⟩
  refine List.forall_mem_cons.mpr ⟨sn_aload_n dX12_cut_24 rfl rfl, ?_⟩
  refine List.forall_mem_cons.mpr ⟨sn_geti mCl_12 (by decide) rfl kt_1040 dX12_cut_25 rfl, ?_⟩
  refine List.forall_mem_cons.mpr ⟨sn_icmplt dX12_cut_28 (by decide) rfl, ?_⟩
  refine List.forall_mem_cons.mpr ⟨sn_aload_n dX12_cut_31 rfl rfl, ?_⟩
  refine List.forall_mem_cons.mpr ⟨sn_iconst dX12_cut_32 rfl ⟨by decide, by decide⟩, ?_⟩
  refine List.forall_mem_cons.mpr ⟨sn_aload_n dX12_cut_33 rfl rfl, ?_⟩
  refine List.forall_mem_cons.mpr ⟨sn_geti mCl_12 (by decide) rfl kt_1040 dX12_cut_34 rfl, ?_⟩
  refine List.forall_mem_cons.mpr ⟨sn_iconst dX12_cut_37 rfl ⟨by decide, by decide⟩, ?_⟩
  refine List.forall_mem_cons.mpr ⟨sn_lconst0 dX12_cut_38 rfl, ?_⟩
  refine List.forall_mem_cons.mpr ⟨sn_callV mCl_12 mt_131 rfl kt_1309 kt_1311 kp_42 dX12_cut_39 rfl, ?_⟩
  refine List.forall_mem_cons.mpr ⟨sn_vret rfl dX12_cut_42, ?_⟩
  refine List.forall_mem_cons.mpr ⟨sn_iload_n dX12_cut_43 rfl rfl, ?_⟩
  refine List.forall_mem_cons.mpr ⟨sn_bipush dX12_cut_44 rfl (by decide) ⟨by decide, by decide⟩, ?_⟩
  refine List.forall_mem_cons.mpr ⟨sn_icmpeq dX12_cut_46 (by decide) rfl, ?_⟩
  refine List.forall_mem_cons.mpr ⟨sn_iload_n dX12_cut_49 rfl rfl, ?_⟩
  refine List.forall_mem_cons.mpr ⟨sn_bipush dX12_cut_50 rfl (by decide) ⟨by decide, by decide⟩, ?_⟩
  refine List.forall_mem_cons.mpr ⟨sn_icmpeq dX12_cut_52 (by decide) rfl, ?_⟩
  refine List.forall_mem_cons.mpr ⟨sn_iload_n dX12_cut_55 rfl rfl, ?_⟩
  refine List.forall_mem_cons.mpr ⟨sn_bipush dX12_cut_56 rfl (by decide) ⟨by decide, by decide⟩, ?_⟩
  refine List.forall_mem_cons.mpr ⟨sn_icmpeq dX12_cut_58 (by decide) rfl, ?_⟩
  refine List.forall_mem_cons.mpr ⟨sn_iload_n dX12_cut_61 rfl rfl, ?_⟩
  refine List.forall_mem_cons.mpr ⟨sn_bipush dX12_cut_62 rfl (by decide) ⟨by decide, by decide⟩, ?_⟩
  refine List.forall_mem_cons.mpr ⟨sn_icmpne dX12_cut_64 (by decide) rfl, ?_⟩
  refine List.forall_mem_cons.mpr ⟨sn_iinc dX12_cut_67 rfl, ?_⟩
  refine List.forall_mem_cons.mpr ⟨sn_goto dX12_cut_70 (by decide), ?_⟩
  refine List.forall_mem_cons.mpr ⟨sn_iload_n dX12_cut_73 rfl rfl, ?_⟩
  refine List.forall_mem_cons.mpr ⟨sn_callS mt_128 kt_1313 kt_1314 dX12_cut_74 rfl, ?_⟩
  refine List.forall_mem_cons.mpr ⟨sn_ifeq dX12_cut_77 (by decide) rfl, ?_⟩
  refine List.forall_mem_cons.mpr ⟨sn_iconst dX12_cut_80 rfl ⟨by decide, by decide⟩, ?_⟩
  refine List.forall_mem_cons.mpr ⟨sn_istore_n dX12_cut_81 rfl rfl, ?_⟩
  refine List.forall_mem_cons.mpr ⟨sn_lconst0 dX12_cut_82 rfl, ?_⟩
  refine List.forall_mem_cons.mpr ⟨sn_lstore dX12_cut_83 rfl, ?_⟩
  refine List.forall_mem_cons.mpr ⟨sn_aload_n dX12_cut_85 rfl rfl, ?_⟩
  refine List.forall_mem_cons.mpr ⟨sn_iload_n dX12_cut_86 rfl rfl, ?_⟩
  refine List.forall_mem_cons.mpr ⟨sn_iload_n dX12_cut_87 rfl rfl, ?_⟩
  refine List.forall_mem_cons.mpr ⟨sn_iadd dX12_cut_88 rfl, ?_⟩
  refine List.forall_mem_cons.mpr ⟨sn_callV mCl_12 mt_126 rfl kt_1305 kt_1307 kp_41 dX12_cut_89 rfl, ?_⟩
  refine List.forall_mem_cons.mpr ⟨sn_callS mt_128 kt_1313 kt_1314 dX12_cut_92 rfl, ?_⟩
  refine List.forall_mem_cons.mpr ⟨sn_ifeq dX12_cut_95 (by decide) rfl, ?_⟩
  refine List.forall_mem_cons.mpr ⟨sn_iload_n dX12_cut_98 rfl rfl, ?_⟩
  refine List.forall_mem_cons.mpr ⟨sn_bipush dX12_cut_99 rfl (by decide) ⟨by decide, by decide⟩, ?_⟩
  refine List.forall_mem_cons.mpr ⟨sn_icmpge dX12_cut_101 (by decide) rfl, ?_⟩
  refine List.forall_mem_cons.mpr ⟨sn_lload dX12_cut_104 rfl, ?_⟩
  refine List.forall_mem_cons.mpr ⟨sn_aload_n dX12_cut_106 rfl rfl, ?_⟩
  refine List.forall_mem_cons.mpr ⟨sn_iload_n dX12_cut_107 rfl rfl, ?_⟩
  refine List.forall_mem_cons.mpr ⟨sn_iload_n dX12_cut_108 rfl rfl, ?_⟩
  refine List.forall_mem_cons.mpr ⟨sn_iadd dX12_cut_109 rfl, ?_⟩
  refine List.forall_mem_cons.mpr ⟨sn_callV mCl_12 mt_126 rfl kt_1305 kt_1307 kp_41 dX12_cut_110 rfl, ?_⟩
  refine List.forall_mem_cons.mpr ⟨sn_callS mt_129 kt_1033 kt_1034 dX12_cut_113 rfl, ?_⟩
  refine List.forall_mem_cons.mpr ⟨sn_lstore dX12_cut_116 rfl, ?_⟩
  refine List.forall_mem_cons.mpr ⟨sn_iinc dX12_cut_118 rfl, ?_⟩
  refine List.forall_mem_cons.mpr ⟨sn_goto dX12_cut_121 (by decide), ?_⟩
  refine List.forall_mem_cons.mpr ⟨sn_iload_n dX12_cut_124 rfl rfl, ?_⟩
  refine List.forall_mem_cons.mpr ⟨sn_bipush dX12_cut_125 rfl (by decide) ⟨by decide, by decide⟩, ?_⟩
  refine List.forall_mem_cons.mpr ⟨sn_icmple dX12_cut_127 (by decide) rfl, ?_⟩
  refine List.forall_mem_cons.mpr ⟨sn_iconst dX12_cut_130 rfl ⟨by decide, by decide⟩, ?_⟩
  refine List.forall_mem_cons.mpr ⟨sn_goto dX12_cut_131 (by decide), ?_⟩
  refine List.forall_mem_cons.mpr ⟨sn_iconst dX12_cut_134 rfl ⟨by decide, by decide⟩, ?_⟩
  refine List.forall_mem_cons.mpr ⟨sn_istore dX12_cut_135 rfl, ?_⟩
  refine List.forall_mem_cons.mpr ⟨sn_iload_n dX12_cut_137 rfl rfl, ?_⟩
  refine List.forall_mem_cons.mpr ⟨sn_bipush dX12_cut_138 rfl (by decide) ⟨by decide, by decide⟩, ?_⟩
  refine List.forall_mem_cons.mpr ⟨sn_icmpgt dX12_cut_140 (by decide) rfl, ?_⟩
  refine List.forall_mem_cons.mpr ⟨sn_iconst dX12_cut_143 rfl ⟨by decide, by decide⟩, ?_⟩
  refine List.forall_mem_cons.mpr ⟨sn_istore dX12_cut_144 rfl, ?_⟩
  refine List.forall_mem_cons.mpr ⟨sn_iload dX12_cut_146 rfl, ?_⟩
  refine List.forall_mem_cons.mpr ⟨sn_bipush dX12_cut_148 rfl (by decide) ⟨by decide, by decide⟩, ?_⟩
  refine List.forall_mem_cons.mpr ⟨sn_icmpge dX12_cut_150 (by decide) rfl, ?_⟩
  refine List.forall_mem_cons.mpr ⟨sn_aload_n dX12_cut_153 rfl rfl, ?_⟩
  refine List.forall_mem_cons.mpr ⟨sn_getr mCl_12 (by decide) rfl kt_1045 dX12_cut_154 rfl, ?_⟩
  refine List.forall_mem_cons.mpr ⟨sn_iload dX12_cut_157 rfl, ?_⟩
  refine List.forall_mem_cons.mpr ⟨sn_lald dX12_cut_159 rfl, ?_⟩
  refine List.forall_mem_cons.mpr ⟨sn_lload dX12_cut_160 rfl, ?_⟩
  refine List.forall_mem_cons.mpr ⟨sn_lcmp dX12_cut_162 rfl, ?_⟩
  refine List.forall_mem_cons.mpr ⟨sn_ifne dX12_cut_163 (by decide) rfl, ?_⟩
  refine List.forall_mem_cons.mpr ⟨sn_bipush dX12_cut_166 rfl (by decide) ⟨by decide, by decide⟩, ?_⟩
  refine List.forall_mem_cons.mpr ⟨sn_iload dX12_cut_168 rfl, ?_⟩
  refine List.forall_mem_cons.mpr ⟨sn_iadd dX12_cut_170 rfl, ?_⟩
  refine List.forall_mem_cons.mpr ⟨sn_istore dX12_cut_171 rfl, ?_⟩
  refine List.forall_mem_cons.mpr ⟨sn_iinc dX12_cut_173 rfl, ?_⟩
  refine List.forall_mem_cons.mpr ⟨sn_goto dX12_cut_176 (by decide), ?_⟩
  refine List.forall_mem_cons.mpr ⟨sn_aload_n dX12_cut_179 rfl rfl, ?_⟩
  refine List.forall_mem_cons.mpr ⟨sn_iload dX12_cut_180 rfl, ?_⟩
  refine List.forall_mem_cons.mpr ⟨sn_iload_n dX12_cut_182 rfl rfl, ?_⟩
  refine List.forall_mem_cons.mpr ⟨sn_iconst dX12_cut_183 rfl ⟨by decide, by decide⟩, ?_⟩
  refine List.forall_mem_cons.mpr ⟨sn_lload dX12_cut_184 rfl, ?_⟩
  refine List.forall_mem_cons.mpr ⟨sn_callV mCl_12 mt_131 rfl kt_1309 kt_1311 kp_42 dX12_cut_186 rfl, ?_⟩
  refine List.forall_mem_cons.mpr ⟨sn_iload_n dX12_cut_189 rfl rfl, ?_⟩
  refine List.forall_mem_cons.mpr ⟨sn_iload_n dX12_cut_190 rfl rfl, ?_⟩
  refine List.forall_mem_cons.mpr ⟨sn_iadd dX12_cut_191 rfl, ?_⟩
  refine List.forall_mem_cons.mpr ⟨sn_istore_n dX12_cut_192 rfl rfl, ?_⟩
  refine List.forall_mem_cons.mpr ⟨sn_goto dX12_cut_193 (by decide), ?_⟩
  refine List.forall_mem_cons.mpr ⟨sn_iload_n dX12_cut_196 rfl rfl, ?_⟩
  refine List.forall_mem_cons.mpr ⟨sn_callS mt_127 kt_1316 kt_1317 dX12_cut_197 rfl, ?_⟩
  refine List.forall_mem_cons.mpr ⟨sn_ifeq dX12_cut_200 (by decide) rfl, ?_⟩
  refine List.forall_mem_cons.mpr ⟨sn_iconst dX12_cut_203 rfl ⟨by decide, by decide⟩, ?_⟩
  refine List.forall_mem_cons.mpr ⟨sn_istore_n dX12_cut_204 rfl rfl, ?_⟩
  refine List.forall_mem_cons.mpr ⟨sn_iconst dX12_cut_205 rfl ⟨by decide, by decide⟩, ?_⟩
  refine List.forall_mem_cons.mpr ⟨sn_istore dX12_cut_206 rfl, ?_⟩
  refine List.forall_mem_cons.mpr ⟨sn_aload_n dX12_cut_208 rfl rfl, ?_⟩
  refine List.forall_mem_cons.mpr ⟨sn_iload_n dX12_cut_209 rfl rfl, ?_⟩
  refine List.forall_mem_cons.mpr ⟨sn_iload_n dX12_cut_210 rfl rfl, ?_⟩
  refine List.forall_mem_cons.mpr ⟨sn_iadd dX12_cut_211 rfl, ?_⟩
  refine List.forall_mem_cons.mpr ⟨sn_callV mCl_12 mt_126 rfl kt_1305 kt_1307 kp_41 dX12_cut_212 rfl, ?_⟩
  refine List.forall_mem_cons.mpr ⟨sn_callS mt_127 kt_1316 kt_1317 dX12_cut_215 rfl, ?_⟩
  refine List.forall_mem_cons.mpr ⟨sn_ifeq dX12_cut_218 (by decide) rfl, ?_⟩
  refine List.forall_mem_cons.mpr ⟨sn_iload_n dX12_cut_221 rfl rfl, ?_⟩
  refine List.forall_mem_cons.mpr ⟨sn_iconst dX12_cut_222 rfl ⟨by decide, by decide⟩, ?_⟩
  refine List.forall_mem_cons.mpr ⟨sn_icmpge dX12_cut_223 (by decide) rfl, ?_⟩
  refine List.forall_mem_cons.mpr ⟨sn_bipush dX12_cut_226 rfl (by decide) ⟨by decide, by decide⟩, ?_⟩
  refine List.forall_mem_cons.mpr ⟨sn_iload dX12_cut_228 rfl, ?_⟩
  refine List.forall_mem_cons.mpr ⟨sn_imul dX12_cut_230 rfl, ?_⟩
  refine List.forall_mem_cons.mpr ⟨sn_aload_n dX12_cut_231 rfl rfl, ?_⟩
  refine List.forall_mem_cons.mpr ⟨sn_iload_n dX12_cut_232 rfl rfl, ?_⟩
  refine List.forall_mem_cons.mpr ⟨sn_iload_n dX12_cut_233 rfl rfl, ?_⟩
  refine List.forall_mem_cons.mpr ⟨sn_iadd dX12_cut_234 rfl, ?_⟩
  refine List.forall_mem_cons.mpr ⟨sn_callV mCl_12 mt_126 rfl kt_1305 kt_1307 kp_41 dX12_cut_235 rfl, ?_⟩
  refine List.forall_mem_cons.mpr ⟨sn_iadd dX12_cut_238 rfl, ?_⟩
  refine List.forall_mem_cons.mpr ⟨sn_bipush dX12_cut_239 rfl (by decide) ⟨by decide, by decide⟩, ?_⟩
  refine List.forall_mem_cons.mpr ⟨sn_isub dX12_cut_241 rfl, ?_⟩
  refine List.forall_mem_cons.mpr ⟨sn_istore dX12_cut_242 rfl, ?_⟩
  refine List.forall_mem_cons.mpr ⟨sn_iinc dX12_cut_244 rfl, ?_⟩
  refine List.forall_mem_cons.mpr ⟨sn_goto dX12_cut_247 (by decide), ?_⟩
  refine List.forall_mem_cons.mpr ⟨sn_aload_n dX12_cut_250 rfl rfl, ?_⟩
  refine List.forall_mem_cons.mpr ⟨sn_iload_n dX12_cut_251 rfl rfl, ?_⟩
  refine List.forall_mem_cons.mpr ⟨sn_iconst dX12_cut_252 rfl ⟨by decide, by decide⟩, ?_⟩
  refine List.forall_mem_cons.mpr ⟨sn_icmple dX12_cut_253 (by decide) rfl, ?_⟩
  refine List.forall_mem_cons.mpr ⟨sn_iconst dX12_cut_256 rfl ⟨by decide, by decide⟩, ?_⟩
  refine List.forall_mem_cons.mpr ⟨sn_goto dX12_cut_257 (by decide), ?_⟩
  refine List.forall_mem_cons.mpr ⟨sn_iconst dX12_cut_260 rfl ⟨by decide, by decide⟩, ?_⟩
  refine List.forall_mem_cons.mpr ⟨sn_iload_n dX12_cut_261 rfl rfl, ?_⟩
  refine List.forall_mem_cons.mpr ⟨sn_iload dX12_cut_262 rfl, ?_⟩
  refine List.forall_mem_cons.mpr ⟨sn_lconst0 dX12_cut_264 rfl, ?_⟩
  refine List.forall_mem_cons.mpr ⟨sn_callV mCl_12 mt_131 rfl kt_1309 kt_1311 kp_42 dX12_cut_265 rfl, ?_⟩
  refine List.forall_mem_cons.mpr ⟨sn_iload_n dX12_cut_268 rfl rfl, ?_⟩
  refine List.forall_mem_cons.mpr ⟨sn_iload_n dX12_cut_269 rfl rfl, ?_⟩
  refine List.forall_mem_cons.mpr ⟨sn_iadd dX12_cut_270 rfl, ?_⟩
  refine List.forall_mem_cons.mpr ⟨sn_istore_n dX12_cut_271 rfl rfl, ?_⟩
  refine List.forall_mem_cons.mpr ⟨sn_goto dX12_cut_272 (by decide), ?_⟩
  refine List.forall_mem_cons.mpr ⟨sn_iload_n dX12_cut_275 rfl rfl, ?_⟩
  refine List.forall_mem_cons.mpr ⟨sn_aload_n dX12_cut_276 rfl rfl, ?_⟩
  refine List.forall_mem_cons.mpr ⟨sn_iload_n dX12_cut_277 rfl rfl, ?_⟩
  refine List.forall_mem_cons.mpr ⟨sn_iload_n dX12_cut_278 rfl rfl, ?_⟩
  refine List.forall_mem_cons.mpr ⟨sn_aload_n dX12_cut_279 rfl rfl, ?_⟩
  refine List.forall_mem_cons.mpr ⟨sn_iload_n dX12_cut_280 rfl rfl, ?_⟩
  refine List.forall_mem_cons.mpr ⟨sn_iconst dX12_cut_281 rfl ⟨by decide, by decide⟩, ?_⟩
  refine List.forall_mem_cons.mpr ⟨sn_iadd dX12_cut_282 rfl, ?_⟩
  refine List.forall_mem_cons.mpr ⟨sn_callV mCl_12 mt_126 rfl kt_1305 kt_1307 kp_41 dX12_cut_283 rfl, ?_⟩
  refine List.forall_mem_cons.mpr ⟨sn_callV mCl_12 mt_133 rfl kt_1319 kt_1321 kp_43 dX12_cut_286 rfl, ?_⟩
  refine List.forall_mem_cons.mpr ⟨sn_iadd dX12_cut_289 rfl, ?_⟩
  refine List.forall_mem_cons.mpr ⟨sn_istore_n dX12_cut_290 rfl rfl, ?_⟩
  refine List.forall_mem_cons.mpr ⟨sn_goto dX12_cut_291 (by decide), ?_⟩
  refine List.forall_mem_cons.mpr ⟨sn_vret rfl dX12_cut_294, ?_⟩
  exact List.forall_mem_nil _
theorem sX12_sign : ∀ q ∈ tX12_sign, mSnd mInf iX12_sign q.1 q.2 := by
  unfold tX12_sign
  refine List.forall_mem_cons.mpr ⟨sn_iload_n dX12_sign_0 rfl rfl, ?_⟩
  refine List.forall_mem_cons.mpr ⟨sn_bipush dX12_sign_1 rfl (by decide) ⟨by decide, by decide⟩, ?_⟩
  refine List.forall_mem_cons.mpr ⟨sn_icmpeq dX12_sign_3 (by decide) rfl, ?_⟩
  refine List.forall_mem_cons.mpr ⟨sn_iconst dX12_sign_6 rfl ⟨by decide, by decide⟩, ?_⟩
  refine List.forall_mem_cons.mpr ⟨sn_goto dX12_sign_7 (by decide), ?_⟩
  refine List.forall_mem_cons.mpr ⟨sn_iload_n dX12_sign_10 rfl rfl, ?_⟩
  refine List.forall_mem_cons.mpr ⟨sn_bipush dX12_sign_11 rfl (by decide) ⟨by decide, by decide⟩, ?_⟩
  refine List.forall_mem_cons.mpr ⟨sn_icmpne dX12_sign_13 (by decide) rfl, ?_⟩
  refine List.forall_mem_cons.mpr ⟨sn_bipush dX12_sign_16 rfl (by decide) ⟨by decide, by decide⟩, ?_⟩
  refine List.forall_mem_cons.mpr ⟨sn_goto dX12_sign_18 (by decide), ?_⟩
  refine List.forall_mem_cons.mpr ⟨sn_iload_n dX12_sign_21 rfl rfl, ?_⟩
  refine List.forall_mem_cons.mpr ⟨sn_bipush dX12_sign_22 rfl (by decide) ⟨by decide, by decide⟩, ?_⟩
  refine List.forall_mem_cons.mpr ⟨sn_icmpne dX12_sign_24 (by decide) rfl, ?_⟩
  refine List.forall_mem_cons.mpr ⟨sn_bipush dX12_sign_27 rfl (by decide) ⟨by decide, by decide⟩, ?_⟩
  refine List.forall_mem_cons.mpr ⟨sn_goto dX12_sign_29 (by decide), ?_⟩
  refine List.forall_mem_cons.mpr ⟨sn_iload_n dX12_sign_32 rfl rfl, ?_⟩
  refine List.forall_mem_cons.mpr ⟨sn_bipush dX12_sign_33 rfl (by decide) ⟨by decide, by decide⟩, ?_⟩
  refine List.forall_mem_cons.mpr ⟨sn_icmpne dX12_sign_35 (by decide) rfl, ?_⟩
  refine List.forall_mem_cons.mpr ⟨sn_bipush dX12_sign_38 rfl (by decide) ⟨by decide, by decide⟩, ?_⟩
  refine List.forall_mem_cons.mpr ⟨sn_goto dX12_sign_40 (by decide), ?_⟩
  refine List.forall_mem_cons.mpr ⟨sn_iconst dX12_sign_43 rfl ⟨by decide, by decide⟩, ?_⟩
  refine List.forall_mem_cons.mpr ⟨sn_istore dX12_sign_44 rfl, ?_⟩
  refine List.forall_mem_cons.mpr ⟨sn_iconst dX12_sign_46 rfl ⟨by decide, by decide⟩, ?_⟩
  refine List.forall_mem_cons.mpr ⟨sn_istore dX12_sign_47 rfl, ?_⟩
  refine List.forall_mem_cons.mpr ⟨sn_iload dX12_sign_49 rfl, ?_⟩
  refine List.forall_mem_cons.mpr ⟨sn_ifle dX12_sign_51 (by decide) rfl, ?_⟩
  refine List.forall_mem_cons.mpr ⟨sn_iload dX12_sign_54 rfl, ?_⟩
  refine List.forall_mem_cons.mpr ⟨sn_istore dX12_sign_56 rfl, ?_⟩
  refine List.forall_mem_cons.mpr ⟨sn_goto dX12_sign_58 (by decide), ?_⟩
  refine List.forall_mem_cons.mpr ⟨sn_iload_n dX12_sign_61 rfl rfl, ?_⟩
  refine List.forall_mem_cons.mpr ⟨sn_bipush dX12_sign_62 rfl (by decide) ⟨by decide, by decide⟩, ?_⟩
  refine List.forall_mem_cons.mpr ⟨sn_icmpne dX12_sign_64 (by decide) rfl, ?_⟩
  refine List.forall_mem_cons.mpr ⟨sn_iconst dX12_sign_67 rfl ⟨by decide, by decide⟩, ?_⟩
  refine List.forall_mem_cons.mpr ⟨sn_istore dX12_sign_68 rfl, ?_⟩
  refine List.forall_mem_cons.mpr ⟨sn_goto dX12_sign_70 (by decide), ?_⟩
  refine List.forall_mem_cons.mpr ⟨sn_iload_n dX12_sign_73 rfl rfl, ?_⟩
  refine List.forall_mem_cons.mpr ⟨sn_bipush dX12_sign_74 rfl (by decide) ⟨by decide, by decide⟩, ?_⟩
  refine List.forall_mem_cons.mpr ⟨sn_icmpne dX12_sign_76 (by decide) rfl, ?_⟩
  refine List.forall_mem_cons.mpr ⟨sn_bipush dX12_sign_79 rfl (by decide) ⟨by decide, by decide⟩, ?_⟩
  refine List.forall_mem_cons.mpr ⟨sn_istore dX12_sign_81 rfl, ?_⟩
  refine List.forall_mem_cons.mpr ⟨sn_goto dX12_sign_83 (by decide), ?_⟩
  refine List.forall_mem_cons.mpr ⟨sn_iload_n dX12_sign_86 rfl rfl, ?_⟩
  refine List.forall_mem_cons.mpr ⟨sn_bipush dX12_sign_87 rfl (by decide) ⟨by decide, by decide⟩, ?_⟩
  refine List.forall_mem_cons.mpr ⟨sn_icmpne dX12_sign_89 (by decide) rfl, ?_⟩
  refine List.forall_mem_cons.mpr ⟨sn_bipush dX12_sign_92 rfl (by decide) ⟨by decide, by decide⟩, ?_⟩
  refine List.forall_mem_cons.mpr ⟨sn_istore dX12_sign_94 rfl, ?_⟩
  refine List.forall_mem_cons.mpr ⟨sn_goto dX12_sign_96 (by decide), ?_⟩
  refine List.forall_mem_cons.mpr ⟨sn_iload_n dX12_sign_99 rfl rfl, ?_⟩
  refine List.forall_mem_cons.mpr ⟨sn_bipush dX12_sign_100 rfl (by decide) ⟨by decide, by decide⟩, ?_⟩
  refine List.forall_mem_cons.mpr ⟨sn_icmpne dX12_sign_102 (by decide) rfl, ?_⟩
  refine List.forall_mem_cons.mpr ⟨sn_bipush dX12_sign_105 rfl (by decide) ⟨by decide, by decide⟩, ?_⟩
  refine List.forall_mem_cons.mpr ⟨sn_istore dX12_sign_107 rfl, ?_⟩
  refine List.forall_mem_cons.mpr ⟨sn_goto dX12_sign_109 (by decide), ?_⟩
  refine List.forall_mem_cons.mpr ⟨sn_iload_n dX12_sign_112 rfl rfl, ?_⟩
  refine List.forall_mem_cons.mpr ⟨sn_bipush dX12_sign_113 rfl (by decide) ⟨by decide, by decide⟩, ?_⟩
  refine List.forall_mem_cons.mpr ⟨sn_icmpne dX12_sign_115 (by decide) rfl, ?_⟩
  refine List.forall_mem_cons.mpr ⟨sn_bipush dX12_sign_118 rfl (by decide) ⟨by decide, by decide⟩, ?_⟩
  refine List.forall_mem_cons.mpr ⟨sn_istore dX12_sign_120 rfl, ?_⟩
  refine List.forall_mem_cons.mpr ⟨sn_goto dX12_sign_122 (by decide), ?_⟩
  refine List.forall_mem_cons.mpr ⟨sn_iload_n dX12_sign_125 rfl rfl, ?_⟩
  refine List.forall_mem_cons.mpr ⟨sn_bipush dX12_sign_126 rfl (by decide) ⟨by decide, by decide⟩, ?_⟩
  refine List.forall_mem_cons.mpr ⟨sn_icmpne dX12_sign_128 (by decide) rfl, ?_⟩
  refine List.forall_mem_cons.mpr ⟨sn_bipush dX12_sign_131 rfl (by decide) ⟨by decide, by decide⟩, ?_⟩
  refine List.forall_mem_cons.mpr ⟨sn_istore dX12_sign_133 rfl, ?_⟩
  refine List.forall_mem_cons.mpr ⟨sn_goto dX12_sign_135 (by decide), ?_⟩
  refine List.forall_mem_cons.mpr ⟨sn_iload_n dX12_sign_138 rfl rfl, ?_⟩
  refine List.forall_mem_cons.mpr ⟨sn_bipush dX12_sign_139 rfl (by decide) ⟨by decide, by decide⟩, ?_⟩
  refine List.forall_mem_cons.mpr ⟨sn_icmpne dX12_sign_141 (by decide) rfl, ?_⟩
  refine List.forall_mem_cons.mpr ⟨sn_bipush dX12_sign_144 rfl (by decide) ⟨by decide, by decide⟩, ?_⟩
  refine List.forall_mem_cons.mpr ⟨sn_istore dX12_sign_146 rfl, ?_⟩
  refine List.forall_mem_cons.mpr ⟨sn_aload_n dX12_sign_148 rfl rfl, ?_⟩
  refine List.forall_mem_cons.mpr ⟨sn_iload dX12_sign_149 rfl, ?_⟩
  refine List.forall_mem_cons.mpr ⟨sn_iload_n dX12_sign_151 rfl rfl, ?_⟩
  refine List.forall_mem_cons.mpr ⟨sn_iconst dX12_sign_152 rfl ⟨by decide, by decide⟩, ?_⟩
  refine List.forall_mem_cons.mpr ⟨sn_lconst0 dX12_sign_153 rfl, ?_⟩
  refine List.forall_mem_cons.mpr ⟨sn_callV mCl_12 mt_131 rfl kt_1309 kt_1311 kp_42 dX12_sign_154 rfl, ?_⟩
  refine List.forall_mem_cons.mpr ⟨sn_iload dX12_sign_157 rfl, ?_⟩
  refine List.forall_mem_cons.mpr ⟨sn_ifle dX12_sign_159 (by decide) rfl, ?_⟩
  refine List.forall_mem_cons.mpr ⟨sn_iconst dX12_sign_162 rfl ⟨by decide, by decide⟩, ?_⟩
  refine List.forall_mem_cons.mpr ⟨sn_goto dX12_sign_163 (by decide), ?_⟩
  refine List.forall_mem_cons.mpr ⟨sn_iconst dX12_sign_166 rfl ⟨by decide, by decide⟩, ?_⟩
  refine List.forall_mem_cons.mpr ⟨sn_iret rfl dX12_sign_167, ?_⟩
  exact List.forall_mem_nil _
theorem sX12_is : ∀ q ∈ tX12_is, mSnd mInf iX12_is q.1 q.2 := by
  unfold tX12_is
  refine List.forall_mem_cons.mpr ⟨sn_aload_n dX12_is_0 rfl rfl, ?_⟩
  refine List.forall_mem_cons.mpr ⟨sn_geti mCl_12 (by decide) rfl kt_1049 dX12_is_1 rfl, ?_⟩
  refine List.forall_mem_cons.mpr ⟨sn_ifne dX12_is_4 (by decide) rfl, ?_⟩
  refine List.forall_mem_cons.mpr ⟨sn_aload_n dX12_is_7 rfl rfl, ?_⟩
  refine List.forall_mem_cons.mpr ⟨sn_getr mCl_12 (by decide) rfl kt_1041 dX12_is_8 rfl, ?_⟩
  refine List.forall_mem_cons.mpr ⟨sn_aload_n dX12_is_11 rfl rfl, ?_⟩
  refine List.forall_mem_cons.mpr ⟨sn_geti mCl_12 (by decide) rfl kt_1047 dX12_is_12 rfl, ?_⟩
  refine List.forall_mem_cons.mpr ⟨sn_iald dX12_is_15 rfl, ?_⟩
  refine List.forall_mem_cons.mpr ⟨sn_iload_n dX12_is_16 rfl rfl, ?_⟩
  refine List.forall_mem_cons.mpr ⟨sn_icmpne dX12_is_17 (by decide) rfl, ?_⟩
  refine List.forall_mem_cons.mpr ⟨sn_iconst dX12_is_20 rfl ⟨by decide, by decide⟩, ?_⟩
  refine List.forall_mem_cons.mpr ⟨sn_goto dX12_is_21 (by decide), ?_⟩
  refine List.forall_mem_cons.mpr ⟨sn_iconst dX12_is_24 rfl ⟨by decide, by decide⟩, ?_⟩
  refine List.forall_mem_cons.mpr ⟨sn_zret rfl dX12_is_25, ?_⟩
  exact List.forall_mem_nil _
theorem sX12_fail : ∀ q ∈ tX12_fail, mSnd mInf iX12_fail q.1 q.2 := by
  unfold tX12_fail
  refine List.forall_mem_cons.mpr ⟨sn_aload_n dX12_fail_0 rfl rfl, ?_⟩
  refine List.forall_mem_cons.mpr ⟨sn_geti mCl_12 (by decide) rfl kt_1049 dX12_fail_1 rfl, ?_⟩
  refine List.forall_mem_cons.mpr ⟨sn_ifle dX12_fail_4 (by decide) rfl, ?_⟩
  refine List.forall_mem_cons.mpr ⟨sn_vret rfl dX12_fail_7, ?_⟩
  refine List.forall_mem_cons.mpr ⟨sn_aload_n dX12_fail_8 rfl rfl, ?_⟩
  refine List.forall_mem_cons.mpr ⟨sn_iload_n dX12_fail_9 rfl rfl, ?_⟩
  refine List.forall_mem_cons.mpr ⟨sn_puti mCl_12 (by decide) rfl (Or.inl rfl) kt_1049 dX12_fail_10 rfl, ?_⟩
  refine List.forall_mem_cons.mpr ⟨sn_aload_n dX12_fail_13 rfl rfl, ?_⟩
  refine List.forall_mem_cons.mpr ⟨sn_aload_n dX12_fail_14 rfl rfl, ?_⟩
  refine List.forall_mem_cons.mpr ⟨sn_getr mCl_12 (by decide) rfl kt_1042 dX12_fail_15 rfl, ?_⟩
  refine List.forall_mem_cons.mpr ⟨sn_aload_n dX12_fail_18 rfl rfl, ?_⟩
  refine List.forall_mem_cons.mpr ⟨sn_geti mCl_12 (by decide) rfl kt_1047 dX12_fail_19 rfl, ?_⟩
  refine List.forall_mem_cons.mpr ⟨sn_iald dX12_fail_22 rfl, ?_⟩
  refine List.forall_mem_cons.mpr ⟨sn_puti mCl_12 (by decide) rfl (Or.inl rfl) kt_1050 dX12_fail_23 rfl, ?_⟩
  refine List.forall_mem_cons.mpr ⟨sn_vret rfl dX12_fail_26, ?_⟩
  exact List.forall_mem_nil _
theorem sX12_wrong : ∀ q ∈ tX12_wrong, mSnd mInf iX12_wrong q.1 q.2 := by
  unfold tX12_wrong
  refine List.forall_mem_cons.mpr ⟨sn_aload_n dX12_wrong_0 rfl rfl, ?_⟩
  refine List.forall_mem_cons.mpr ⟨sn_getr mCl_12 (by decide) rfl kt_1042 dX12_wrong_1 rfl, ?_⟩
  refine List.forall_mem_cons.mpr ⟨sn_iload_n dX12_wrong_4 rfl rfl, ?_⟩
  refine List.forall_mem_cons.mpr ⟨sn_iald dX12_wrong_5 rfl, ?_⟩
  refine List.forall_mem_cons.mpr ⟨sn_istore_n dX12_wrong_6 rfl rfl, ?_⟩
  refine List.forall_mem_cons.mpr ⟨sn_aload_n dX12_wrong_7 rfl rfl, ?_⟩
  refine List.forall_mem_cons.mpr ⟨sn_geti mCl_12 (by decide) rfl kt_1049 dX12_wrong_8 rfl, ?_⟩
  refine List.forall_mem_cons.mpr ⟨sn_ifgt dX12_wrong_11 (by decide) rfl, ?_⟩
  refine List.forall_mem_cons.mpr ⟨sn_aload_n dX12_wrong_14 rfl rfl, ?_⟩
  refine List.forall_mem_cons.mpr ⟨sn_geti mCl_12 (by decide) rfl kt_1051 dX12_wrong_15 rfl, ?_⟩
  refine List.forall_mem_cons.mpr ⟨sn_ifeq dX12_wrong_18 (by decide) rfl, ?_⟩
  refine List.forall_mem_cons.mpr ⟨sn_iload_n dX12_wrong_21 rfl rfl, ?_⟩
  refine List.forall_mem_cons.mpr ⟨sn_aload_n dX12_wrong_22 rfl rfl, ?_⟩
  refine List.forall_mem_cons.mpr ⟨sn_geti mCl_12 (by decide) rfl kt_1052 dX12_wrong_23 rfl, ?_⟩
  refine List.forall_mem_cons.mpr ⟨sn_icmpgt dX12_wrong_26 (by decide) rfl, ?_⟩
  refine List.forall_mem_cons.mpr ⟨sn_iload_n dX12_wrong_29 rfl rfl, ?_⟩
  refine List.forall_mem_cons.mpr ⟨sn_aload_n dX12_wrong_30 rfl rfl, ?_⟩
  refine List.forall_mem_cons.mpr ⟨sn_geti mCl_12 (by decide) rfl kt_1052 dX12_wrong_31 rfl, ?_⟩
  refine List.forall_mem_cons.mpr ⟨sn_icmpne dX12_wrong_34 (by decide) rfl, ?_⟩
  refine List.forall_mem_cons.mpr ⟨sn_iload_n dX12_wrong_37 rfl rfl, ?_⟩
  refine List.forall_mem_cons.mpr ⟨sn_aload_n dX12_wrong_38 rfl rfl, ?_⟩
  refine List.forall_mem_cons.mpr ⟨sn_geti mCl_12 (by decide) rfl kt_1051 dX12_wrong_39 rfl, ?_⟩
  refine List.forall_mem_cons.mpr ⟨sn_icmplt dX12_wrong_42 (by decide) rfl, ?_⟩
  refine List.forall_mem_cons.mpr ⟨sn_vret rfl dX12_wrong_45, ?_⟩
  refine List.forall_mem_cons.mpr ⟨sn_aload_n dX12_wrong_46 rfl rfl, ?_⟩
  refine List.forall_mem_cons.mpr ⟨sn_iload_n dX12_wrong_47 rfl rfl, ?_⟩
  refine List.forall_mem_cons.mpr ⟨sn_puti mCl_12 (by decide) rfl (Or.inl rfl) kt_1051 dX12_wrong_48 rfl, ?_⟩
  refine List.forall_mem_cons.mpr ⟨sn_aload_n dX12_wrong_51 rfl rfl, ?_⟩
  refine List.forall_mem_cons.mpr ⟨sn_iload_n dX12_wrong_52 rfl rfl, ?_⟩
  refine List.forall_mem_cons.mpr ⟨sn_puti mCl_12 (by decide) rfl (Or.inl rfl) kt_1052 dX12_wrong_53 rfl, ?_⟩
  refine List.forall_mem_cons.mpr ⟨sn_vret rfl dX12_wrong_56, ?_⟩
  exact List.forall_mem_nil _
theorem sX12_next : ∀ q ∈ tX12_next, mSnd mInf iX12_next q.1 q.2 := by
  unfold tX12_next
  refine List.forall_mem_cons.mpr ⟨sn_aload_n dX12_next_0 rfl rfl, ?_⟩
  refine List.forall_mem_cons.mpr ⟨sn_geti mCl_12 (by decide) rfl kt_1047 dX12_next_1 rfl, ?_⟩
  refine List.forall_mem_cons.mpr ⟨sn_sipush dX12_next_4 rfl (by decide) ⟨by decide, by decide⟩, ?_⟩
  refine List.forall_mem_cons.mpr ⟨sn_icmpne dX12_next_7 (by decide) rfl, ?_⟩
  refine List.forall_mem_cons.mpr ⟨sn_aload_n dX12_next_10 rfl rfl, ?_⟩
  refine List.forall_mem_cons.mpr ⟨sn_iconst dX12_next_11 rfl ⟨by decide, by decide⟩, ?_⟩
  refine List.forall_mem_cons.mpr ⟨sn_callV mCl_12 mt_135 rfl kt_1331 kt_1333 kp_46 dX12_next_12 rfl, ?_⟩
  refine List.forall_mem_cons.mpr ⟨sn_goto dX12_next_15 (by decide), ?_⟩
  refine List.forall_mem_cons.mpr ⟨sn_aload_n dX12_next_18 rfl rfl, ?_⟩
  refine List.forall_mem_cons.mpr ⟨sn_dup dX12_next_19 rfl, ?_⟩
  refine List.forall_mem_cons.mpr ⟨sn_geti mCl_12 (by decide) rfl kt_1047 dX12_next_20 rfl, ?_⟩
  refine List.forall_mem_cons.mpr ⟨sn_iconst dX12_next_23 rfl ⟨by decide, by decide⟩, ?_⟩
  refine List.forall_mem_cons.mpr ⟨sn_iadd dX12_next_24 rfl, ?_⟩
  refine List.forall_mem_cons.mpr ⟨sn_puti mCl_12 (by decide) rfl (Or.inl rfl) kt_1047 dX12_next_25 rfl, ?_⟩
  refine List.forall_mem_cons.mpr ⟨sn_vret rfl dX12_next_28, ?_⟩
  exact List.forall_mem_nil _
theorem sX12_must : ∀ q ∈ tX12_must, mSnd mInf iX12_must q.1 q.2 := by
  unfold tX12_must
  refine List.forall_mem_cons.mpr ⟨sn_aload_n dX12_must_0 rfl rfl, ?_⟩
  refine List.forall_mem_cons.mpr ⟨sn_iload_n dX12_must_1 rfl rfl, ?_⟩
  refine List.forall_mem_cons.mpr ⟨sn_callV mCl_12 mt_134 rfl kt_1323 kt_1325 kp_44 dX12_must_2 rfl, ?_⟩
  refine List.forall_mem_cons.mpr ⟨sn_ifeq dX12_must_5 (by decide) rfl, ?_⟩
  refine List.forall_mem_cons.mpr ⟨sn_aload_n dX12_must_8 rfl rfl, ?_⟩
  refine List.forall_mem_cons.mpr ⟨sn_callV mCl_12 mt_137 rfl kt_1335 kt_1337 kp_47 dX12_must_9 rfl, ?_⟩
  refine List.forall_mem_cons.mpr ⟨sn_goto dX12_must_12 (by decide), ?_⟩
  refine List.forall_mem_cons.mpr ⟨sn_aload_n dX12_must_15 rfl rfl, ?_⟩
  refine List.forall_mem_cons.mpr ⟨sn_iconst dX12_must_16 rfl ⟨by decide, by decide⟩, ?_⟩
  refine List.forall_mem_cons.mpr ⟨sn_callV mCl_12 mt_135 rfl kt_1331 kt_1333 kp_46 dX12_must_17 rfl, ?_⟩
  refine List.forall_mem_cons.mpr ⟨sn_vret rfl dX12_must_20, ?_⟩
  exact List.forall_mem_nil _
theorem sX12_read : ∀ q ∈ tX12_read, mSnd mInf iX12_read q.1 q.2 := by
  unfold tX12_read
  refine List.forall_mem_cons.mpr ⟨sn_aload_n dX12_read_0 rfl rfl, ?_⟩
  refine List.forall_mem_cons.mpr ⟨sn_aload_n dX12_read_1 rfl rfl, ?_⟩
  refine List.forall_mem_cons.mpr ⟨sn_geti mCl_12 (by decide) rfl kt_1038 dX12_read_2 rfl, ?_⟩
  refine List.forall_mem_cons.mpr ⟨sn_puti mCl_12 (by decide) rfl (Or.inl rfl) kt_1040 dX12_read_5 rfl, ?_⟩
  refine List.forall_mem_cons.mpr ⟨sn_iconst dX12_read_8 rfl ⟨by decide, by decide⟩, ?_⟩
  refine List.forall_mem_cons.mpr ⟨sn_istore_n dX12_read_9 rfl rfl, ?_⟩
  refine List.forall_mem_cons.mpr ⟨sn_iload_n dX12_read_10 rfl rfl, ?_⟩
  refine List.forall_mem_cons.mpr ⟨sn_aload_n dX12_read_11 rfl rfl, ?_⟩
  refine List.forall_mem_cons.mpr ⟨sn_geti mCl_12 (by decide) rfl kt_1040 dX12_read_12 rfl, ?_⟩
  refine List.forall_mem_cons.mpr ⟨sn_icmpge dX12_read_15 (by decide) rfl, ?_⟩
  refine List.forall_mem_cons.mpr ⟨sn_aload_n dX12_read_18 rfl rfl, ?_⟩
  refine List.forall_mem_cons.mpr ⟨sn_getr mCl_12 (by decide) rfl kt_1039 dX12_read_19 rfl, ?_⟩
  refine List.forall_mem_cons.mpr ⟨sn_iload_n dX12_read_22 rfl rfl, ?_⟩
  refine List.forall_mem_cons.mpr ⟨sn_aload_n dX12_read_23 rfl rfl, ?_⟩
  refine List.forall_mem_cons.mpr ⟨sn_getr mCl_12 (by decide) rfl kt_1037 dX12_read_24 rfl, ?_⟩
  refine List.forall_mem_cons.mpr ⟨sn_iload_n dX12_read_27 rfl rfl, ?_⟩
  refine List.forall_mem_cons.mpr ⟨sn_bald dX12_read_28 rfl, ?_⟩
  refine List.forall_mem_cons.mpr ⟨sn_bast dX12_read_29 rfl, ?_⟩
  refine List.forall_mem_cons.mpr ⟨sn_iinc dX12_read_30 rfl, ?_⟩
  refine List.forall_mem_cons.mpr ⟨sn_goto dX12_read_33 (by decide), ?_⟩
  refine List.forall_mem_cons.mpr ⟨sn_aload_n dX12_read_36 rfl rfl, ?_⟩
  refine List.forall_mem_cons.mpr ⟨sn_iconst dX12_read_37 rfl ⟨by decide, by decide⟩, ?_⟩
  refine List.forall_mem_cons.mpr ⟨sn_puti mCl_12 (by decide) rfl (Or.inl rfl) kt_1038 dX12_read_38 rfl, ?_⟩
  refine List.forall_mem_cons.mpr ⟨sn_aload_n dX12_read_41 rfl rfl, ?_⟩
  refine List.forall_mem_cons.mpr ⟨sn_callV mCl_12 mt_132 rfl kt_1301 kt_1303 kp_40 dX12_read_42 rfl, ?_⟩
  refine List.forall_mem_cons.mpr ⟨sn_aload_n dX12_read_45 rfl rfl, ?_⟩
  refine List.forall_mem_cons.mpr ⟨sn_iconst dX12_read_46 rfl ⟨by decide, by decide⟩, ?_⟩
  refine List.forall_mem_cons.mpr ⟨sn_puti mCl_12 (by decide) rfl (Or.inl rfl) kt_1047 dX12_read_47 rfl, ?_⟩
  refine List.forall_mem_cons.mpr ⟨sn_aload_n dX12_read_50 rfl rfl, ?_⟩
  refine List.forall_mem_cons.mpr ⟨sn_iconst dX12_read_51 rfl ⟨by decide, by decide⟩, ?_⟩
  refine List.forall_mem_cons.mpr ⟨sn_puti mCl_12 (by decide) rfl (Or.inl rfl) kt_1048 dX12_read_52 rfl, ?_⟩
  refine List.forall_mem_cons.mpr ⟨sn_aload_n dX12_read_55 rfl rfl, ?_⟩
  refine List.forall_mem_cons.mpr ⟨sn_iconst dX12_read_56 rfl ⟨by decide, by decide⟩, ?_⟩
  refine List.forall_mem_cons.mpr ⟨sn_puti mCl_12 (by decide) rfl (Or.inl rfl) kt_1049 dX12_read_57 rfl, ?_⟩
  refine List.forall_mem_cons.mpr ⟨sn_aload_n dX12_read_60 rfl rfl, ?_⟩
  refine List.forall_mem_cons.mpr ⟨sn_iconst dX12_read_61 rfl ⟨by decide, by decide⟩, ?_⟩
  refine List.forall_mem_cons.mpr ⟨sn_puti mCl_12 (by decide) rfl (Or.inl rfl) kt_1051 dX12_read_62 rfl, ?_⟩
  refine List.forall_mem_cons.mpr ⟨sn_aload_n dX12_read_65 rfl rfl, ?_⟩
  refine List.forall_mem_cons.mpr ⟨sn_iconst dX12_read_66 rfl ⟨by decide, by decide⟩, ?_⟩
  refine List.forall_mem_cons.mpr ⟨sn_aload_n dX12_read_67 rfl rfl, ?_⟩
  refine List.forall_mem_cons.mpr ⟨sn_geti mCl_12 (by decide) rfl kt_1054 dX12_read_68 rfl, ?_⟩
  refine List.forall_mem_cons.mpr ⟨sn_isub dX12_read_71 rfl, ?_⟩
  refine List.forall_mem_cons.mpr ⟨sn_puti mCl_12 (by decide) rfl (Or.inl rfl) kt_1055 dX12_read_72 rfl, ?_⟩
  refine List.forall_mem_cons.mpr ⟨sn_aload_n dX12_read_75 rfl rfl, ?_⟩
  refine List.forall_mem_cons.mpr ⟨sn_getr mCl_12 (by decide) rfl kt_1056 dX12_read_76 rfl, ?_⟩
  refine List.forall_mem_cons.mpr ⟨sn_aload_n dX12_read_79 rfl rfl, ?_⟩
  refine List.forall_mem_cons.mpr ⟨sn_geti mCl_12 (by decide) rfl kt_1055 dX12_read_80 rfl, ?_⟩
  refine List.forall_mem_cons.mpr ⟨sn_iconst dX12_read_83 rfl ⟨by decide, by decide⟩, ?_⟩
  refine List.forall_mem_cons.mpr ⟨sn_iast dX12_read_84 rfl, ?_⟩
  refine List.forall_mem_cons.mpr ⟨sn_aload_n dX12_read_85 rfl rfl, ?_⟩
  refine List.forall_mem_cons.mpr ⟨sn_getr mCl_12 (by decide) rfl kt_1059 dX12_read_86 rfl, ?_⟩
  refine List.forall_mem_cons.mpr ⟨sn_aload_n dX12_read_89 rfl rfl, ?_⟩
  refine List.forall_mem_cons.mpr ⟨sn_geti mCl_12 (by decide) rfl kt_1055 dX12_read_90 rfl, ?_⟩
  refine List.forall_mem_cons.mpr ⟨sn_iconst dX12_read_93 rfl ⟨by decide, by decide⟩, ?_⟩
  refine List.forall_mem_cons.mpr ⟨sn_iast dX12_read_94 rfl, ?_⟩
  refine List.forall_mem_cons.mpr ⟨sn_aload_n dX12_read_95 rfl rfl, ?_⟩
  refine List.forall_mem_cons.mpr ⟨sn_sipush dX12_read_96 rfl (by decide) ⟨by decide, by decide⟩, ?_⟩
  refine List.forall_mem_cons.mpr ⟨sn_aload_n dX12_read_99 rfl rfl, ?_⟩
  refine List.forall_mem_cons.mpr ⟨sn_geti mCl_12 (by decide) rfl kt_1055 dX12_read_100 rfl, ?_⟩
  refine List.forall_mem_cons.mpr ⟨sn_imul dX12_read_103 rfl, ?_⟩
  refine List.forall_mem_cons.mpr ⟨sn_puti mCl_12 (by decide) rfl (Or.inl rfl) kt_1065 dX12_read_104 rfl, ?_⟩
  refine List.forall_mem_cons.mpr ⟨sn_aload_n dX12_read_107 rfl rfl, ?_⟩
  refine List.forall_mem_cons.mpr ⟨sn_getr mCl_12 (by decide) rfl kt_1058 dX12_read_108 rfl, ?_⟩
  refine List.forall_mem_cons.mpr ⟨sn_bipush dX12_read_111 rfl (by decide) ⟨by decide, by decide⟩, ?_⟩
  refine List.forall_mem_cons.mpr ⟨sn_aload_n dX12_read_113 rfl rfl, ?_⟩
  refine List.forall_mem_cons.mpr ⟨sn_geti mCl_12 (by decide) rfl kt_1055 dX12_read_114 rfl, ?_⟩
  refine List.forall_mem_cons.mpr ⟨sn_imul dX12_read_117 rfl, ?_⟩
  refine List.forall_mem_cons.mpr ⟨sn_iconst dX12_read_118 rfl ⟨by decide, by decide⟩, ?_⟩
  refine List.forall_mem_cons.mpr ⟨sn_iast dX12_read_119 rfl, ?_⟩
  refine List.forall_mem_cons.mpr ⟨sn_aload_n dX12_read_120 rfl rfl, ?_⟩
  refine List.forall_mem_cons.mpr ⟨sn_geti mCl_12 (by decide) rfl kt_1049 dX12_read_121 rfl, ?_⟩
  refine List.forall_mem_cons.mpr ⟨sn_ifne dX12_read_124 (by decide) rfl, ?_⟩
  refine List.forall_mem_cons.mpr ⟨sn_aload_n dX12_read_127 rfl rfl, ?_⟩
  refine List.forall_mem_cons.mpr ⟨sn_iconst dX12_read_128 rfl ⟨by decide, by decide⟩, ?_⟩
  refine List.forall_mem_cons.mpr ⟨sn_callV mCl_12 mt_134 rfl kt_1323 kt_1325 kp_44 dX12_read_129 rfl, ?_⟩
  refine List.forall_mem_cons.mpr ⟨sn_ifne dX12_read_132 (by decide) rfl, ?_⟩
  refine List.forall_mem_cons.mpr ⟨sn_aload_n dX12_read_135 rfl rfl, ?_⟩
  refine List.forall_mem_cons.mpr ⟨sn_callV mCl_12 mt_141 rfl kt_1327 kt_1329 kp_45 dX12_read_136 rfl, ?_⟩
  refine List.forall_mem_cons.mpr ⟨sn_goto dX12_read_139 (by decide), ?_⟩
  refine List.forall_mem_cons.mpr ⟨sn_aload_n dX12_read_142 rfl rfl, ?_⟩
  refine List.forall_mem_cons.mpr ⟨sn_aload_n dX12_read_143 rfl rfl, ?_⟩
  refine List.forall_mem_cons.mpr ⟨sn_geti mCl_12 (by decide) rfl kt_1049 dX12_read_144 rfl, ?_⟩
  refine List.forall_mem_cons.mpr ⟨sn_ifle dX12_read_147 (by decide) rfl, ?_⟩
  refine List.forall_mem_cons.mpr ⟨sn_aload_n dX12_read_150 rfl rfl, ?_⟩
  refine List.forall_mem_cons.mpr ⟨sn_geti mCl_12 (by decide) rfl kt_1050 dX12_read_151 rfl, ?_⟩
  refine List.forall_mem_cons.mpr ⟨sn_goto dX12_read_154 (by decide), ?_⟩
  refine List.forall_mem_cons.mpr ⟨sn_aload_n dX12_read_157 rfl rfl, ?_⟩
  refine List.forall_mem_cons.mpr ⟨sn_geti mCl_12 (by decide) rfl kt_1051 dX12_read_158 rfl, ?_⟩
  refine List.forall_mem_cons.mpr ⟨sn_ifle dX12_read_161 (by decide) rfl, ?_⟩
  refine List.forall_mem_cons.mpr ⟨sn_aload_n dX12_read_164 rfl rfl, ?_⟩
  refine List.forall_mem_cons.mpr ⟨sn_geti mCl_12 (by decide) rfl kt_1052 dX12_read_165 rfl, ?_⟩
  refine List.forall_mem_cons.mpr ⟨sn_goto dX12_read_168 (by decide), ?_⟩
  refine List.forall_mem_cons.mpr ⟨sn_iconst dX12_read_171 rfl ⟨by decide, by decide⟩, ?_⟩
  refine List.forall_mem_cons.mpr ⟨sn_puti mCl_12 (by decide) rfl (Or.inl rfl) kt_1053 dX12_read_172 rfl, ?_⟩
  refine List.forall_mem_cons.mpr ⟨sn_aload_n dX12_read_175 rfl rfl, ?_⟩
  refine List.forall_mem_cons.mpr ⟨sn_geti mCl_12 (by decide) rfl kt_1049 dX12_read_176 rfl, ?_⟩
  refine List.forall_mem_cons.mpr ⟨sn_ifle dX12_read_179 (by decide) rfl, ?_⟩
  refine List.forall_mem_cons.mpr ⟨sn_aload_n dX12_read_182 rfl rfl, ?_⟩
  refine List.forall_mem_cons.mpr ⟨sn_geti mCl_12 (by decide) rfl kt_1049 dX12_read_183 rfl, ?_⟩
  refine List.forall_mem_cons.mpr ⟨sn_iret rfl dX12_read_186, ?_⟩
  refine List.forall_mem_cons.mpr ⟨sn_aload_n dX12_read_187 rfl rfl, ?_⟩
  refine List.forall_mem_cons.mpr ⟨sn_geti mCl_12 (by decide) rfl kt_1051 dX12_read_188 rfl, ?_⟩
  refine List.forall_mem_cons.mpr ⟨sn_ifle dX12_read_191 (by decide) rfl, ?_⟩
  refine List.forall_mem_cons.mpr ⟨sn_aload_n dX12_read_194 rfl rfl, ?_⟩
  refine List.forall_mem_cons.mpr ⟨sn_geti mCl_12 (by decide) rfl kt_1051 dX12_read_195 rfl, ?_⟩
  refine List.forall_mem_cons.mpr ⟨sn_iret rfl dX12_read_198, ?_⟩
  refine List.forall_mem_cons.mpr ⟨sn_aload_n dX12_read_199 rfl rfl, ?_⟩
  refine List.forall_mem_cons.mpr ⟨sn_aload_n dX12_read_200 rfl rfl, ?_⟩
  refine List.forall_mem_cons.mpr ⟨sn_geti mCl_12 (by decide) rfl kt_1055 dX12_read_201 rfl, ?_⟩
  refine List.forall_mem_cons.mpr ⟨sn_puti mCl_12 (by decide) rfl (Or.inl rfl) kt_1054 dX12_read_204 rfl, ?_⟩
  refine List.forall_mem_cons.mpr ⟨sn_iconst dX12_read_207 rfl ⟨by decide, by decide⟩, ?_⟩
  refine List.forall_mem_cons.mpr ⟨sn_iret rfl dX12_read_208, ?_⟩
  exact List.forall_mem_nil _
theorem sX12_place : ∀ q ∈ tX12_place, mSnd mInf iX12_place q.1 q.2 := by
  unfold tX12_place
  refine List.forall_mem_cons.mpr ⟨sn_aload_n dX12_place_0 rfl rfl, ?_⟩
  refine List.forall_mem_cons.mpr ⟨sn_geti mCl_12 (by decide) rfl kt_1053 dX12_place_1 rfl, ?_⟩
  refine List.forall_mem_cons.mpr ⟨sn_iret rfl dX12_place_4, ?_⟩
  exact List.forall_mem_nil _
theorem sX12_tellRule : ∀ q ∈ tX12_tellRule, mSnd mInf iX12_tellRule q.1 q.2 := by
  unfold tX12_tellRule
  refine List.forall_mem_cons.mpr ⟨sn_aload_n dX12_tellRule_0 rfl rfl, ?_⟩
  refine List.forall_mem_cons.mpr ⟨sn_bipush dX12_tellRule_1 rfl (by decide) ⟨by decide, by decide⟩, ?_⟩
  refine List.forall_mem_cons.mpr ⟨sn_callV mCl_12 mt_134 rfl kt_1323 kt_1325 kp_44 dX12_tellRule_3 rfl, ?_⟩
  refine List.forall_mem_cons.mpr ⟨sn_ifne dX12_tellRule_6 (by decide) rfl, ?_⟩
  refine List.forall_mem_cons.mpr ⟨sn_aload_n dX12_tellRule_9 rfl rfl, ?_⟩
  refine List.forall_mem_cons.mpr ⟨sn_bipush dX12_tellRule_10 rfl (by decide) ⟨by decide, by decide⟩, ?_⟩
  refine List.forall_mem_cons.mpr ⟨sn_callV mCl_12 mt_134 rfl kt_1323 kt_1325 kp_44 dX12_tellRule_12 rfl, ?_⟩
  refine List.forall_mem_cons.mpr ⟨sn_ifne dX12_tellRule_15 (by decide) rfl, ?_⟩
  refine List.forall_mem_cons.mpr ⟨sn_aload_n dX12_tellRule_18 rfl rfl, ?_⟩
  refine List.forall_mem_cons.mpr ⟨sn_iconst dX12_tellRule_19 rfl ⟨by decide, by decide⟩, ?_⟩
  refine List.forall_mem_cons.mpr ⟨sn_callV mCl_12 mt_135 rfl kt_1331 kt_1333 kp_46 dX12_tellRule_20 rfl, ?_⟩
  refine List.forall_mem_cons.mpr ⟨sn_goto dX12_tellRule_23 (by decide), ?_⟩
  refine List.forall_mem_cons.mpr ⟨sn_aload_n dX12_tellRule_26 rfl rfl, ?_⟩
  refine List.forall_mem_cons.mpr ⟨sn_getr mCl_12 (by decide) rfl kt_1056 dX12_tellRule_27 rfl, ?_⟩
  refine List.forall_mem_cons.mpr ⟨sn_aload_n dX12_tellRule_30 rfl rfl, ?_⟩
  refine List.forall_mem_cons.mpr ⟨sn_geti mCl_12 (by decide) rfl kt_1055 dX12_tellRule_31 rfl, ?_⟩
  refine List.forall_mem_cons.mpr ⟨sn_iald dX12_tellRule_34 rfl, ?_⟩
  refine List.forall_mem_cons.mpr ⟨sn_bipush dX12_tellRule_35 rfl (by decide) ⟨by decide, by decide⟩, ?_⟩
  refine List.forall_mem_cons.mpr ⟨sn_icmpne dX12_tellRule_37 (by decide) rfl, ?_⟩
  refine List.forall_mem_cons.mpr ⟨sn_aload_n dX12_tellRule_40 rfl rfl, ?_⟩
  refine List.forall_mem_cons.mpr ⟨sn_iconst dX12_tellRule_41 rfl ⟨by decide, by decide⟩, ?_⟩
  refine List.forall_mem_cons.mpr ⟨sn_callV mCl_12 mt_135 rfl kt_1331 kt_1333 kp_46 dX12_tellRule_42 rfl, ?_⟩
  refine List.forall_mem_cons.mpr ⟨sn_aload_n dX12_tellRule_45 rfl rfl, ?_⟩
  refine List.forall_mem_cons.mpr ⟨sn_geti mCl_12 (by decide) rfl kt_1049 dX12_tellRule_46 rfl, ?_⟩
  refine List.forall_mem_cons.mpr ⟨sn_ifle dX12_tellRule_49 (by decide) rfl, ?_⟩
  refine List.forall_mem_cons.mpr ⟨sn_vret rfl dX12_tellRule_52, ?_⟩
  refine List.forall_mem_cons.mpr ⟨sn_bipush dX12_tellRule_53 rfl (by decide) ⟨by decide, by decide⟩, ?_⟩
  refine List.forall_mem_cons.mpr ⟨sn_aload_n dX12_tellRule_55 rfl rfl, ?_⟩
  refine List.forall_mem_cons.mpr ⟨sn_geti mCl_12 (by decide) rfl kt_1055 dX12_tellRule_56 rfl, ?_⟩
  refine List.forall_mem_cons.mpr ⟨sn_imul dX12_tellRule_59 rfl, ?_⟩
  refine List.forall_mem_cons.mpr ⟨sn_aload_n dX12_tellRule_60 rfl rfl, ?_⟩
  refine List.forall_mem_cons.mpr ⟨sn_getr mCl_12 (by decide) rfl kt_1056 dX12_tellRule_61 rfl, ?_⟩
  refine List.forall_mem_cons.mpr ⟨sn_aload_n dX12_tellRule_64 rfl rfl, ?_⟩
  refine List.forall_mem_cons.mpr ⟨sn_geti mCl_12 (by decide) rfl kt_1055 dX12_tellRule_65 rfl, ?_⟩
  refine List.forall_mem_cons.mpr ⟨sn_iald dX12_tellRule_68 rfl, ?_⟩
  refine List.forall_mem_cons.mpr ⟨sn_iadd dX12_tellRule_69 rfl, ?_⟩
  refine List.forall_mem_cons.mpr ⟨sn_istore_n dX12_tellRule_70 rfl rfl, ?_⟩
  refine List.forall_mem_cons.mpr ⟨sn_aload_n dX12_tellRule_71 rfl rfl, ?_⟩
  refine List.forall_mem_cons.mpr ⟨sn_getr mCl_12 (by decide) rfl kt_1057 dX12_tellRule_72 rfl, ?_⟩
  refine List.forall_mem_cons.mpr ⟨sn_iload_n dX12_tellRule_75 rfl rfl, ?_⟩
  refine List.forall_mem_cons.mpr ⟨sn_iconst dX12_tellRule_76 rfl ⟨by decide, by decide⟩, ?_⟩
  refine List.forall_mem_cons.mpr ⟨sn_iast dX12_tellRule_77 rfl, ?_⟩
  refine List.forall_mem_cons.mpr ⟨sn_aload_n dX12_tellRule_78 rfl rfl, ?_⟩
  refine List.forall_mem_cons.mpr ⟨sn_bipush dX12_tellRule_79 rfl (by decide) ⟨by decide, by decide⟩, ?_⟩
  refine List.forall_mem_cons.mpr ⟨sn_callV mCl_12 mt_134 rfl kt_1323 kt_1325 kp_44 dX12_tellRule_81 rfl, ?_⟩
  refine List.forall_mem_cons.mpr ⟨sn_istore_n dX12_tellRule_84 rfl rfl, ?_⟩
  refine List.forall_mem_cons.mpr ⟨sn_aload_n dX12_tellRule_85 rfl rfl, ?_⟩
  refine List.forall_mem_cons.mpr ⟨sn_callV mCl_12 mt_137 rfl kt_1335 kt_1337 kp_47 dX12_tellRule_86 rfl, ?_⟩
  refine List.forall_mem_cons.mpr ⟨sn_iload_n dX12_tellRule_89 rfl rfl, ?_⟩
  refine List.forall_mem_cons.mpr ⟨sn_ifeq dX12_tellRule_90 (by decide) rfl, ?_⟩
  refine List.forall_mem_cons.mpr ⟨sn_aload_n dX12_tellRule_93 rfl rfl, ?_⟩
  refine List.forall_mem_cons.mpr ⟨sn_geti mCl_12 (by decide) rfl kt_1047 dX12_tellRule_94 rfl, ?_⟩
  refine List.forall_mem_cons.mpr ⟨sn_istore_n dX12_tellRule_97 rfl rfl, ?_⟩
  refine List.forall_mem_cons.mpr ⟨sn_aload_n dX12_tellRule_98 rfl rfl, ?_⟩
  refine List.forall_mem_cons.mpr ⟨sn_iconst dX12_tellRule_99 rfl ⟨by decide, by decide⟩, ?_⟩
  refine List.forall_mem_cons.mpr ⟨sn_callV mCl_12 mt_138 rfl kt_1339 kt_1341 kp_48 dX12_tellRule_100 rfl, ?_⟩
  refine List.forall_mem_cons.mpr ⟨sn_aload_n dX12_tellRule_103 rfl rfl, ?_⟩
  refine List.forall_mem_cons.mpr ⟨sn_geti mCl_12 (by decide) rfl kt_1049 dX12_tellRule_104 rfl, ?_⟩
  refine List.forall_mem_cons.mpr ⟨sn_ifle dX12_tellRule_107 (by decide) rfl, ?_⟩
  refine List.forall_mem_cons.mpr ⟨sn_vret rfl dX12_tellRule_110, ?_⟩
  refine List.forall_mem_cons.mpr ⟨sn_aload_n dX12_tellRule_111 rfl rfl, ?_⟩
  refine List.forall_mem_cons.mpr ⟨sn_getr mCl_12 (by decide) rfl kt_1057 dX12_tellRule_112 rfl, ?_⟩
  refine List.forall_mem_cons.mpr ⟨sn_iload_n dX12_tellRule_115 rfl rfl, ?_⟩
  refine List.forall_mem_cons.mpr ⟨sn_aload_n dX12_tellRule_116 rfl rfl, ?_⟩
  refine List.forall_mem_cons.mpr ⟨sn_getr mCl_12 (by decide) rfl kt_1043 dX12_tellRule_117 rfl, ?_⟩
  refine List.forall_mem_cons.mpr ⟨sn_iload_n dX12_tellRule_120 rfl rfl, ?_⟩
  refine List.forall_mem_cons.mpr ⟨sn_iald dX12_tellRule_121 rfl, ?_⟩
  refine List.forall_mem_cons.mpr ⟨sn_iast dX12_tellRule_122 rfl, ?_⟩
  refine List.forall_mem_cons.mpr ⟨sn_aload_n dX12_tellRule_123 rfl rfl, ?_⟩
  refine List.forall_mem_cons.mpr ⟨sn_getr mCl_12 (by decide) rfl kt_1043 dX12_tellRule_124 rfl, ?_⟩
  refine List.forall_mem_cons.mpr ⟨sn_iload_n dX12_tellRule_127 rfl rfl, ?_⟩
  refine List.forall_mem_cons.mpr ⟨sn_iald dX12_tellRule_128 rfl, ?_⟩
  refine List.forall_mem_cons.mpr ⟨sn_iconst dX12_tellRule_129 rfl ⟨by decide, by decide⟩, ?_⟩
  refine List.forall_mem_cons.mpr ⟨sn_icmplt dX12_tellRule_130 (by decide) rfl, ?_⟩
  refine List.forall_mem_cons.mpr ⟨sn_aload_n dX12_tellRule_133 rfl rfl, ?_⟩
  refine List.forall_mem_cons.mpr ⟨sn_getr mCl_12 (by decide) rfl kt_1043 dX12_tellRule_134 rfl, ?_⟩
  refine List.forall_mem_cons.mpr ⟨sn_iload_n dX12_tellRule_137 rfl rfl, ?_⟩
  refine List.forall_mem_cons.mpr ⟨sn_iald dX12_tellRule_138 rfl, ?_⟩
  refine List.forall_mem_cons.mpr ⟨sn_sipush dX12_tellRule_139 rfl (by decide) ⟨by decide, by decide⟩, ?_⟩
  refine List.forall_mem_cons.mpr ⟨sn_icmple dX12_tellRule_142 (by decide) rfl, ?_⟩
  refine List.forall_mem_cons.mpr ⟨sn_aload_n dX12_tellRule_145 rfl rfl, ?_⟩
  refine List.forall_mem_cons.mpr ⟨sn_iconst dX12_tellRule_146 rfl ⟨by decide, by decide⟩, ?_⟩
  refine List.forall_mem_cons.mpr ⟨sn_iload_n dX12_tellRule_147 rfl rfl, ?_⟩
  refine List.forall_mem_cons.mpr ⟨sn_callV mCl_12 mt_136 rfl kt_1343 kt_1345 kp_49 dX12_tellRule_148 rfl, ?_⟩
  refine List.forall_mem_cons.mpr ⟨sn_aload_n dX12_tellRule_151 rfl rfl, ?_⟩
  refine List.forall_mem_cons.mpr ⟨sn_bipush dX12_tellRule_152 rfl (by decide) ⟨by decide, by decide⟩, ?_⟩
  refine List.forall_mem_cons.mpr ⟨sn_callV mCl_12 mt_138 rfl kt_1339 kt_1341 kp_48 dX12_tellRule_154 rfl, ?_⟩
  refine List.forall_mem_cons.mpr ⟨sn_iconst dX12_tellRule_157 rfl ⟨by decide, by decide⟩, ?_⟩
  refine List.forall_mem_cons.mpr ⟨sn_istore_n dX12_tellRule_158 rfl rfl, ?_⟩
  refine List.forall_mem_cons.mpr ⟨sn_iconst dX12_tellRule_159 rfl ⟨by decide, by decide⟩, ?_⟩
  refine List.forall_mem_cons.mpr ⟨sn_istore dX12_tellRule_160 rfl, ?_⟩
  refine List.forall_mem_cons.mpr ⟨sn_iload dX12_tellRule_162 rfl, ?_⟩
  refine List.forall_mem_cons.mpr ⟨sn_ifeq dX12_tellRule_164 (by decide) rfl, ?_⟩
  refine List.forall_mem_cons.mpr ⟨sn_aload_n dX12_tellRule_167 rfl rfl, ?_⟩
  refine List.forall_mem_cons.mpr ⟨sn_geti mCl_12 (by decide) rfl kt_1049 dX12_tellRule_168 rfl, ?_⟩
  refine List.forall_mem_cons.mpr ⟨sn_ifne dX12_tellRule_171 (by decide) rfl, ?_⟩
  refine List.forall_mem_cons.mpr ⟨sn_aload_n dX12_tellRule_174 rfl rfl, ?_⟩
  refine List.forall_mem_cons.mpr ⟨sn_iload_n dX12_tellRule_175 rfl rfl, ?_⟩
  refine List.forall_mem_cons.mpr ⟨sn_callV mCl_12 mt_142 rfl kt_1347 kt_1349 kp_50 dX12_tellRule_176 rfl, ?_⟩
  refine List.forall_mem_cons.mpr ⟨sn_aload_n dX12_tellRule_179 rfl rfl, ?_⟩
  refine List.forall_mem_cons.mpr ⟨sn_bipush dX12_tellRule_180 rfl (by decide) ⟨by decide, by decide⟩, ?_⟩
  refine List.forall_mem_cons.mpr ⟨sn_callV mCl_12 mt_134 rfl kt_1323 kt_1325 kp_44 dX12_tellRule_182 rfl, ?_⟩
  refine List.forall_mem_cons.mpr ⟨sn_istore_n dX12_tellRule_185 rfl rfl, ?_⟩
  refine List.forall_mem_cons.mpr ⟨sn_iload_n dX12_tellRule_186 rfl rfl, ?_⟩
  refine List.forall_mem_cons.mpr ⟨sn_ifne dX12_tellRule_187 (by decide) rfl, ?_⟩
  refine List.forall_mem_cons.mpr ⟨sn_aload_n dX12_tellRule_190 rfl rfl, ?_⟩
  refine List.forall_mem_cons.mpr ⟨sn_bipush dX12_tellRule_191 rfl (by decide) ⟨by decide, by decide⟩, ?_⟩
  refine List.forall_mem_cons.mpr ⟨sn_callV mCl_12 mt_134 rfl kt_1323 kt_1325 kp_44 dX12_tellRule_193 rfl, ?_⟩
  refine List.forall_mem_cons.mpr ⟨sn_ifeq dX12_tellRule_196 (by decide) rfl, ?_⟩
  refine List.forall_mem_cons.mpr ⟨sn_iconst dX12_tellRule_199 rfl ⟨by decide, by decide⟩, ?_⟩
  refine List.forall_mem_cons.mpr ⟨sn_goto dX12_tellRule_200 (by decide), ?_⟩
  refine List.forall_mem_cons.mpr ⟨sn_iconst dX12_tellRule_203 rfl ⟨by decide, by decide⟩, ?_⟩
  refine List.forall_mem_cons.mpr ⟨sn_istore dX12_tellRule_204 rfl, ?_⟩
  refine List.forall_mem_cons.mpr ⟨sn_iload dX12_tellRule_206 rfl, ?_⟩
  refine List.forall_mem_cons.mpr ⟨sn_ifeq dX12_tellRule_208 (by decide) rfl, ?_⟩
  refine List.forall_mem_cons.mpr ⟨sn_aload_n dX12_tellRule_211 rfl rfl, ?_⟩
  refine List.forall_mem_cons.mpr ⟨sn_callV mCl_12 mt_137 rfl kt_1335 kt_1337 kp_47 dX12_tellRule_212 rfl, ?_⟩
  refine List.forall_mem_cons.mpr ⟨sn_goto dX12_tellRule_215 (by decide), ?_⟩
  refine List.forall_mem_cons.mpr ⟨sn_aload_n dX12_tellRule_218 rfl rfl, ?_⟩
  refine List.forall_mem_cons.mpr ⟨sn_iconst dX12_tellRule_219 rfl ⟨by decide, by decide⟩, ?_⟩
  refine List.forall_mem_cons.mpr ⟨sn_callV mCl_12 mt_138 rfl kt_1339 kt_1341 kp_48 dX12_tellRule_220 rfl, ?_⟩
  refine List.forall_mem_cons.mpr ⟨sn_aload_n dX12_tellRule_223 rfl rfl, ?_⟩
  refine List.forall_mem_cons.mpr ⟨sn_geti mCl_12 (by decide) rfl kt_1049 dX12_tellRule_224 rfl, ?_⟩
  refine List.forall_mem_cons.mpr ⟨sn_ifle dX12_tellRule_227 (by decide) rfl, ?_⟩
  refine List.forall_mem_cons.mpr ⟨sn_vret rfl dX12_tellRule_230, ?_⟩
  refine List.forall_mem_cons.mpr ⟨sn_aload_n dX12_tellRule_231 rfl rfl, ?_⟩
  refine List.forall_mem_cons.mpr ⟨sn_getr mCl_12 (by decide) rfl kt_1056 dX12_tellRule_232 rfl, ?_⟩
  refine List.forall_mem_cons.mpr ⟨sn_aload_n dX12_tellRule_235 rfl rfl, ?_⟩
  refine List.forall_mem_cons.mpr ⟨sn_geti mCl_12 (by decide) rfl kt_1055 dX12_tellRule_236 rfl, ?_⟩
  refine List.forall_mem_cons.mpr ⟨sn_dup2 dX12_tellRule_239 rfl, ?_⟩
  refine List.forall_mem_cons.mpr ⟨sn_iald dX12_tellRule_240 rfl, ?_⟩
  refine List.forall_mem_cons.mpr ⟨sn_iconst dX12_tellRule_241 rfl ⟨by decide, by decide⟩, ?_⟩
  refine List.forall_mem_cons.mpr ⟨sn_iadd dX12_tellRule_242 rfl, ?_⟩
  refine List.forall_mem_cons.mpr ⟨sn_iast dX12_tellRule_243 rfl, ?_⟩
  refine List.forall_mem_cons.mpr ⟨sn_aload_n dX12_tellRule_244 rfl rfl, ?_⟩
  refine List.forall_mem_cons.mpr ⟨sn_getr mCl_12 (by decide) rfl kt_1058 dX12_tellRule_245 rfl, ?_⟩
  refine List.forall_mem_cons.mpr ⟨sn_bipush dX12_tellRule_248 rfl (by decide) ⟨by decide, by decide⟩, ?_⟩
  refine List.forall_mem_cons.mpr ⟨sn_aload_n dX12_tellRule_250 rfl rfl, ?_⟩
  refine List.forall_mem_cons.mpr ⟨sn_geti mCl_12 (by decide) rfl kt_1055 dX12_tellRule_251 rfl, ?_⟩
  refine List.forall_mem_cons.mpr ⟨sn_imul dX12_tellRule_254 rfl, ?_⟩
  refine List.forall_mem_cons.mpr ⟨sn_aload_n dX12_tellRule_255 rfl rfl, ?_⟩
  refine List.forall_mem_cons.mpr ⟨sn_getr mCl_12 (by decide) rfl kt_1056 dX12_tellRule_256 rfl, ?_⟩
  refine List.forall_mem_cons.mpr ⟨sn_aload_n dX12_tellRule_259 rfl rfl, ?_⟩
  refine List.forall_mem_cons.mpr ⟨sn_geti mCl_12 (by decide) rfl kt_1055 dX12_tellRule_260 rfl, ?_⟩
  refine List.forall_mem_cons.mpr ⟨sn_iald dX12_tellRule_263 rfl, ?_⟩
  refine List.forall_mem_cons.mpr ⟨sn_iadd dX12_tellRule_264 rfl, ?_⟩
  refine List.forall_mem_cons.mpr ⟨sn_aload_n dX12_tellRule_265 rfl rfl, ?_⟩
  refine List.forall_mem_cons.mpr ⟨sn_getr mCl_12 (by decide) rfl kt_1059 dX12_tellRule_266 rfl, ?_⟩
  refine List.forall_mem_cons.mpr ⟨sn_aload_n dX12_tellRule_269 rfl rfl, ?_⟩
  refine List.forall_mem_cons.mpr ⟨sn_geti mCl_12 (by decide) rfl kt_1055 dX12_tellRule_270 rfl, ?_⟩
  refine List.forall_mem_cons.mpr ⟨sn_iald dX12_tellRule_273 rfl, ?_⟩
  refine List.forall_mem_cons.mpr ⟨sn_iast dX12_tellRule_274 rfl, ?_⟩
  refine List.forall_mem_cons.mpr ⟨sn_vret rfl dX12_tellRule_275, ?_⟩
  exact List.forall_mem_nil _
theorem sX12_literal : ∀ q ∈ tX12_literal, mSnd mInf iX12_literal q.1 q.2 := by
  unfold tX12_literal
  refine List.forall_mem_cons.mpr ⟨sn_aload_n dX12_literal_0 rfl rfl, ?_⟩
  refine List.forall_mem_cons.mpr ⟨sn_geti mCl_12 (by decide) rfl kt_1065 dX12_literal_1 rfl, ?_⟩
  refine List.forall_mem_cons.mpr ⟨sn_istore_n dX12_literal_4 rfl rfl, ?_⟩
  refine List.forall_mem_cons.mpr ⟨sn_aload_n dX12_literal_5 rfl rfl, ?_⟩
  refine List.forall_mem_cons.mpr ⟨sn_geti mCl_12 (by decide) rfl kt_1065 dX12_literal_6 rfl, ?_⟩
  refine List.forall_mem_cons.mpr ⟨sn_istore_n dX12_literal_9 rfl rfl, ?_⟩
  refine List.forall_mem_cons.mpr ⟨sn_iconst dX12_literal_10 rfl ⟨by decide, by decide⟩, ?_⟩
  refine List.forall_mem_cons.mpr ⟨sn_istore dX12_literal_11 rfl, ?_⟩
  refine List.forall_mem_cons.mpr ⟨sn_aload_n dX12_literal_13 rfl rfl, ?_⟩
  refine List.forall_mem_cons.mpr ⟨sn_bipush dX12_literal_14 rfl (by decide) ⟨by decide, by decide⟩, ?_⟩
  refine List.forall_mem_cons.mpr ⟨sn_callV mCl_12 mt_134 rfl kt_1323 kt_1325 kp_44 dX12_literal_16 rfl, ?_⟩
  refine List.forall_mem_cons.mpr ⟨sn_ifne dX12_literal_19 (by decide) rfl, ?_⟩
  refine List.forall_mem_cons.mpr ⟨sn_aload_n dX12_literal_22 rfl rfl, ?_⟩
  refine List.forall_mem_cons.mpr ⟨sn_bipush dX12_literal_23 rfl (by decide) ⟨by decide, by decide⟩, ?_⟩
  refine List.forall_mem_cons.mpr ⟨sn_callV mCl_12 mt_134 rfl kt_1323 kt_1325 kp_44 dX12_literal_25 rfl, ?_⟩
  refine List.forall_mem_cons.mpr ⟨sn_ifeq dX12_literal_28 (by decide) rfl, ?_⟩
  refine List.forall_mem_cons.mpr ⟨sn_aload_n dX12_literal_31 rfl rfl, ?_⟩
  refine List.forall_mem_cons.mpr ⟨sn_bipush dX12_literal_32 rfl (by decide) ⟨by decide, by decide⟩, ?_⟩
  refine List.forall_mem_cons.mpr ⟨sn_callV mCl_12 mt_134 rfl kt_1323 kt_1325 kp_44 dX12_literal_34 rfl, ?_⟩
  refine List.forall_mem_cons.mpr ⟨sn_ifeq dX12_literal_37 (by decide) rfl, ?_⟩
  refine List.forall_mem_cons.mpr ⟨sn_iconst dX12_literal_40 rfl ⟨by decide, by decide⟩, ?_⟩
  refine List.forall_mem_cons.mpr ⟨sn_istore dX12_literal_41 rfl, ?_⟩
  refine List.forall_mem_cons.mpr ⟨sn_aload_n dX12_literal_43 rfl rfl, ?_⟩
  refine List.forall_mem_cons.mpr ⟨sn_callV mCl_12 mt_137 rfl kt_1335 kt_1337 kp_47 dX12_literal_44 rfl, ?_⟩
  refine List.forall_mem_cons.mpr ⟨sn_goto dX12_literal_47 (by decide), ?_⟩
  refine List.forall_mem_cons.mpr ⟨sn_aload_n dX12_literal_50 rfl rfl, ?_⟩
  refine List.forall_mem_cons.mpr ⟨sn_callV mCl_12 mt_145 rfl kt_1351 kt_1353 kp_51 dX12_literal_51 rfl, ?_⟩
  refine List.forall_mem_cons.mpr ⟨sn_aload_n dX12_literal_54 rfl rfl, ?_⟩
  refine List.forall_mem_cons.mpr ⟨sn_geti mCl_12 (by decide) rfl kt_1049 dX12_literal_55 rfl, ?_⟩
  refine List.forall_mem_cons.mpr ⟨sn_ifle dX12_literal_58 (by decide) rfl, ?_⟩
  refine List.forall_mem_cons.mpr ⟨sn_iconst dX12_literal_61 rfl ⟨by decide, by decide⟩, ?_⟩
  refine List.forall_mem_cons.mpr ⟨sn_goto dX12_literal_62 (by decide), ?_⟩
  refine List.forall_mem_cons.mpr ⟨sn_aload_n dX12_literal_65 rfl rfl, ?_⟩
  refine List.forall_mem_cons.mpr ⟨sn_getr mCl_12 (by decide) rfl kt_1041 dX12_literal_66 rfl, ?_⟩
  refine List.forall_mem_cons.mpr ⟨sn_aload_n dX12_literal_69 rfl rfl, ?_⟩
  refine List.forall_mem_cons.mpr ⟨sn_geti mCl_12 (by decide) rfl kt_1047 dX12_literal_70 rfl, ?_⟩
  refine List.forall_mem_cons.mpr ⟨sn_iald dX12_literal_73 rfl, ?_⟩
  refine List.forall_mem_cons.mpr ⟨sn_bipush dX12_literal_74 rfl (by decide) ⟨by decide, by decide⟩, ?_⟩
  refine List.forall_mem_cons.mpr ⟨sn_isub dX12_literal_76 rfl, ?_⟩
  refine List.forall_mem_cons.mpr ⟨sn_istore dX12_literal_77 rfl, ?_⟩
  refine List.forall_mem_cons.mpr ⟨sn_aload_n dX12_literal_79 rfl rfl, ?_⟩
  refine List.forall_mem_cons.mpr ⟨sn_geti mCl_12 (by decide) rfl kt_1049 dX12_literal_80 rfl, ?_⟩
  refine List.forall_mem_cons.mpr ⟨sn_ifne dX12_literal_83 (by decide) rfl, ?_⟩
  refine List.forall_mem_cons.mpr ⟨sn_iload dX12_literal_86 rfl, ?_⟩
  refine List.forall_mem_cons.mpr ⟨sn_iflt dX12_literal_88 (by decide) rfl, ?_⟩
  refine List.forall_mem_cons.mpr ⟨sn_iload dX12_literal_91 rfl, ?_⟩
  refine List.forall_mem_cons.mpr ⟨sn_iconst dX12_literal_93 rfl ⟨by decide, by decide⟩, ?_⟩
  refine List.forall_mem_cons.mpr ⟨sn_icmple dX12_literal_94 (by decide) rfl, ?_⟩
  refine List.forall_mem_cons.mpr ⟨sn_aload_n dX12_literal_97 rfl rfl, ?_⟩
  refine List.forall_mem_cons.mpr ⟨sn_iconst dX12_literal_98 rfl ⟨by decide, by decide⟩, ?_⟩
  refine List.forall_mem_cons.mpr ⟨sn_callV mCl_12 mt_135 rfl kt_1331 kt_1333 kp_46 dX12_literal_99 rfl, ?_⟩
  refine List.forall_mem_cons.mpr ⟨sn_aload_n dX12_literal_102 rfl rfl, ?_⟩
  refine List.forall_mem_cons.mpr ⟨sn_callV mCl_12 mt_137 rfl kt_1335 kt_1337 kp_47 dX12_literal_103 rfl, ?_⟩
  refine List.forall_mem_cons.mpr ⟨sn_aload_n dX12_literal_106 rfl rfl, ?_⟩
  refine List.forall_mem_cons.mpr ⟨sn_geti mCl_12 (by decide) rfl kt_1065 dX12_literal_107 rfl, ?_⟩
  refine List.forall_mem_cons.mpr ⟨sn_istore_n dX12_literal_110 rfl rfl, ?_⟩
  refine List.forall_mem_cons.mpr ⟨sn_aload_n dX12_literal_111 rfl rfl, ?_⟩
  refine List.forall_mem_cons.mpr ⟨sn_callV mCl_12 mt_145 rfl kt_1351 kt_1353 kp_51 dX12_literal_112 rfl, ?_⟩
  refine List.forall_mem_cons.mpr ⟨sn_aload_n dX12_literal_115 rfl rfl, ?_⟩
  refine List.forall_mem_cons.mpr ⟨sn_geti mCl_12 (by decide) rfl kt_1049 dX12_literal_116 rfl, ?_⟩
  refine List.forall_mem_cons.mpr ⟨sn_ifle dX12_literal_119 (by decide) rfl, ?_⟩
  refine List.forall_mem_cons.mpr ⟨sn_vret rfl dX12_literal_122, ?_⟩
  refine List.forall_mem_cons.mpr ⟨sn_sipush dX12_literal_123 rfl (by decide) ⟨by decide, by decide⟩, ?_⟩
  refine List.forall_mem_cons.mpr ⟨sn_aload_n dX12_literal_126 rfl rfl, ?_⟩
  refine List.forall_mem_cons.mpr ⟨sn_geti mCl_12 (by decide) rfl kt_1055 dX12_literal_127 rfl, ?_⟩
  refine List.forall_mem_cons.mpr ⟨sn_imul dX12_literal_130 rfl, ?_⟩
  refine List.forall_mem_cons.mpr ⟨sn_aload_n dX12_literal_131 rfl rfl, ?_⟩
  refine List.forall_mem_cons.mpr ⟨sn_getr mCl_12 (by decide) rfl kt_1059 dX12_literal_132 rfl, ?_⟩
  refine List.forall_mem_cons.mpr ⟨sn_aload_n dX12_literal_135 rfl rfl, ?_⟩
  refine List.forall_mem_cons.mpr ⟨sn_geti mCl_12 (by decide) rfl kt_1055 dX12_literal_136 rfl, ?_⟩
  refine List.forall_mem_cons.mpr ⟨sn_iald dX12_literal_139 rfl, ?_⟩
  refine List.forall_mem_cons.mpr ⟨sn_iadd dX12_literal_140 rfl, ?_⟩
  refine List.forall_mem_cons.mpr ⟨sn_istore dX12_literal_141 rfl, ?_⟩
  refine List.forall_mem_cons.mpr ⟨sn_aload_n dX12_literal_143 rfl rfl, ?_⟩
  refine List.forall_mem_cons.mpr ⟨sn_getr mCl_12 (by decide) rfl kt_1060 dX12_literal_144 rfl, ?_⟩
  refine List.forall_mem_cons.mpr ⟨sn_iload dX12_literal_147 rfl, ?_⟩
  refine List.forall_mem_cons.mpr ⟨sn_iload dX12_literal_149 rfl, ?_⟩
  refine List.forall_mem_cons.mpr ⟨sn_iast dX12_literal_151 rfl, ?_⟩
  refine List.forall_mem_cons.mpr ⟨sn_aload_n dX12_literal_152 rfl rfl, ?_⟩
  refine List.forall_mem_cons.mpr ⟨sn_getr mCl_12 (by decide) rfl kt_1061 dX12_literal_153 rfl, ?_⟩
  refine List.forall_mem_cons.mpr ⟨sn_iload dX12_literal_156 rfl, ?_⟩
  refine List.forall_mem_cons.mpr ⟨sn_iload_n dX12_literal_158 rfl rfl, ?_⟩
  refine List.forall_mem_cons.mpr ⟨sn_iast dX12_literal_159 rfl, ?_⟩
  refine List.forall_mem_cons.mpr ⟨sn_aload_n dX12_literal_160 rfl rfl, ?_⟩
  refine List.forall_mem_cons.mpr ⟨sn_getr mCl_12 (by decide) rfl kt_1062 dX12_literal_161 rfl, ?_⟩
  refine List.forall_mem_cons.mpr ⟨sn_iload dX12_literal_164 rfl, ?_⟩
  refine List.forall_mem_cons.mpr ⟨sn_iload_n dX12_literal_166 rfl rfl, ?_⟩
  refine List.forall_mem_cons.mpr ⟨sn_iast dX12_literal_167 rfl, ?_⟩
  refine List.forall_mem_cons.mpr ⟨sn_aload_n dX12_literal_168 rfl rfl, ?_⟩
  refine List.forall_mem_cons.mpr ⟨sn_getr mCl_12 (by decide) rfl kt_1063 dX12_literal_169 rfl, ?_⟩
  refine List.forall_mem_cons.mpr ⟨sn_iload dX12_literal_172 rfl, ?_⟩
  refine List.forall_mem_cons.mpr ⟨sn_aload_n dX12_literal_174 rfl rfl, ?_⟩
  refine List.forall_mem_cons.mpr ⟨sn_geti mCl_12 (by decide) rfl kt_1065 dX12_literal_175 rfl, ?_⟩
  refine List.forall_mem_cons.mpr ⟨sn_iast dX12_literal_178 rfl, ?_⟩
  refine List.forall_mem_cons.mpr ⟨sn_aload_n dX12_literal_179 rfl rfl, ?_⟩
  refine List.forall_mem_cons.mpr ⟨sn_getr mCl_12 (by decide) rfl kt_1064 dX12_literal_180 rfl, ?_⟩
  refine List.forall_mem_cons.mpr ⟨sn_iload dX12_literal_183 rfl, ?_⟩
  refine List.forall_mem_cons.mpr ⟨sn_iload_n dX12_literal_185 rfl rfl, ?_⟩
  refine List.forall_mem_cons.mpr ⟨sn_zast dX12_literal_186 rfl, ?_⟩
  refine List.forall_mem_cons.mpr ⟨sn_aload_n dX12_literal_187 rfl rfl, ?_⟩
  refine List.forall_mem_cons.mpr ⟨sn_getr mCl_12 (by decide) rfl kt_1059 dX12_literal_188 rfl, ?_⟩
  refine List.forall_mem_cons.mpr ⟨sn_aload_n dX12_literal_191 rfl rfl, ?_⟩
  refine List.forall_mem_cons.mpr ⟨sn_geti mCl_12 (by decide) rfl kt_1055 dX12_literal_192 rfl, ?_⟩
  refine List.forall_mem_cons.mpr ⟨sn_dup2 dX12_literal_195 rfl, ?_⟩
  refine List.forall_mem_cons.mpr ⟨sn_iald dX12_literal_196 rfl, ?_⟩
  refine List.forall_mem_cons.mpr ⟨sn_iconst dX12_literal_197 rfl ⟨by decide, by decide⟩, ?_⟩
  refine List.forall_mem_cons.mpr ⟨sn_iadd dX12_literal_198 rfl, ?_⟩
  refine List.forall_mem_cons.mpr ⟨sn_iast dX12_literal_199 rfl, ?_⟩
  refine List.forall_mem_cons.mpr ⟨sn_vret rfl dX12_literal_200, ?_⟩
  exact List.forall_mem_nil _
theorem sX12_emit : ∀ q ∈ tX12_emit, mSnd mInf iX12_emit q.1 q.2 := by
  unfold tX12_emit
  refine List.forall_mem_cons.mpr ⟨sn_aload_n dX12_emit_0 rfl rfl, ?_⟩
  refine List.forall_mem_cons.mpr ⟨sn_getr mCl_12 (by decide) rfl kt_1066 dX12_emit_1 rfl, ?_⟩
  refine List.forall_mem_cons.mpr ⟨sn_aload_n dX12_emit_4 rfl rfl, ?_⟩
  refine List.forall_mem_cons.mpr ⟨sn_geti mCl_12 (by decide) rfl kt_1065 dX12_emit_5 rfl, ?_⟩
  refine List.forall_mem_cons.mpr ⟨sn_iload_n dX12_emit_8 rfl rfl, ?_⟩
  refine List.forall_mem_cons.mpr ⟨sn_iast dX12_emit_9 rfl, ?_⟩
  refine List.forall_mem_cons.mpr ⟨sn_aload_n dX12_emit_10 rfl rfl, ?_⟩
  refine List.forall_mem_cons.mpr ⟨sn_getr mCl_12 (by decide) rfl kt_1067 dX12_emit_11 rfl, ?_⟩
  refine List.forall_mem_cons.mpr ⟨sn_aload_n dX12_emit_14 rfl rfl, ?_⟩
  refine List.forall_mem_cons.mpr ⟨sn_geti mCl_12 (by decide) rfl kt_1065 dX12_emit_15 rfl, ?_⟩
  refine List.forall_mem_cons.mpr ⟨sn_iload_n dX12_emit_18 rfl rfl, ?_⟩
  refine List.forall_mem_cons.mpr ⟨sn_iast dX12_emit_19 rfl, ?_⟩
  refine List.forall_mem_cons.mpr ⟨sn_aload_n dX12_emit_20 rfl rfl, ?_⟩
  refine List.forall_mem_cons.mpr ⟨sn_dup dX12_emit_21 rfl, ?_⟩
  refine List.forall_mem_cons.mpr ⟨sn_geti mCl_12 (by decide) rfl kt_1065 dX12_emit_22 rfl, ?_⟩
  refine List.forall_mem_cons.mpr ⟨sn_iconst dX12_emit_25 rfl ⟨by decide, by decide⟩, ?_⟩
  refine List.forall_mem_cons.mpr ⟨sn_iadd dX12_emit_26 rfl, ?_⟩
  refine List.forall_mem_cons.mpr ⟨sn_puti mCl_12 (by decide) rfl (Or.inl rfl) kt_1065 dX12_emit_27 rfl, ?_⟩
  refine List.forall_mem_cons.mpr ⟨sn_vret rfl dX12_emit_30, ?_⟩
  exact List.forall_mem_nil _
theorem sX12_comesOut : ∀ q ∈ tX12_comesOut, mSnd mInf iX12_comesOut q.1 q.2 := by
  unfold tX12_comesOut
  refine List.forall_mem_cons.mpr ⟨sn_aload_n dX12_comesOut_0 rfl rfl, ?_⟩
  refine List.forall_mem_cons.mpr ⟨sn_geti mCl_12 (by decide) rfl kt_1069 dX12_comesOut_1 rfl, ?_⟩
  refine List.forall_mem_cons.mpr ⟨sn_ifle dX12_comesOut_4 (by decide) rfl, ?_⟩
  refine List.forall_mem_cons.mpr ⟨sn_aload_n dX12_comesOut_7 rfl rfl, ?_⟩
  refine List.forall_mem_cons.mpr ⟨sn_getr mCl_12 (by decide) rfl kt_1068 dX12_comesOut_8 rfl, ?_⟩
  refine List.forall_mem_cons.mpr ⟨sn_aload_n dX12_comesOut_11 rfl rfl, ?_⟩
  refine List.forall_mem_cons.mpr ⟨sn_geti mCl_12 (by decide) rfl kt_1069 dX12_comesOut_12 rfl, ?_⟩
  refine List.forall_mem_cons.mpr ⟨sn_iconst dX12_comesOut_15 rfl ⟨by decide, by decide⟩, ?_⟩
  refine List.forall_mem_cons.mpr ⟨sn_isub dX12_comesOut_16 rfl, ?_⟩
  refine List.forall_mem_cons.mpr ⟨sn_iald dX12_comesOut_17 rfl, ?_⟩
  refine List.forall_mem_cons.mpr ⟨sn_bipush dX12_comesOut_18 rfl (by decide) ⟨by decide, by decide⟩, ?_⟩
  refine List.forall_mem_cons.mpr ⟨sn_icmpeq dX12_comesOut_20 (by decide) rfl, ?_⟩
  refine List.forall_mem_cons.mpr ⟨sn_iload_n dX12_comesOut_23 rfl rfl, ?_⟩
  refine List.forall_mem_cons.mpr ⟨sn_ifeq dX12_comesOut_24 (by decide) rfl, ?_⟩
  refine List.forall_mem_cons.mpr ⟨sn_aload_n dX12_comesOut_27 rfl rfl, ?_⟩
  refine List.forall_mem_cons.mpr ⟨sn_getr mCl_12 (by decide) rfl kt_1068 dX12_comesOut_28 rfl, ?_⟩
  refine List.forall_mem_cons.mpr ⟨sn_aload_n dX12_comesOut_31 rfl rfl, ?_⟩
  refine List.forall_mem_cons.mpr ⟨sn_geti mCl_12 (by decide) rfl kt_1069 dX12_comesOut_32 rfl, ?_⟩
  refine List.forall_mem_cons.mpr ⟨sn_iconst dX12_comesOut_35 rfl ⟨by decide, by decide⟩, ?_⟩
  refine List.forall_mem_cons.mpr ⟨sn_isub dX12_comesOut_36 rfl, ?_⟩
  refine List.forall_mem_cons.mpr ⟨sn_iald dX12_comesOut_37 rfl, ?_⟩
  refine List.forall_mem_cons.mpr ⟨sn_bipush dX12_comesOut_38 rfl (by decide) ⟨by decide, by decide⟩, ?_⟩
  refine List.forall_mem_cons.mpr ⟨sn_icmpne dX12_comesOut_40 (by decide) rfl, ?_⟩
  refine List.forall_mem_cons.mpr ⟨sn_aload_n dX12_comesOut_43 rfl rfl, ?_⟩
  refine List.forall_mem_cons.mpr ⟨sn_dup dX12_comesOut_44 rfl, ?_⟩
  refine List.forall_mem_cons.mpr ⟨sn_geti mCl_12 (by decide) rfl kt_1069 dX12_comesOut_45 rfl, ?_⟩
  refine List.forall_mem_cons.mpr ⟨sn_iconst dX12_comesOut_48 rfl ⟨by decide, by decide⟩, ?_⟩
  refine List.forall_mem_cons.mpr ⟨sn_isub dX12_comesOut_49 rfl, ?_⟩
  refine List.forall_mem_cons.mpr ⟨sn_puti mCl_12 (by decide) rfl (Or.inl rfl) kt_1069 dX12_comesOut_50 rfl, ?_⟩
  refine List.forall_mem_cons.mpr ⟨sn_aload_n dX12_comesOut_53 rfl rfl, ?_⟩
  refine List.forall_mem_cons.mpr ⟨sn_getr mCl_12 (by decide) rfl kt_1068 dX12_comesOut_54 rfl, ?_⟩
  refine List.forall_mem_cons.mpr ⟨sn_aload_n dX12_comesOut_57 rfl rfl, ?_⟩
  refine List.forall_mem_cons.mpr ⟨sn_geti mCl_12 (by decide) rfl kt_1069 dX12_comesOut_58 rfl, ?_⟩
  refine List.forall_mem_cons.mpr ⟨sn_iald dX12_comesOut_61 rfl, ?_⟩
  refine List.forall_mem_cons.mpr ⟨sn_istore_n dX12_comesOut_62 rfl rfl, ?_⟩
  refine List.forall_mem_cons.mpr ⟨sn_aload_n dX12_comesOut_63 rfl rfl, ?_⟩
  refine List.forall_mem_cons.mpr ⟨sn_iload_n dX12_comesOut_64 rfl rfl, ?_⟩
  refine List.forall_mem_cons.mpr ⟨sn_bipush dX12_comesOut_65 rfl (by decide) ⟨by decide, by decide⟩, ?_⟩
  refine List.forall_mem_cons.mpr ⟨sn_icmpne dX12_comesOut_67 (by decide) rfl, ?_⟩
  refine List.forall_mem_cons.mpr ⟨sn_iconst dX12_comesOut_70 rfl ⟨by decide, by decide⟩, ?_⟩
  refine List.forall_mem_cons.mpr ⟨sn_goto dX12_comesOut_71 (by decide), ?_⟩
  refine List.forall_mem_cons.mpr ⟨sn_iload_n dX12_comesOut_74 rfl rfl, ?_⟩
  refine List.forall_mem_cons.mpr ⟨sn_bipush dX12_comesOut_75 rfl (by decide) ⟨by decide, by decide⟩, ?_⟩
  refine List.forall_mem_cons.mpr ⟨sn_icmpne dX12_comesOut_77 (by decide) rfl, ?_⟩
  refine List.forall_mem_cons.mpr ⟨sn_iconst dX12_comesOut_80 rfl ⟨by decide, by decide⟩, ?_⟩
  refine List.forall_mem_cons.mpr ⟨sn_goto dX12_comesOut_81 (by decide), ?_⟩
  refine List.forall_mem_cons.mpr ⟨sn_iconst dX12_comesOut_84 rfl ⟨by decide, by decide⟩, ?_⟩
  refine List.forall_mem_cons.mpr ⟨sn_iconst dX12_comesOut_85 rfl ⟨by decide, by decide⟩, ?_⟩
  refine List.forall_mem_cons.mpr ⟨sn_callV mCl_12 mt_143 rfl kt_1355 kt_1357 kp_52 dX12_comesOut_86 rfl, ?_⟩
  refine List.forall_mem_cons.mpr ⟨sn_goto dX12_comesOut_89 (by decide), ?_⟩
  refine List.forall_mem_cons.mpr ⟨sn_vret rfl dX12_comesOut_92, ?_⟩
  exact List.forall_mem_nil _
theorem sX12_expression : ∀ q ∈ tX12_expression, mSnd mInf iX12_expression q.1 q.2 := by
  unfold tX12_expression
  refine List.forall_mem_cons.mpr ⟨sn_aload_n dX12_expression_0 rfl rfl, ?_⟩
  refine List.forall_mem_cons.mpr ⟨sn_iconst dX12_expression_1 rfl ⟨by decide, by decide⟩, ?_⟩
  refine List.forall_mem_cons.mpr ⟨sn_puti mCl_12 (by decide) rfl (Or.inl rfl) kt_1069 dX12_expression_2 rfl, ?_⟩
  refine List.forall_mem_cons.mpr ⟨sn_aload_n dX12_expression_5 rfl rfl, ?_⟩
  refine List.forall_mem_cons.mpr ⟨sn_geti mCl_12 (by decide) rfl kt_1048 dX12_expression_6 rfl, ?_⟩
  refine List.forall_mem_cons.mpr ⟨sn_istore_n dX12_expression_9 rfl rfl, ?_⟩
  refine List.forall_mem_cons.mpr ⟨sn_iconst dX12_expression_10 rfl ⟨by decide, by decide⟩, ?_⟩
  refine List.forall_mem_cons.mpr ⟨sn_istore_n dX12_expression_11 rfl rfl, ?_⟩
  refine List.forall_mem_cons.mpr ⟨sn_iload_n dX12_expression_12 rfl rfl, ?_⟩
  refine List.forall_mem_cons.mpr ⟨sn_ifeq dX12_expression_13 (by decide) rfl, ?_⟩
  refine List.forall_mem_cons.mpr ⟨sn_aload_n dX12_expression_16 rfl rfl, ?_⟩
  refine List.forall_mem_cons.mpr ⟨sn_geti mCl_12 (by decide) rfl kt_1049 dX12_expression_17 rfl, ?_⟩
  refine List.forall_mem_cons.mpr ⟨sn_ifne dX12_expression_20 (by decide) rfl, ?_⟩
  refine List.forall_mem_cons.mpr ⟨sn_aload_n dX12_expression_23 rfl rfl, ?_⟩
  refine List.forall_mem_cons.mpr ⟨sn_bipush dX12_expression_24 rfl (by decide) ⟨by decide, by decide⟩, ?_⟩
  refine List.forall_mem_cons.mpr ⟨sn_callV mCl_12 mt_134 rfl kt_1323 kt_1325 kp_44 dX12_expression_26 rfl, ?_⟩
  refine List.forall_mem_cons.mpr ⟨sn_ifeq dX12_expression_29 (by decide) rfl, ?_⟩
  refine List.forall_mem_cons.mpr ⟨sn_aload_n dX12_expression_32 rfl rfl, ?_⟩
  refine List.forall_mem_cons.mpr ⟨sn_geti mCl_12 (by decide) rfl kt_1048 dX12_expression_33 rfl, ?_⟩
  refine List.forall_mem_cons.mpr ⟨sn_bipush dX12_expression_36 rfl (by decide) ⟨by decide, by decide⟩, ?_⟩
  refine List.forall_mem_cons.mpr ⟨sn_icmpne dX12_expression_38 (by decide) rfl, ?_⟩
  refine List.forall_mem_cons.mpr ⟨sn_aload_n dX12_expression_41 rfl rfl, ?_⟩
  refine List.forall_mem_cons.mpr ⟨sn_iconst dX12_expression_42 rfl ⟨by decide, by decide⟩, ?_⟩
  refine List.forall_mem_cons.mpr ⟨sn_callV mCl_12 mt_135 rfl kt_1331 kt_1333 kp_46 dX12_expression_43 rfl, ?_⟩
  refine List.forall_mem_cons.mpr ⟨sn_aload_n dX12_expression_46 rfl rfl, ?_⟩
  refine List.forall_mem_cons.mpr ⟨sn_geti mCl_12 (by decide) rfl kt_1049 dX12_expression_47 rfl, ?_⟩
  refine List.forall_mem_cons.mpr ⟨sn_ifle dX12_expression_50 (by decide) rfl, ?_⟩
  refine List.forall_mem_cons.mpr ⟨sn_vret rfl dX12_expression_53, ?_⟩
  refine List.forall_mem_cons.mpr ⟨sn_aload_n dX12_expression_54 rfl rfl, ?_⟩
  refine List.forall_mem_cons.mpr ⟨sn_dup dX12_expression_55 rfl, ?_⟩
  refine List.forall_mem_cons.mpr ⟨sn_geti mCl_12 (by decide) rfl kt_1048 dX12_expression_56 rfl, ?_⟩
  refine List.forall_mem_cons.mpr ⟨sn_iconst dX12_expression_59 rfl ⟨by decide, by decide⟩, ?_⟩
  refine List.forall_mem_cons.mpr ⟨sn_iadd dX12_expression_60 rfl, ?_⟩
  refine List.forall_mem_cons.mpr ⟨sn_puti mCl_12 (by decide) rfl (Or.inl rfl) kt_1048 dX12_expression_61 rfl, ?_⟩
  refine List.forall_mem_cons.mpr ⟨sn_aload_n dX12_expression_64 rfl rfl, ?_⟩
  refine List.forall_mem_cons.mpr ⟨sn_callV mCl_12 mt_137 rfl kt_1335 kt_1337 kp_47 dX12_expression_65 rfl, ?_⟩
  refine List.forall_mem_cons.mpr ⟨sn_aload_n dX12_expression_68 rfl rfl, ?_⟩
  refine List.forall_mem_cons.mpr ⟨sn_getr mCl_12 (by decide) rfl kt_1068 dX12_expression_69 rfl, ?_⟩
  refine List.forall_mem_cons.mpr ⟨sn_aload_n dX12_expression_72 rfl rfl, ?_⟩
  refine List.forall_mem_cons.mpr ⟨sn_geti mCl_12 (by decide) rfl kt_1069 dX12_expression_73 rfl, ?_⟩
  refine List.forall_mem_cons.mpr ⟨sn_bipush dX12_expression_76 rfl (by decide) ⟨by decide, by decide⟩, ?_⟩
  refine List.forall_mem_cons.mpr ⟨sn_iast dX12_expression_78 rfl, ?_⟩
  refine List.forall_mem_cons.mpr ⟨sn_aload_n dX12_expression_79 rfl rfl, ?_⟩
  refine List.forall_mem_cons.mpr ⟨sn_dup dX12_expression_80 rfl, ?_⟩
  refine List.forall_mem_cons.mpr ⟨sn_geti mCl_12 (by decide) rfl kt_1069 dX12_expression_81 rfl, ?_⟩
  refine List.forall_mem_cons.mpr ⟨sn_iconst dX12_expression_84 rfl ⟨by decide, by decide⟩, ?_⟩
  refine List.forall_mem_cons.mpr ⟨sn_iadd dX12_expression_85 rfl, ?_⟩
  refine List.forall_mem_cons.mpr ⟨sn_puti mCl_12 (by decide) rfl (Or.inl rfl) kt_1069 dX12_expression_86 rfl, ?_⟩
  refine List.forall_mem_cons.mpr ⟨sn_goto dX12_expression_89 (by decide), ?_⟩
  refine List.forall_mem_cons.mpr ⟨sn_aload_n dX12_expression_92 rfl rfl, ?_⟩
  refine List.forall_mem_cons.mpr ⟨sn_geti mCl_12 (by decide) rfl kt_1049 dX12_expression_93 rfl, ?_⟩
  refine List.forall_mem_cons.mpr ⟨sn_ifne dX12_expression_96 (by decide) rfl, ?_⟩
  refine List.forall_mem_cons.mpr ⟨sn_aload_n dX12_expression_99 rfl rfl, ?_⟩
  refine List.forall_mem_cons.mpr ⟨sn_getr mCl_12 (by decide) rfl kt_1041 dX12_expression_100 rfl, ?_⟩
  refine List.forall_mem_cons.mpr ⟨sn_aload_n dX12_expression_103 rfl rfl, ?_⟩
  refine List.forall_mem_cons.mpr ⟨sn_geti mCl_12 (by decide) rfl kt_1047 dX12_expression_104 rfl, ?_⟩
  refine List.forall_mem_cons.mpr ⟨sn_iald dX12_expression_107 rfl, ?_⟩
  refine List.forall_mem_cons.mpr ⟨sn_bipush dX12_expression_108 rfl (by decide) ⟨by decide, by decide⟩, ?_⟩
  refine List.forall_mem_cons.mpr ⟨sn_icmplt dX12_expression_110 (by decide) rfl, ?_⟩
  refine List.forall_mem_cons.mpr ⟨sn_aload_n dX12_expression_113 rfl rfl, ?_⟩
  refine List.forall_mem_cons.mpr ⟨sn_getr mCl_12 (by decide) rfl kt_1041 dX12_expression_114 rfl, ?_⟩
  refine List.forall_mem_cons.mpr ⟨sn_aload_n dX12_expression_117 rfl rfl, ?_⟩
  refine List.forall_mem_cons.mpr ⟨sn_geti mCl_12 (by decide) rfl kt_1047 dX12_expression_118 rfl, ?_⟩
  refine List.forall_mem_cons.mpr ⟨sn_iald dX12_expression_121 rfl, ?_⟩
  refine List.forall_mem_cons.mpr ⟨sn_bipush dX12_expression_122 rfl (by decide) ⟨by decide, by decide⟩, ?_⟩
  refine List.forall_mem_cons.mpr ⟨sn_icmpgt dX12_expression_124 (by decide) rfl, ?_⟩
  refine List.forall_mem_cons.mpr ⟨sn_iconst dX12_expression_127 rfl ⟨by decide, by decide⟩, ?_⟩
  refine List.forall_mem_cons.mpr ⟨sn_goto dX12_expression_128 (by decide), ?_⟩
  refine List.forall_mem_cons.mpr ⟨sn_iconst dX12_expression_131 rfl ⟨by decide, by decide⟩, ?_⟩
  refine List.forall_mem_cons.mpr ⟨sn_istore_n dX12_expression_132 rfl rfl, ?_⟩
  refine List.forall_mem_cons.mpr ⟨sn_aload_n dX12_expression_133 rfl rfl, ?_⟩
  refine List.forall_mem_cons.mpr ⟨sn_iconst dX12_expression_134 rfl ⟨by decide, by decide⟩, ?_⟩
  refine List.forall_mem_cons.mpr ⟨sn_callV mCl_12 mt_134 rfl kt_1323 kt_1325 kp_44 dX12_expression_135 rfl, ?_⟩
  refine List.forall_mem_cons.mpr ⟨sn_ifne dX12_expression_138 (by decide) rfl, ?_⟩
  refine List.forall_mem_cons.mpr ⟨sn_iload_n dX12_expression_141 rfl rfl, ?_⟩
  refine List.forall_mem_cons.mpr ⟨sn_ifne dX12_expression_142 (by decide) rfl, ?_⟩
  refine List.forall_mem_cons.mpr ⟨sn_aload_n dX12_expression_145 rfl rfl, ?_⟩
  refine List.forall_mem_cons.mpr ⟨sn_iconst dX12_expression_146 rfl ⟨by decide, by decide⟩, ?_⟩
  refine List.forall_mem_cons.mpr ⟨sn_callV mCl_12 mt_135 rfl kt_1331 kt_1333 kp_46 dX12_expression_147 rfl, ?_⟩
  refine List.forall_mem_cons.mpr ⟨sn_aload_n dX12_expression_150 rfl rfl, ?_⟩
  refine List.forall_mem_cons.mpr ⟨sn_geti mCl_12 (by decide) rfl kt_1049 dX12_expression_151 rfl, ?_⟩
  refine List.forall_mem_cons.mpr ⟨sn_ifle dX12_expression_154 (by decide) rfl, ?_⟩
  refine List.forall_mem_cons.mpr ⟨sn_vret rfl dX12_expression_157, ?_⟩
  refine List.forall_mem_cons.mpr ⟨sn_iload_n dX12_expression_158 rfl rfl, ?_⟩
  refine List.forall_mem_cons.mpr ⟨sn_ifeq dX12_expression_159 (by decide) rfl, ?_⟩
  refine List.forall_mem_cons.mpr ⟨sn_aload_n dX12_expression_162 rfl rfl, ?_⟩
  refine List.forall_mem_cons.mpr ⟨sn_iconst dX12_expression_163 rfl ⟨by decide, by decide⟩, ?_⟩
  refine List.forall_mem_cons.mpr ⟨sn_aload_n dX12_expression_164 rfl rfl, ?_⟩
  refine List.forall_mem_cons.mpr ⟨sn_getr mCl_12 (by decide) rfl kt_1041 dX12_expression_165 rfl, ?_⟩
  refine List.forall_mem_cons.mpr ⟨sn_aload_n dX12_expression_168 rfl rfl, ?_⟩
  refine List.forall_mem_cons.mpr ⟨sn_geti mCl_12 (by decide) rfl kt_1047 dX12_expression_169 rfl, ?_⟩
  refine List.forall_mem_cons.mpr ⟨sn_iald dX12_expression_172 rfl, ?_⟩
  refine List.forall_mem_cons.mpr ⟨sn_bipush dX12_expression_173 rfl (by decide) ⟨by decide, by decide⟩, ?_⟩
  refine List.forall_mem_cons.mpr ⟨sn_isub dX12_expression_175 rfl, ?_⟩
  refine List.forall_mem_cons.mpr ⟨sn_callV mCl_12 mt_143 rfl kt_1355 kt_1357 kp_52 dX12_expression_176 rfl, ?_⟩
  refine List.forall_mem_cons.mpr ⟨sn_goto dX12_expression_179 (by decide), ?_⟩
  refine List.forall_mem_cons.mpr ⟨sn_aload_n dX12_expression_182 rfl rfl, ?_⟩
  refine List.forall_mem_cons.mpr ⟨sn_iconst dX12_expression_183 rfl ⟨by decide, by decide⟩, ?_⟩
  refine List.forall_mem_cons.mpr ⟨sn_aload_n dX12_expression_184 rfl rfl, ?_⟩
  refine List.forall_mem_cons.mpr ⟨sn_getr mCl_12 (by decide) rfl kt_1043 dX12_expression_185 rfl, ?_⟩
  refine List.forall_mem_cons.mpr ⟨sn_aload_n dX12_expression_188 rfl rfl, ?_⟩
  refine List.forall_mem_cons.mpr ⟨sn_geti mCl_12 (by decide) rfl kt_1047 dX12_expression_189 rfl, ?_⟩
  refine List.forall_mem_cons.mpr ⟨sn_iald dX12_expression_192 rfl, ?_⟩
  refine List.forall_mem_cons.mpr ⟨sn_callV mCl_12 mt_143 rfl kt_1355 kt_1357 kp_52 dX12_expression_193 rfl, ?_⟩
  refine List.forall_mem_cons.mpr ⟨sn_aload_n dX12_expression_196 rfl rfl, ?_⟩
  refine List.forall_mem_cons.mpr ⟨sn_callV mCl_12 mt_137 rfl kt_1335 kt_1337 kp_47 dX12_expression_197 rfl, ?_⟩
  refine List.forall_mem_cons.mpr ⟨sn_aload_n dX12_expression_200 rfl rfl, ?_⟩
  refine List.forall_mem_cons.mpr ⟨sn_bipush dX12_expression_201 rfl (by decide) ⟨by decide, by decide⟩, ?_⟩
  refine List.forall_mem_cons.mpr ⟨sn_callV mCl_12 mt_134 rfl kt_1323 kt_1325 kp_44 dX12_expression_203 rfl, ?_⟩
  refine List.forall_mem_cons.mpr ⟨sn_ifeq dX12_expression_206 (by decide) rfl, ?_⟩
  refine List.forall_mem_cons.mpr ⟨sn_aload_n dX12_expression_209 rfl rfl, ?_⟩
  refine List.forall_mem_cons.mpr ⟨sn_geti mCl_12 (by decide) rfl kt_1048 dX12_expression_210 rfl, ?_⟩
  refine List.forall_mem_cons.mpr ⟨sn_iload_n dX12_expression_213 rfl rfl, ?_⟩
  refine List.forall_mem_cons.mpr ⟨sn_icmple dX12_expression_214 (by decide) rfl, ?_⟩
  refine List.forall_mem_cons.mpr ⟨sn_aload_n dX12_expression_217 rfl rfl, ?_⟩
  refine List.forall_mem_cons.mpr ⟨sn_iconst dX12_expression_218 rfl ⟨by decide, by decide⟩, ?_⟩
  refine List.forall_mem_cons.mpr ⟨sn_callV mCl_12 mt_144 rfl kt_1359 kt_1361 kp_53 dX12_expression_219 rfl, ?_⟩
  refine List.forall_mem_cons.mpr ⟨sn_aload_n dX12_expression_222 rfl rfl, ?_⟩
  refine List.forall_mem_cons.mpr ⟨sn_dup dX12_expression_223 rfl, ?_⟩
  refine List.forall_mem_cons.mpr ⟨sn_geti mCl_12 (by decide) rfl kt_1069 dX12_expression_224 rfl, ?_⟩
  refine List.forall_mem_cons.mpr ⟨sn_iconst dX12_expression_227 rfl ⟨by decide, by decide⟩, ?_⟩
  refine List.forall_mem_cons.mpr ⟨sn_isub dX12_expression_228 rfl, ?_⟩
  refine List.forall_mem_cons.mpr ⟨sn_puti mCl_12 (by decide) rfl (Or.inl rfl) kt_1069 dX12_expression_229 rfl, ?_⟩
  refine List.forall_mem_cons.mpr ⟨sn_aload_n dX12_expression_232 rfl rfl, ?_⟩
  refine List.forall_mem_cons.mpr ⟨sn_dup dX12_expression_233 rfl, ?_⟩
  refine List.forall_mem_cons.mpr ⟨sn_geti mCl_12 (by decide) rfl kt_1048 dX12_expression_234 rfl, ?_⟩
  refine List.forall_mem_cons.mpr ⟨sn_iconst dX12_expression_237 rfl ⟨by decide, by decide⟩, ?_⟩
  refine List.forall_mem_cons.mpr ⟨sn_isub dX12_expression_238 rfl, ?_⟩
  refine List.forall_mem_cons.mpr ⟨sn_puti mCl_12 (by decide) rfl (Or.inl rfl) kt_1048 dX12_expression_239 rfl, ?_⟩
  refine List.forall_mem_cons.mpr ⟨sn_aload_n dX12_expression_242 rfl rfl, ?_⟩
  refine List.forall_mem_cons.mpr ⟨sn_callV mCl_12 mt_137 rfl kt_1335 kt_1337 kp_47 dX12_expression_243 rfl, ?_⟩
  refine List.forall_mem_cons.mpr ⟨sn_goto dX12_expression_246 (by decide), ?_⟩
  refine List.forall_mem_cons.mpr ⟨sn_aload_n dX12_expression_249 rfl rfl, ?_⟩
  refine List.forall_mem_cons.mpr ⟨sn_bipush dX12_expression_250 rfl (by decide) ⟨by decide, by decide⟩, ?_⟩
  refine List.forall_mem_cons.mpr ⟨sn_callV mCl_12 mt_134 rfl kt_1323 kt_1325 kp_44 dX12_expression_252 rfl, ?_⟩
  refine List.forall_mem_cons.mpr ⟨sn_ifne dX12_expression_255 (by decide) rfl, ?_⟩
  refine List.forall_mem_cons.mpr ⟨sn_aload_n dX12_expression_258 rfl rfl, ?_⟩
  refine List.forall_mem_cons.mpr ⟨sn_bipush dX12_expression_259 rfl (by decide) ⟨by decide, by decide⟩, ?_⟩
  refine List.forall_mem_cons.mpr ⟨sn_callV mCl_12 mt_134 rfl kt_1323 kt_1325 kp_44 dX12_expression_261 rfl, ?_⟩
  refine List.forall_mem_cons.mpr ⟨sn_ifne dX12_expression_264 (by decide) rfl, ?_⟩
  refine List.forall_mem_cons.mpr ⟨sn_aload_n dX12_expression_267 rfl rfl, ?_⟩
  refine List.forall_mem_cons.mpr ⟨sn_bipush dX12_expression_268 rfl (by decide) ⟨by decide, by decide⟩, ?_⟩
  refine List.forall_mem_cons.mpr ⟨sn_callV mCl_12 mt_134 rfl kt_1323 kt_1325 kp_44 dX12_expression_270 rfl, ?_⟩
  refine List.forall_mem_cons.mpr ⟨sn_ifeq dX12_expression_273 (by decide) rfl, ?_⟩
  refine List.forall_mem_cons.mpr ⟨sn_iconst dX12_expression_276 rfl ⟨by decide, by decide⟩, ?_⟩
  refine List.forall_mem_cons.mpr ⟨sn_goto dX12_expression_277 (by decide), ?_⟩
  refine List.forall_mem_cons.mpr ⟨sn_iconst dX12_expression_280 rfl ⟨by decide, by decide⟩, ?_⟩
  refine List.forall_mem_cons.mpr ⟨sn_istore_n dX12_expression_281 rfl rfl, ?_⟩
  refine List.forall_mem_cons.mpr ⟨sn_iload_n dX12_expression_282 rfl rfl, ?_⟩
  refine List.forall_mem_cons.mpr ⟨sn_ifne dX12_expression_283 (by decide) rfl, ?_⟩
  refine List.forall_mem_cons.mpr ⟨sn_aload_n dX12_expression_286 rfl rfl, ?_⟩
  refine List.forall_mem_cons.mpr ⟨sn_geti mCl_12 (by decide) rfl kt_1048 dX12_expression_287 rfl, ?_⟩
  refine List.forall_mem_cons.mpr ⟨sn_iload_n dX12_expression_290 rfl rfl, ?_⟩
  refine List.forall_mem_cons.mpr ⟨sn_icmple dX12_expression_291 (by decide) rfl, ?_⟩
  refine List.forall_mem_cons.mpr ⟨sn_aload_n dX12_expression_294 rfl rfl, ?_⟩
  refine List.forall_mem_cons.mpr ⟨sn_iconst dX12_expression_295 rfl ⟨by decide, by decide⟩, ?_⟩
  refine List.forall_mem_cons.mpr ⟨sn_callV mCl_12 mt_135 rfl kt_1331 kt_1333 kp_46 dX12_expression_296 rfl, ?_⟩
  refine List.forall_mem_cons.mpr ⟨sn_aload_n dX12_expression_299 rfl rfl, ?_⟩
  refine List.forall_mem_cons.mpr ⟨sn_iconst dX12_expression_300 rfl ⟨by decide, by decide⟩, ?_⟩
  refine List.forall_mem_cons.mpr ⟨sn_callV mCl_12 mt_144 rfl kt_1359 kt_1361 kp_53 dX12_expression_301 rfl, ?_⟩
  refine List.forall_mem_cons.mpr ⟨sn_vret rfl dX12_expression_304, ?_⟩
  refine List.forall_mem_cons.mpr ⟨sn_aload_n dX12_expression_305 rfl rfl, ?_⟩
  refine List.forall_mem_cons.mpr ⟨sn_getr mCl_12 (by decide) rfl kt_1041 dX12_expression_306 rfl, ?_⟩
  refine List.forall_mem_cons.mpr ⟨sn_aload_n dX12_expression_309 rfl rfl, ?_⟩
  refine List.forall_mem_cons.mpr ⟨sn_geti mCl_12 (by decide) rfl kt_1047 dX12_expression_310 rfl, ?_⟩
  refine List.forall_mem_cons.mpr ⟨sn_iald dX12_expression_313 rfl, ?_⟩
  refine List.forall_mem_cons.mpr ⟨sn_istore dX12_expression_314 rfl, ?_⟩
  refine List.forall_mem_cons.mpr ⟨sn_aload_n dX12_expression_316 rfl rfl, ?_⟩
  refine List.forall_mem_cons.mpr ⟨sn_iload dX12_expression_317 rfl, ?_⟩
  refine List.forall_mem_cons.mpr ⟨sn_bipush dX12_expression_319 rfl (by decide) ⟨by decide, by decide⟩, ?_⟩
  refine List.forall_mem_cons.mpr ⟨sn_icmpne dX12_expression_321 (by decide) rfl, ?_⟩
  refine List.forall_mem_cons.mpr ⟨sn_iconst dX12_expression_324 rfl ⟨by decide, by decide⟩, ?_⟩
  refine List.forall_mem_cons.mpr ⟨sn_goto dX12_expression_325 (by decide), ?_⟩
  refine List.forall_mem_cons.mpr ⟨sn_iconst dX12_expression_328 rfl ⟨by decide, by decide⟩, ?_⟩
  refine List.forall_mem_cons.mpr ⟨sn_callV mCl_12 mt_144 rfl kt_1359 kt_1361 kp_53 dX12_expression_329 rfl, ?_⟩
  refine List.forall_mem_cons.mpr ⟨sn_aload_n dX12_expression_332 rfl rfl, ?_⟩
  refine List.forall_mem_cons.mpr ⟨sn_getr mCl_12 (by decide) rfl kt_1068 dX12_expression_333 rfl, ?_⟩
  refine List.forall_mem_cons.mpr ⟨sn_aload_n dX12_expression_336 rfl rfl, ?_⟩
  refine List.forall_mem_cons.mpr ⟨sn_geti mCl_12 (by decide) rfl kt_1069 dX12_expression_337 rfl, ?_⟩
  refine List.forall_mem_cons.mpr ⟨sn_iload dX12_expression_340 rfl, ?_⟩
  refine List.forall_mem_cons.mpr ⟨sn_iast dX12_expression_342 rfl, ?_⟩
  refine List.forall_mem_cons.mpr ⟨sn_aload_n dX12_expression_343 rfl rfl, ?_⟩
  refine List.forall_mem_cons.mpr ⟨sn_dup dX12_expression_344 rfl, ?_⟩
  refine List.forall_mem_cons.mpr ⟨sn_geti mCl_12 (by decide) rfl kt_1069 dX12_expression_345 rfl, ?_⟩
  refine List.forall_mem_cons.mpr ⟨sn_iconst dX12_expression_348 rfl ⟨by decide, by decide⟩, ?_⟩
  refine List.forall_mem_cons.mpr ⟨sn_iadd dX12_expression_349 rfl, ?_⟩
  refine List.forall_mem_cons.mpr ⟨sn_puti mCl_12 (by decide) rfl (Or.inl rfl) kt_1069 dX12_expression_350 rfl, ?_⟩
  refine List.forall_mem_cons.mpr ⟨sn_aload_n dX12_expression_353 rfl rfl, ?_⟩
  refine List.forall_mem_cons.mpr ⟨sn_callV mCl_12 mt_137 rfl kt_1335 kt_1337 kp_47 dX12_expression_354 rfl, ?_⟩
  refine List.forall_mem_cons.mpr ⟨sn_goto dX12_expression_357 (by decide), ?_⟩
  refine List.forall_mem_cons.mpr ⟨sn_vret rfl dX12_expression_360, ?_⟩
  exact List.forall_mem_nil _
theorem sX12_isChannel : ∀ q ∈ tX12_isChannel, mSnd mInf iX12_isChannel q.1 q.2 := by
  unfold tX12_isChannel
  refine List.forall_mem_cons.mpr ⟨sn_iload_n dX12_isChannel_0 rfl rfl, ?_⟩
  refine List.forall_mem_cons.mpr ⟨sn_iflt dX12_isChannel_1 (by decide) rfl, ?_⟩
  refine List.forall_mem_cons.mpr ⟨sn_iload_n dX12_isChannel_4 rfl rfl, ?_⟩
  refine List.forall_mem_cons.mpr ⟨sn_aload_n dX12_isChannel_5 rfl rfl, ?_⟩
  refine List.forall_mem_cons.mpr ⟨sn_geti mCl_12 (by decide) rfl kt_1070 dX12_isChannel_6 rfl, ?_⟩
  refine List.forall_mem_cons.mpr ⟨sn_icmpge dX12_isChannel_9 (by decide) rfl, ?_⟩
  refine List.forall_mem_cons.mpr ⟨sn_iconst dX12_isChannel_12 rfl ⟨by decide, by decide⟩, ?_⟩
  refine List.forall_mem_cons.mpr ⟨sn_goto dX12_isChannel_13 (by decide), ?_⟩
  refine List.forall_mem_cons.mpr ⟨sn_iconst dX12_isChannel_16 rfl ⟨by decide, by decide⟩, ?_⟩
  refine List.forall_mem_cons.mpr ⟨sn_zret rfl dX12_isChannel_17, ?_⟩
  exact List.forall_mem_nil _
theorem sX12_isSlot : ∀ q ∈ tX12_isSlot, mSnd mInf iX12_isSlot q.1 q.2 := by
  unfold tX12_isSlot
  refine List.forall_mem_cons.mpr ⟨sn_iload_n dX12_isSlot_0 rfl rfl, ?_⟩
  refine List.forall_mem_cons.mpr ⟨sn_iflt dX12_isSlot_1 (by decide) rfl, ?_⟩
  refine List.forall_mem_cons.mpr ⟨sn_iload_n dX12_isSlot_4 rfl rfl, ?_⟩
  refine List.forall_mem_cons.mpr ⟨sn_sipush dX12_isSlot_5 rfl (by decide) ⟨by decide, by decide⟩, ?_⟩
  refine List.forall_mem_cons.mpr ⟨sn_icmpge dX12_isSlot_8 (by decide) rfl, ?_⟩
  refine List.forall_mem_cons.mpr ⟨sn_iconst dX12_isSlot_11 rfl ⟨by decide, by decide⟩, ?_⟩
  refine List.forall_mem_cons.mpr ⟨sn_goto dX12_isSlot_12 (by decide), ?_⟩
  refine List.forall_mem_cons.mpr ⟨sn_iconst dX12_isSlot_15 rfl ⟨by decide, by decide⟩, ?_⟩
  refine List.forall_mem_cons.mpr ⟨sn_zret rfl dX12_isSlot_16, ?_⟩
  exact List.forall_mem_nil _
theorem sX12_isKnown : ∀ q ∈ tX12_isKnown, mSnd mInf iX12_isKnown q.1 q.2 := by
  unfold tX12_isKnown
  refine List.forall_mem_cons.mpr ⟨sn_iload_n dX12_isKnown_0 rfl rfl, ?_⟩
  refine List.forall_mem_cons.mpr ⟨sn_iflt dX12_isKnown_1 (by decide) rfl, ?_⟩
  refine List.forall_mem_cons.mpr ⟨sn_iload_n dX12_isKnown_4 rfl rfl, ?_⟩
  refine List.forall_mem_cons.mpr ⟨sn_aload_n dX12_isKnown_5 rfl rfl, ?_⟩
  refine List.forall_mem_cons.mpr ⟨sn_geti mCl_12 (by decide) rfl kt_1073 dX12_isKnown_6 rfl, ?_⟩
  refine List.forall_mem_cons.mpr ⟨sn_icmpgt dX12_isKnown_9 (by decide) rfl, ?_⟩
  refine List.forall_mem_cons.mpr ⟨sn_iconst dX12_isKnown_12 rfl ⟨by decide, by decide⟩, ?_⟩
  refine List.forall_mem_cons.mpr ⟨sn_goto dX12_isKnown_13 (by decide), ?_⟩
  refine List.forall_mem_cons.mpr ⟨sn_iconst dX12_isKnown_16 rfl ⟨by decide, by decide⟩, ?_⟩
  refine List.forall_mem_cons.mpr ⟨sn_zret rfl dX12_isKnown_17, ?_⟩
  exact List.forall_mem_nil _
theorem sX12_channels : ∀ q ∈ tX12_channels, mSnd mInf iX12_channels q.1 q.2 := by
  unfold tX12_channels
  refine List.forall_mem_cons.mpr ⟨sn_iload_n dX12_channels_0 rfl rfl, ?_⟩
  refine List.forall_mem_cons.mpr ⟨sn_iconst dX12_channels_1 rfl ⟨by decide, by decide⟩, ?_⟩
  refine List.forall_mem_cons.mpr ⟨sn_icmplt dX12_channels_2 (by decide) rfl, ?_⟩
  refine List.forall_mem_cons.mpr ⟨sn_iload_n dX12_channels_5 rfl rfl, ?_⟩
  refine List.forall_mem_cons.mpr ⟨sn_bipush dX12_channels_6 rfl (by decide) ⟨by decide, by decide⟩, ?_⟩
  refine List.forall_mem_cons.mpr ⟨sn_icmpgt dX12_channels_8 (by decide) rfl, ?_⟩
  refine List.forall_mem_cons.mpr ⟨sn_aload_n dX12_channels_11 rfl rfl, ?_⟩
  refine List.forall_mem_cons.mpr ⟨sn_geti mCl_12 (by decide) rfl kt_1073 dX12_channels_12 rfl, ?_⟩
  refine List.forall_mem_cons.mpr ⟨sn_ifle dX12_channels_15 (by decide) rfl, ?_⟩
  refine List.forall_mem_cons.mpr ⟨sn_iconst dX12_channels_18 rfl ⟨by decide, by decide⟩, ?_⟩
  refine List.forall_mem_cons.mpr ⟨sn_zret rfl dX12_channels_19, ?_⟩
  refine List.forall_mem_cons.mpr ⟨sn_aload_n dX12_channels_20 rfl rfl, ?_⟩
  refine List.forall_mem_cons.mpr ⟨sn_iload_n dX12_channels_21 rfl rfl, ?_⟩
  refine List.forall_mem_cons.mpr ⟨sn_puti mCl_12 (by decide) rfl (Or.inl rfl) kt_1070 dX12_channels_22 rfl, ?_⟩
  refine List.forall_mem_cons.mpr ⟨sn_aload_n dX12_channels_25 rfl rfl, ?_⟩
  refine List.forall_mem_cons.mpr ⟨sn_iconst dX12_channels_26 rfl ⟨by decide, by decide⟩, ?_⟩
  refine List.forall_mem_cons.mpr ⟨sn_puti mCl_12 (by decide) rfl (Or.inl rfl) kt_1087 dX12_channels_27 rfl, ?_⟩
  refine List.forall_mem_cons.mpr ⟨sn_iconst dX12_channels_30 rfl ⟨by decide, by decide⟩, ?_⟩
  refine List.forall_mem_cons.mpr ⟨sn_zret rfl dX12_channels_31, ?_⟩
  exact List.forall_mem_nil _
theorem sX12_source : ∀ q ∈ tX12_source, mSnd mInf iX12_source q.1 q.2 := by
  unfold tX12_source
  refine List.forall_mem_cons.mpr ⟨sn_aload_n dX12_source_0 rfl rfl, ?_⟩
  refine List.forall_mem_cons.mpr ⟨sn_geti mCl_12 (by decide) rfl kt_1071 dX12_source_1 rfl, ?_⟩
  refine List.forall_mem_cons.mpr ⟨sn_bipush dX12_source_4 rfl (by decide) ⟨by decide, by decide⟩, ?_⟩
  refine List.forall_mem_cons.mpr ⟨sn_icmpeq dX12_source_6 (by decide) rfl, ?_⟩
  refine List.forall_mem_cons.mpr ⟨sn_iload_n dX12_source_9 rfl rfl, ?_⟩
  refine List.forall_mem_cons.mpr ⟨sn_iconst dX12_source_10 rfl ⟨by decide, by decide⟩, ?_⟩
  refine List.forall_mem_cons.mpr ⟨sn_icmplt dX12_source_11 (by decide) rfl, ?_⟩
  refine List.forall_mem_cons.mpr ⟨sn_iload_n dX12_source_14 rfl rfl, ?_⟩
  refine List.forall_mem_cons.mpr ⟨sn_bipush dX12_source_15 rfl (by decide) ⟨by decide, by decide⟩, ?_⟩
  refine List.forall_mem_cons.mpr ⟨sn_icmple dX12_source_17 (by decide) rfl, ?_⟩
  refine List.forall_mem_cons.mpr ⟨sn_iconst dX12_source_20 rfl ⟨by decide, by decide⟩, ?_⟩
  refine List.forall_mem_cons.mpr ⟨sn_iret rfl dX12_source_21, ?_⟩
  refine List.forall_mem_cons.mpr ⟨sn_aload_n dX12_source_22 rfl rfl, ?_⟩
  refine List.forall_mem_cons.mpr ⟨sn_getr mCl_12 (by decide) rfl kt_1072 dX12_source_23 rfl, ?_⟩
  refine List.forall_mem_cons.mpr ⟨sn_aload_n dX12_source_26 rfl rfl, ?_⟩
  refine List.forall_mem_cons.mpr ⟨sn_geti mCl_12 (by decide) rfl kt_1071 dX12_source_27 rfl, ?_⟩
  refine List.forall_mem_cons.mpr ⟨sn_iload_n dX12_source_30 rfl rfl, ?_⟩
  refine List.forall_mem_cons.mpr ⟨sn_iast dX12_source_31 rfl, ?_⟩
  refine List.forall_mem_cons.mpr ⟨sn_aload_n dX12_source_32 rfl rfl, ?_⟩
  refine List.forall_mem_cons.mpr ⟨sn_dup dX12_source_33 rfl, ?_⟩
  refine List.forall_mem_cons.mpr ⟨sn_geti mCl_12 (by decide) rfl kt_1071 dX12_source_34 rfl, ?_⟩
  refine List.forall_mem_cons.mpr ⟨sn_iconst dX12_source_37 rfl ⟨by decide, by decide⟩, ?_⟩
  refine List.forall_mem_cons.mpr ⟨sn_iadd dX12_source_38 rfl, ?_⟩
  refine List.forall_mem_cons.mpr ⟨sn_puti mCl_12 (by decide) rfl (Or.inl rfl) kt_1071 dX12_source_39 rfl, ?_⟩
  refine List.forall_mem_cons.mpr ⟨sn_aload_n dX12_source_42 rfl rfl, ?_⟩
  refine List.forall_mem_cons.mpr ⟨sn_geti mCl_12 (by decide) rfl kt_1071 dX12_source_43 rfl, ?_⟩
  refine List.forall_mem_cons.mpr ⟨sn_iconst dX12_source_46 rfl ⟨by decide, by decide⟩, ?_⟩
  refine List.forall_mem_cons.mpr ⟨sn_isub dX12_source_47 rfl, ?_⟩
  refine List.forall_mem_cons.mpr ⟨sn_iret rfl dX12_source_48, ?_⟩
  exact List.forall_mem_nil _
theorem sX12_notice : ∀ q ∈ tX12_notice, mSnd mInf iX12_notice q.1 q.2 := by
  unfold tX12_notice
  refine List.forall_mem_cons.mpr ⟨sn_aload_n dX12_notice_0 rfl rfl, ?_⟩
  refine List.forall_mem_cons.mpr ⟨sn_geti mCl_12 (by decide) rfl kt_1073 dX12_notice_1 rfl, ?_⟩
  refine List.forall_mem_cons.mpr ⟨sn_sipush dX12_notice_4 rfl (by decide) ⟨by decide, by decide⟩, ?_⟩
  refine List.forall_mem_cons.mpr ⟨sn_icmpeq dX12_notice_7 (by decide) rfl, ?_⟩
  refine List.forall_mem_cons.mpr ⟨sn_iload_n dX12_notice_10 rfl rfl, ?_⟩
  refine List.forall_mem_cons.mpr ⟨sn_iflt dX12_notice_11 (by decide) rfl, ?_⟩
  refine List.forall_mem_cons.mpr ⟨sn_iload_n dX12_notice_14 rfl rfl, ?_⟩
  refine List.forall_mem_cons.mpr ⟨sn_aload_n dX12_notice_15 rfl rfl, ?_⟩
  refine List.forall_mem_cons.mpr ⟨sn_geti mCl_12 (by decide) rfl kt_1071 dX12_notice_16 rfl, ?_⟩
  refine List.forall_mem_cons.mpr ⟨sn_icmpge dX12_notice_19 (by decide) rfl, ?_⟩
  refine List.forall_mem_cons.mpr ⟨sn_aload_n dX12_notice_22 rfl rfl, ?_⟩
  refine List.forall_mem_cons.mpr ⟨sn_iload_n dX12_notice_23 rfl rfl, ?_⟩
  refine List.forall_mem_cons.mpr ⟨sn_callV mCl_12 mt_146 rfl kt_1379 kt_1381 kp_54 dX12_notice_24 rfl, ?_⟩
  refine List.forall_mem_cons.mpr ⟨sn_ifeq dX12_notice_27 (by decide) rfl, ?_⟩
  refine List.forall_mem_cons.mpr ⟨sn_iload_n dX12_notice_30 rfl rfl, ?_⟩
  refine List.forall_mem_cons.mpr ⟨sn_iflt dX12_notice_31 (by decide) rfl, ?_⟩
  refine List.forall_mem_cons.mpr ⟨sn_iload_n dX12_notice_34 rfl rfl, ?_⟩
  refine List.forall_mem_cons.mpr ⟨sn_iload dX12_notice_35 rfl, ?_⟩
  refine List.forall_mem_cons.mpr ⟨sn_icmpge dX12_notice_37 (by decide) rfl, ?_⟩
  refine List.forall_mem_cons.mpr ⟨sn_iload dX12_notice_40 rfl, ?_⟩
  refine List.forall_mem_cons.mpr ⟨sn_sipush dX12_notice_42 rfl (by decide) ⟨by decide, by decide⟩, ?_⟩
  refine List.forall_mem_cons.mpr ⟨sn_icmpgt dX12_notice_45 (by decide) rfl, ?_⟩
  refine List.forall_mem_cons.mpr ⟨sn_iload dX12_notice_48 rfl, ?_⟩
  refine List.forall_mem_cons.mpr ⟨sn_iflt dX12_notice_50 (by decide) rfl, ?_⟩
  refine List.forall_mem_cons.mpr ⟨sn_iload dX12_notice_53 rfl, ?_⟩
  refine List.forall_mem_cons.mpr ⟨sn_bipush dX12_notice_55 rfl (by decide) ⟨by decide, by decide⟩, ?_⟩
  refine List.forall_mem_cons.mpr ⟨sn_icmpgt dX12_notice_57 (by decide) rfl, ?_⟩
  refine List.forall_mem_cons.mpr ⟨sn_iload dX12_notice_60 rfl, ?_⟩
  refine List.forall_mem_cons.mpr ⟨sn_iflt dX12_notice_62 (by decide) rfl, ?_⟩
  refine List.forall_mem_cons.mpr ⟨sn_iload dX12_notice_65 rfl, ?_⟩
  refine List.forall_mem_cons.mpr ⟨sn_bipush dX12_notice_67 rfl (by decide) ⟨by decide, by decide⟩, ?_⟩
  refine List.forall_mem_cons.mpr ⟨sn_icmple dX12_notice_69 (by decide) rfl, ?_⟩
  refine List.forall_mem_cons.mpr ⟨sn_iconst dX12_notice_72 rfl ⟨by decide, by decide⟩, ?_⟩
  refine List.forall_mem_cons.mpr ⟨sn_iret rfl dX12_notice_73, ?_⟩
  refine List.forall_mem_cons.mpr ⟨sn_aload_n dX12_notice_74 rfl rfl, ?_⟩
  refine List.forall_mem_cons.mpr ⟨sn_getr mCl_12 (by decide) rfl kt_1074 dX12_notice_75 rfl, ?_⟩
  refine List.forall_mem_cons.mpr ⟨sn_aload_n dX12_notice_78 rfl rfl, ?_⟩
  refine List.forall_mem_cons.mpr ⟨sn_geti mCl_12 (by decide) rfl kt_1073 dX12_notice_79 rfl, ?_⟩
  refine List.forall_mem_cons.mpr ⟨sn_iconst dX12_notice_82 rfl ⟨by decide, by decide⟩, ?_⟩
  refine List.forall_mem_cons.mpr ⟨sn_zast dX12_notice_83 rfl, ?_⟩
  refine List.forall_mem_cons.mpr ⟨sn_aload_n dX12_notice_84 rfl rfl, ?_⟩
  refine List.forall_mem_cons.mpr ⟨sn_getr mCl_12 (by decide) rfl kt_1075 dX12_notice_85 rfl, ?_⟩
  refine List.forall_mem_cons.mpr ⟨sn_aload_n dX12_notice_88 rfl rfl, ?_⟩
  refine List.forall_mem_cons.mpr ⟨sn_geti mCl_12 (by decide) rfl kt_1073 dX12_notice_89 rfl, ?_⟩
  refine List.forall_mem_cons.mpr ⟨sn_iload_n dX12_notice_92 rfl rfl, ?_⟩
  refine List.forall_mem_cons.mpr ⟨sn_iast dX12_notice_93 rfl, ?_⟩
  refine List.forall_mem_cons.mpr ⟨sn_aload_n dX12_notice_94 rfl rfl, ?_⟩
  refine List.forall_mem_cons.mpr ⟨sn_getr mCl_12 (by decide) rfl kt_1076 dX12_notice_95 rfl, ?_⟩
  refine List.forall_mem_cons.mpr ⟨sn_aload_n dX12_notice_98 rfl rfl, ?_⟩
  refine List.forall_mem_cons.mpr ⟨sn_geti mCl_12 (by decide) rfl kt_1073 dX12_notice_99 rfl, ?_⟩
  refine List.forall_mem_cons.mpr ⟨sn_iload_n dX12_notice_102 rfl rfl, ?_⟩
  refine List.forall_mem_cons.mpr ⟨sn_iast dX12_notice_103 rfl, ?_⟩
  refine List.forall_mem_cons.mpr ⟨sn_aload_n dX12_notice_104 rfl rfl, ?_⟩
  refine List.forall_mem_cons.mpr ⟨sn_getr mCl_12 (by decide) rfl kt_1077 dX12_notice_105 rfl, ?_⟩
  refine List.forall_mem_cons.mpr ⟨sn_aload_n dX12_notice_108 rfl rfl, ?_⟩
  refine List.forall_mem_cons.mpr ⟨sn_geti mCl_12 (by decide) rfl kt_1073 dX12_notice_109 rfl, ?_⟩
  refine List.forall_mem_cons.mpr ⟨sn_iload_n dX12_notice_112 rfl rfl, ?_⟩
  refine List.forall_mem_cons.mpr ⟨sn_iast dX12_notice_113 rfl, ?_⟩
  refine List.forall_mem_cons.mpr ⟨sn_aload_n dX12_notice_114 rfl rfl, ?_⟩
  refine List.forall_mem_cons.mpr ⟨sn_getr mCl_12 (by decide) rfl kt_1078 dX12_notice_115 rfl, ?_⟩
  refine List.forall_mem_cons.mpr ⟨sn_aload_n dX12_notice_118 rfl rfl, ?_⟩
  refine List.forall_mem_cons.mpr ⟨sn_geti mCl_12 (by decide) rfl kt_1073 dX12_notice_119 rfl, ?_⟩
  refine List.forall_mem_cons.mpr ⟨sn_iload dX12_notice_122 rfl, ?_⟩
  refine List.forall_mem_cons.mpr ⟨sn_iast dX12_notice_124 rfl, ?_⟩
  refine List.forall_mem_cons.mpr ⟨sn_aload_n dX12_notice_125 rfl rfl, ?_⟩
  refine List.forall_mem_cons.mpr ⟨sn_getr mCl_12 (by decide) rfl kt_1079 dX12_notice_126 rfl, ?_⟩
  refine List.forall_mem_cons.mpr ⟨sn_aload_n dX12_notice_129 rfl rfl, ?_⟩
  refine List.forall_mem_cons.mpr ⟨sn_geti mCl_12 (by decide) rfl kt_1073 dX12_notice_130 rfl, ?_⟩
  refine List.forall_mem_cons.mpr ⟨sn_iload dX12_notice_133 rfl, ?_⟩
  refine List.forall_mem_cons.mpr ⟨sn_iast dX12_notice_135 rfl, ?_⟩
  refine List.forall_mem_cons.mpr ⟨sn_aload_n dX12_notice_136 rfl rfl, ?_⟩
  refine List.forall_mem_cons.mpr ⟨sn_getr mCl_12 (by decide) rfl kt_1080 dX12_notice_137 rfl, ?_⟩
  refine List.forall_mem_cons.mpr ⟨sn_aload_n dX12_notice_140 rfl rfl, ?_⟩
  refine List.forall_mem_cons.mpr ⟨sn_geti mCl_12 (by decide) rfl kt_1073 dX12_notice_141 rfl, ?_⟩
  refine List.forall_mem_cons.mpr ⟨sn_iload dX12_notice_144 rfl, ?_⟩
  refine List.forall_mem_cons.mpr ⟨sn_iast dX12_notice_146 rfl, ?_⟩
  refine List.forall_mem_cons.mpr ⟨sn_aload_n dX12_notice_147 rfl rfl, ?_⟩
  refine List.forall_mem_cons.mpr ⟨sn_getr mCl_12 (by decide) rfl kt_1081 dX12_notice_148 rfl, ?_⟩
  refine List.forall_mem_cons.mpr ⟨sn_aload_n dX12_notice_151 rfl rfl, ?_⟩
  refine List.forall_mem_cons.mpr ⟨sn_geti mCl_12 (by decide) rfl kt_1073 dX12_notice_152 rfl, ?_⟩
  refine List.forall_mem_cons.mpr ⟨sn_iload dX12_notice_155 rfl, ?_⟩
  refine List.forall_mem_cons.mpr ⟨sn_zast dX12_notice_157 rfl, ?_⟩
  refine List.forall_mem_cons.mpr ⟨sn_aload_n dX12_notice_158 rfl rfl, ?_⟩
  refine List.forall_mem_cons.mpr ⟨sn_dup dX12_notice_159 rfl, ?_⟩
  refine List.forall_mem_cons.mpr ⟨sn_geti mCl_12 (by decide) rfl kt_1073 dX12_notice_160 rfl, ?_⟩
  refine List.forall_mem_cons.mpr ⟨sn_iconst dX12_notice_163 rfl ⟨by decide, by decide⟩, ?_⟩
  refine List.forall_mem_cons.mpr ⟨sn_iadd dX12_notice_164 rfl, ?_⟩
  refine List.forall_mem_cons.mpr ⟨sn_puti mCl_12 (by decide) rfl (Or.inl rfl) kt_1073 dX12_notice_165 rfl, ?_⟩
  refine List.forall_mem_cons.mpr ⟨sn_aload_n dX12_notice_168 rfl rfl, ?_⟩
  refine List.forall_mem_cons.mpr ⟨sn_geti mCl_12 (by decide) rfl kt_1073 dX12_notice_169 rfl, ?_⟩
  refine List.forall_mem_cons.mpr ⟨sn_iconst dX12_notice_172 rfl ⟨by decide, by decide⟩, ?_⟩
  refine List.forall_mem_cons.mpr ⟨sn_isub dX12_notice_173 rfl, ?_⟩
  refine List.forall_mem_cons.mpr ⟨sn_iret rfl dX12_notice_174, ?_⟩
  exact List.forall_mem_nil _
