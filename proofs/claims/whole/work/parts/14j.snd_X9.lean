theorem sX9_init : ∀ q ∈ tX9_init, mSnd mInf iX9_init q.1 q.2 := by
  unfold tX9_init
  refine List.forall_mem_cons.mpr ⟨sn_aload_n dX9_init_0 rfl rfl, ?_⟩
  refine List.forall_mem_cons.mpr ⟨sn_objinit kt_136 kt_28 kt_29 dX9_init_1 rfl, ?_⟩
  refine List.forall_mem_cons.mpr ⟨sn_aload_n dX9_init_4 rfl rfl, ?_⟩
  refine List.forall_mem_cons.mpr ⟨sn_iconst dX9_init_5 rfl ⟨by decide, by decide⟩, ?_⟩
  refine List.forall_mem_cons.mpr ⟨sn_puti mCl_9 (by decide) rfl (Or.inl rfl) kt_137 dX9_init_6 rfl, ?_⟩
  refine List.forall_mem_cons.mpr ⟨sn_aload_n dX9_init_9 rfl rfl, ?_⟩
  refine List.forall_mem_cons.mpr ⟨sn_iconst dX9_init_10 rfl ⟨by decide, by decide⟩, ?_⟩
  refine List.forall_mem_cons.mpr ⟨sn_puti mCl_9 (by decide) rfl (Or.inl rfl) kt_139 dX9_init_11 rfl, ?_⟩
  refine List.forall_mem_cons.mpr ⟨sn_aload_n dX9_init_14 rfl rfl, ?_⟩
  refine List.forall_mem_cons.mpr ⟨sn_iconst dX9_init_15 rfl ⟨by decide, by decide⟩, ?_⟩
  refine List.forall_mem_cons.mpr ⟨sn_puti mCl_9 (by decide) rfl (Or.inl rfl) kt_141 dX9_init_16 rfl, ?_⟩
  refine List.forall_mem_cons.mpr ⟨sn_aload_n dX9_init_19 rfl rfl, ?_⟩
  refine List.forall_mem_cons.mpr ⟨sn_iconst dX9_init_20 rfl ⟨by decide, by decide⟩, ?_⟩
  refine List.forall_mem_cons.mpr ⟨sn_puti mCl_9 (by decide) rfl (Or.inl rfl) kt_142 dX9_init_21 rfl, ?_⟩
  refine List.forall_mem_cons.mpr ⟨sn_aload_n dX9_init_24 rfl rfl, ?_⟩
  refine List.forall_mem_cons.mpr ⟨sn_iconst dX9_init_25 rfl ⟨by decide, by decide⟩, ?_⟩
  refine List.forall_mem_cons.mpr ⟨sn_puti mCl_9 (by decide) rfl (Or.inl rfl) kt_143 dX9_init_26 rfl, ?_⟩
  refine List.forall_mem_cons.mpr ⟨sn_aload_n dX9_init_29 rfl rfl, ?_⟩
  refine List.forall_mem_cons.mpr ⟨sn_iconst dX9_init_30 rfl ⟨by decide, by decide⟩, ?_⟩
  refine List.forall_mem_cons.mpr ⟨sn_puti mCl_9 (by decide) rfl (Or.inl rfl) kt_144 dX9_init_31 rfl, ?_⟩
  refine List.forall_mem_cons.mpr ⟨sn_aload_n dX9_init_34 rfl rfl, ?_⟩
  refine List.forall_mem_cons.mpr ⟨sn_iconst dX9_init_35 rfl ⟨by decide, by decide⟩, ?_⟩
  refine List.forall_mem_cons.mpr ⟨sn_putz mCl_9 (by decide) rfl (Or.inl rfl) kt_145 dX9_init_36 rfl, ?_⟩
  refine List.forall_mem_cons.mpr ⟨sn_aload_n dX9_init_39 rfl rfl, ?_⟩
  refine List.forall_mem_cons.mpr ⟨sn_iconst dX9_init_40 rfl ⟨by decide, by decide⟩, ?_⟩
  refine List.forall_mem_cons.mpr ⟨sn_puti mCl_9 (by decide) rfl (Or.inl rfl) kt_146 dX9_init_41 rfl, ?_⟩
  refine List.forall_mem_cons.mpr ⟨sn_aload_n dX9_init_44 rfl rfl, ?_⟩
  refine List.forall_mem_cons.mpr ⟨sn_iconst dX9_init_45 rfl ⟨by decide, by decide⟩, ?_⟩
  refine List.forall_mem_cons.mpr ⟨sn_puti mCl_9 (by decide) rfl (Or.inl rfl) kt_147 dX9_init_46 rfl, ?_⟩
  refine List.forall_mem_cons.mpr ⟨sn_aload_n dX9_init_49 rfl rfl, ?_⟩
  refine List.forall_mem_cons.mpr ⟨sn_bipush dX9_init_50 rfl (by decide) ⟨by decide, by decide⟩, ?_⟩
  refine List.forall_mem_cons.mpr ⟨sn_newI kt_99 dX9_init_52 rfl, ?_⟩
  refine List.forall_mem_cons.mpr ⟨sn_putr mCl_9 (by decide) rfl (Or.inr ⟨rfl, rfl, rfl⟩) kt_148 dX9_init_54 rfl, ?_⟩
  refine List.forall_mem_cons.mpr ⟨sn_vret rfl dX9_init_57, ?_⟩
  exact List.forall_mem_nil _
theorem sX9_compile : ∀ q ∈ tX9_compile, mSnd mInf iX9_compile q.1 q.2 := by
  unfold tX9_compile
  refine List.forall_mem_cons.mpr ⟨sn_aload_n dX9_compile_0 rfl rfl, ?_⟩
  refine List.forall_mem_cons.mpr ⟨sn_callV mCl_9 mt_76 rfl kt_332 kt_334 kp_0 dX9_compile_1 rfl, ?_⟩
  refine List.forall_mem_cons.mpr ⟨sn_aload_n dX9_compile_4 rfl rfl, ?_⟩
  refine List.forall_mem_cons.mpr ⟨sn_callV mCl_10 mt_94 rfl kt_336 kt_337 kt_338 dX9_compile_5 rfl, ?_⟩
  refine List.forall_mem_cons.mpr ⟨sn_aload_n dX9_compile_8 rfl rfl, ?_⟩
  refine List.forall_mem_cons.mpr ⟨sn_callV mCl_8 mt_62 rfl kt_340 kt_341 kt_342 dX9_compile_9 rfl, ?_⟩
  refine List.forall_mem_cons.mpr ⟨sn_iconst dX9_compile_12 rfl ⟨by decide, by decide⟩, ?_⟩
  refine List.forall_mem_cons.mpr ⟨sn_istore_n dX9_compile_13 rfl rfl, ?_⟩
  refine List.forall_mem_cons.mpr ⟨sn_iload_n dX9_compile_14 rfl rfl, ?_⟩
  refine List.forall_mem_cons.mpr ⟨sn_sipush dX9_compile_15 rfl (by decide) ⟨by decide, by decide⟩, ?_⟩
  refine List.forall_mem_cons.mpr ⟨sn_icmpge dX9_compile_18 (by decide) rfl, ?_⟩
  refine List.forall_mem_cons.mpr ⟨sn_aload_n dX9_compile_21 rfl rfl, ?_⟩
  refine List.forall_mem_cons.mpr ⟨sn_geti mCl_9 (by decide) rfl kt_137 dX9_compile_22 rfl, ?_⟩
  refine List.forall_mem_cons.mpr ⟨sn_ifne dX9_compile_25 (by decide) rfl, ?_⟩
  refine List.forall_mem_cons.mpr ⟨sn_aload_n dX9_compile_28 rfl rfl, ?_⟩
  refine List.forall_mem_cons.mpr ⟨sn_callV mCl_8 mt_63 rfl kt_344 kt_345 kt_346 dX9_compile_29 rfl, ?_⟩
  refine List.forall_mem_cons.mpr ⟨sn_ifeq dX9_compile_32 (by decide) rfl, ?_⟩
  refine List.forall_mem_cons.mpr ⟨sn_aload_n dX9_compile_35 rfl rfl, ?_⟩
  refine List.forall_mem_cons.mpr ⟨sn_aload_n dX9_compile_36 rfl rfl, ?_⟩
  refine List.forall_mem_cons.mpr ⟨sn_aload_n dX9_compile_37 rfl rfl, ?_⟩
  refine List.forall_mem_cons.mpr ⟨sn_callV mCl_9 mt_78 rfl kt_449 kt_451 kp_7 dX9_compile_38 rfl, ?_⟩
  refine List.forall_mem_cons.mpr ⟨sn_iinc dX9_compile_41 rfl, ?_⟩
  refine List.forall_mem_cons.mpr ⟨sn_goto dX9_compile_44 (by decide), ?_⟩
  refine List.forall_mem_cons.mpr ⟨sn_aload_n dX9_compile_47 rfl rfl, ?_⟩
  refine List.forall_mem_cons.mpr ⟨sn_geti mCl_9 (by decide) rfl kt_137 dX9_compile_48 rfl, ?_⟩
  refine List.forall_mem_cons.mpr ⟨sn_ifne dX9_compile_51 (by decide) rfl, ?_⟩
  refine List.forall_mem_cons.mpr ⟨sn_aload_n dX9_compile_54 rfl rfl, ?_⟩
  refine List.forall_mem_cons.mpr ⟨sn_geti mCl_9 (by decide) rfl kt_142 dX9_compile_55 rfl, ?_⟩
  refine List.forall_mem_cons.mpr ⟨sn_ifeq dX9_compile_58 (by decide) rfl, ?_⟩
  refine List.forall_mem_cons.mpr ⟨sn_aload_n dX9_compile_61 rfl rfl, ?_⟩
  refine List.forall_mem_cons.mpr ⟨sn_iconst dX9_compile_62 rfl ⟨by decide, by decide⟩, ?_⟩
  refine List.forall_mem_cons.mpr ⟨sn_aload_n dX9_compile_63 rfl rfl, ?_⟩
  refine List.forall_mem_cons.mpr ⟨sn_geti mCl_8 (by decide) rfl kt_108 dX9_compile_64 rfl, ?_⟩
  refine List.forall_mem_cons.mpr ⟨sn_callV mCl_9 mt_77 rfl kt_473 kt_475 kp_10 dX9_compile_67 rfl, ?_⟩
  refine List.forall_mem_cons.mpr ⟨sn_aload_n dX9_compile_70 rfl rfl, ?_⟩
  refine List.forall_mem_cons.mpr ⟨sn_geti mCl_9 (by decide) rfl kt_137 dX9_compile_71 rfl, ?_⟩
  refine List.forall_mem_cons.mpr ⟨sn_ifne dX9_compile_74 (by decide) rfl, ?_⟩
  refine List.forall_mem_cons.mpr ⟨sn_aload_n dX9_compile_77 rfl rfl, ?_⟩
  refine List.forall_mem_cons.mpr ⟨sn_geti mCl_9 (by decide) rfl kt_141 dX9_compile_78 rfl, ?_⟩
  refine List.forall_mem_cons.mpr ⟨sn_iconst dX9_compile_81 rfl ⟨by decide, by decide⟩, ?_⟩
  refine List.forall_mem_cons.mpr ⟨sn_icmpeq dX9_compile_82 (by decide) rfl, ?_⟩
  refine List.forall_mem_cons.mpr ⟨sn_aload_n dX9_compile_85 rfl rfl, ?_⟩
  refine List.forall_mem_cons.mpr ⟨sn_iconst dX9_compile_86 rfl ⟨by decide, by decide⟩, ?_⟩
  refine List.forall_mem_cons.mpr ⟨sn_aload_n dX9_compile_87 rfl rfl, ?_⟩
  refine List.forall_mem_cons.mpr ⟨sn_geti mCl_9 (by decide) rfl kt_141 dX9_compile_88 rfl, ?_⟩
  refine List.forall_mem_cons.mpr ⟨sn_callV mCl_9 mt_77 rfl kt_473 kt_475 kp_10 dX9_compile_91 rfl, ?_⟩
  refine List.forall_mem_cons.mpr ⟨sn_vret rfl dX9_compile_94, ?_⟩
  exact List.forall_mem_nil _
theorem sX9_startOver : ∀ q ∈ tX9_startOver, mSnd mInf iX9_startOver q.1 q.2 := by
  unfold tX9_startOver
  refine List.forall_mem_cons.mpr ⟨sn_aload_n dX9_startOver_0 rfl rfl, ?_⟩
  refine List.forall_mem_cons.mpr ⟨sn_iconst dX9_startOver_1 rfl ⟨by decide, by decide⟩, ?_⟩
  refine List.forall_mem_cons.mpr ⟨sn_puti mCl_9 (by decide) rfl (Or.inl rfl) kt_137 dX9_startOver_2 rfl, ?_⟩
  refine List.forall_mem_cons.mpr ⟨sn_aload_n dX9_startOver_5 rfl rfl, ?_⟩
  refine List.forall_mem_cons.mpr ⟨sn_iconst dX9_startOver_6 rfl ⟨by decide, by decide⟩, ?_⟩
  refine List.forall_mem_cons.mpr ⟨sn_puti mCl_9 (by decide) rfl (Or.inl rfl) kt_139 dX9_startOver_7 rfl, ?_⟩
  refine List.forall_mem_cons.mpr ⟨sn_aload_n dX9_startOver_10 rfl rfl, ?_⟩
  refine List.forall_mem_cons.mpr ⟨sn_iconst dX9_startOver_11 rfl ⟨by decide, by decide⟩, ?_⟩
  refine List.forall_mem_cons.mpr ⟨sn_puti mCl_9 (by decide) rfl (Or.inl rfl) kt_141 dX9_startOver_12 rfl, ?_⟩
  refine List.forall_mem_cons.mpr ⟨sn_aload_n dX9_startOver_15 rfl rfl, ?_⟩
  refine List.forall_mem_cons.mpr ⟨sn_iconst dX9_startOver_16 rfl ⟨by decide, by decide⟩, ?_⟩
  refine List.forall_mem_cons.mpr ⟨sn_puti mCl_9 (by decide) rfl (Or.inl rfl) kt_142 dX9_startOver_17 rfl, ?_⟩
  refine List.forall_mem_cons.mpr ⟨sn_aload_n dX9_startOver_20 rfl rfl, ?_⟩
  refine List.forall_mem_cons.mpr ⟨sn_iconst dX9_startOver_21 rfl ⟨by decide, by decide⟩, ?_⟩
  refine List.forall_mem_cons.mpr ⟨sn_puti mCl_9 (by decide) rfl (Or.inl rfl) kt_143 dX9_startOver_22 rfl, ?_⟩
  refine List.forall_mem_cons.mpr ⟨sn_aload_n dX9_startOver_25 rfl rfl, ?_⟩
  refine List.forall_mem_cons.mpr ⟨sn_iconst dX9_startOver_26 rfl ⟨by decide, by decide⟩, ?_⟩
  refine List.forall_mem_cons.mpr ⟨sn_puti mCl_9 (by decide) rfl (Or.inl rfl) kt_144 dX9_startOver_27 rfl, ?_⟩
  refine List.forall_mem_cons.mpr ⟨sn_aload_n dX9_startOver_30 rfl rfl, ?_⟩
  refine List.forall_mem_cons.mpr ⟨sn_iconst dX9_startOver_31 rfl ⟨by decide, by decide⟩, ?_⟩
  refine List.forall_mem_cons.mpr ⟨sn_putz mCl_9 (by decide) rfl (Or.inl rfl) kt_145 dX9_startOver_32 rfl, ?_⟩
  refine List.forall_mem_cons.mpr ⟨sn_aload_n dX9_startOver_35 rfl rfl, ?_⟩
  refine List.forall_mem_cons.mpr ⟨sn_iconst dX9_startOver_36 rfl ⟨by decide, by decide⟩, ?_⟩
  refine List.forall_mem_cons.mpr ⟨sn_puti mCl_9 (by decide) rfl (Or.inl rfl) kt_147 dX9_startOver_37 rfl, ?_⟩
  refine List.forall_mem_cons.mpr ⟨sn_vret rfl dX9_startOver_40, ?_⟩
  exact List.forall_mem_nil _
theorem sX9_fail : ∀ q ∈ tX9_fail, mSnd mInf iX9_fail q.1 q.2 := by
  unfold tX9_fail
  refine List.forall_mem_cons.mpr ⟨sn_aload_n dX9_fail_0 rfl rfl, ?_⟩
  refine List.forall_mem_cons.mpr ⟨sn_iload_n dX9_fail_1 rfl rfl, ?_⟩
  refine List.forall_mem_cons.mpr ⟨sn_puti mCl_9 (by decide) rfl (Or.inl rfl) kt_137 dX9_fail_2 rfl, ?_⟩
  refine List.forall_mem_cons.mpr ⟨sn_aload_n dX9_fail_5 rfl rfl, ?_⟩
  refine List.forall_mem_cons.mpr ⟨sn_iload_n dX9_fail_6 rfl rfl, ?_⟩
  refine List.forall_mem_cons.mpr ⟨sn_puti mCl_9 (by decide) rfl (Or.inl rfl) kt_139 dX9_fail_7 rfl, ?_⟩
  refine List.forall_mem_cons.mpr ⟨sn_vret rfl dX9_fail_10, ?_⟩
  exact List.forall_mem_nil _
theorem sX9_accept : ∀ q ∈ tX9_accept, mSnd mInf iX9_accept q.1 q.2 := by
  unfold tX9_accept
  refine List.forall_mem_cons.mpr ⟨sn_aload_n dX9_accept_0 rfl rfl, ?_⟩
  refine List.forall_mem_cons.mpr ⟨sn_aload_n dX9_accept_1 rfl rfl, ?_⟩
  refine List.forall_mem_cons.mpr ⟨sn_geti mCl_8 (by decide) rfl kt_110 dX9_accept_2 rfl, ?_⟩
  refine List.forall_mem_cons.mpr ⟨sn_callV mCl_9 mt_79 rfl kt_453 kt_455 kp_8 dX9_accept_5 rfl, ?_⟩
  refine List.forall_mem_cons.mpr ⟨sn_ifne dX9_accept_8 (by decide) rfl, ?_⟩
  refine List.forall_mem_cons.mpr ⟨sn_aload_n dX9_accept_11 rfl rfl, ?_⟩
  refine List.forall_mem_cons.mpr ⟨sn_iconst dX9_accept_12 rfl ⟨by decide, by decide⟩, ?_⟩
  refine List.forall_mem_cons.mpr ⟨sn_aload_n dX9_accept_13 rfl rfl, ?_⟩
  refine List.forall_mem_cons.mpr ⟨sn_geti mCl_8 (by decide) rfl kt_114 dX9_accept_14 rfl, ?_⟩
  refine List.forall_mem_cons.mpr ⟨sn_callV mCl_9 mt_77 rfl kt_473 kt_475 kp_10 dX9_accept_17 rfl, ?_⟩
  refine List.forall_mem_cons.mpr ⟨sn_goto dX9_accept_20 (by decide), ?_⟩
  refine List.forall_mem_cons.mpr ⟨sn_aload_n dX9_accept_23 rfl rfl, ?_⟩
  refine List.forall_mem_cons.mpr ⟨sn_aload_n dX9_accept_24 rfl rfl, ?_⟩
  refine List.forall_mem_cons.mpr ⟨sn_geti mCl_8 (by decide) rfl kt_110 dX9_accept_25 rfl, ?_⟩
  refine List.forall_mem_cons.mpr ⟨sn_aload_n dX9_accept_28 rfl rfl, ?_⟩
  refine List.forall_mem_cons.mpr ⟨sn_callV mCl_9 mt_85 rfl kt_477 kt_479 kp_11 dX9_accept_29 rfl, ?_⟩
  refine List.forall_mem_cons.mpr ⟨sn_ifeq dX9_accept_32 (by decide) rfl, ?_⟩
  refine List.forall_mem_cons.mpr ⟨sn_aload_n dX9_accept_35 rfl rfl, ?_⟩
  refine List.forall_mem_cons.mpr ⟨sn_iconst dX9_accept_36 rfl ⟨by decide, by decide⟩, ?_⟩
  refine List.forall_mem_cons.mpr ⟨sn_aload_n dX9_accept_37 rfl rfl, ?_⟩
  refine List.forall_mem_cons.mpr ⟨sn_geti mCl_8 (by decide) rfl kt_114 dX9_accept_38 rfl, ?_⟩
  refine List.forall_mem_cons.mpr ⟨sn_callV mCl_9 mt_77 rfl kt_473 kt_475 kp_10 dX9_accept_41 rfl, ?_⟩
  refine List.forall_mem_cons.mpr ⟨sn_goto dX9_accept_44 (by decide), ?_⟩
  refine List.forall_mem_cons.mpr ⟨sn_aload_n dX9_accept_47 rfl rfl, ?_⟩
  refine List.forall_mem_cons.mpr ⟨sn_dup dX9_accept_48 rfl, ?_⟩
  refine List.forall_mem_cons.mpr ⟨sn_geti mCl_9 (by decide) rfl kt_143 dX9_accept_49 rfl, ?_⟩
  refine List.forall_mem_cons.mpr ⟨sn_iconst dX9_accept_52 rfl ⟨by decide, by decide⟩, ?_⟩
  refine List.forall_mem_cons.mpr ⟨sn_iadd dX9_accept_53 rfl, ?_⟩
  refine List.forall_mem_cons.mpr ⟨sn_puti mCl_9 (by decide) rfl (Or.inl rfl) kt_143 dX9_accept_54 rfl, ?_⟩
  refine List.forall_mem_cons.mpr ⟨sn_aload_n dX9_accept_57 rfl rfl, ?_⟩
  refine List.forall_mem_cons.mpr ⟨sn_aload_n dX9_accept_58 rfl rfl, ?_⟩
  refine List.forall_mem_cons.mpr ⟨sn_aload_n dX9_accept_59 rfl rfl, ?_⟩
  refine List.forall_mem_cons.mpr ⟨sn_callV mCl_9 mt_86 rfl kt_481 kt_483 kp_12 dX9_accept_60 rfl, ?_⟩
  refine List.forall_mem_cons.mpr ⟨sn_vret rfl dX9_accept_63, ?_⟩
  exact List.forall_mem_nil _
theorem sX9_goesOnWith : ∀ q ∈ tX9_goesOnWith, mSnd mInf iX9_goesOnWith q.1 q.2 := by
  unfold tX9_goesOnWith
  refine List.forall_mem_cons.mpr ⟨sn_aload_n dX9_goesOnWith_0 rfl rfl, ?_⟩
  refine List.forall_mem_cons.mpr ⟨sn_geti mCl_9 (by decide) rfl kt_142 dX9_goesOnWith_1 rfl, ?_⟩
  refine List.forall_mem_cons.mpr ⟨sn_tsw dX9_goesOnWith_4 (by decide) (by decide) rfl, ?_⟩
  refine List.forall_mem_cons.mpr ⟨sn_iload_n dX9_goesOnWith_44 rfl rfl, ?_⟩
  refine List.forall_mem_cons.mpr ⟨sn_bipush dX9_goesOnWith_45 rfl (by decide) ⟨by decide, by decide⟩, ?_⟩
  refine List.forall_mem_cons.mpr ⟨sn_icmpeq dX9_goesOnWith_47 (by decide) rfl, ?_⟩
  refine List.forall_mem_cons.mpr ⟨sn_iload_n dX9_goesOnWith_50 rfl rfl, ?_⟩
  refine List.forall_mem_cons.mpr ⟨sn_bipush dX9_goesOnWith_51 rfl (by decide) ⟨by decide, by decide⟩, ?_⟩
  refine List.forall_mem_cons.mpr ⟨sn_icmpne dX9_goesOnWith_53 (by decide) rfl, ?_⟩
  refine List.forall_mem_cons.mpr ⟨sn_iconst dX9_goesOnWith_56 rfl ⟨by decide, by decide⟩, ?_⟩
  refine List.forall_mem_cons.mpr ⟨sn_goto dX9_goesOnWith_57 (by decide), ?_⟩
  refine List.forall_mem_cons.mpr ⟨sn_iconst dX9_goesOnWith_60 rfl ⟨by decide, by decide⟩, ?_⟩
  refine List.forall_mem_cons.mpr ⟨sn_zret rfl dX9_goesOnWith_61, ?_⟩
  refine List.forall_mem_cons.mpr ⟨sn_iload_n dX9_goesOnWith_62 rfl rfl, ?_⟩
  refine List.forall_mem_cons.mpr ⟨sn_iconst dX9_goesOnWith_63 rfl ⟨by decide, by decide⟩, ?_⟩
  refine List.forall_mem_cons.mpr ⟨sn_icmpne dX9_goesOnWith_64 (by decide) rfl, ?_⟩
  refine List.forall_mem_cons.mpr ⟨sn_iconst dX9_goesOnWith_67 rfl ⟨by decide, by decide⟩, ?_⟩
  refine List.forall_mem_cons.mpr ⟨sn_goto dX9_goesOnWith_68 (by decide), ?_⟩
  refine List.forall_mem_cons.mpr ⟨sn_iconst dX9_goesOnWith_71 rfl ⟨by decide, by decide⟩, ?_⟩
  refine List.forall_mem_cons.mpr ⟨sn_zret rfl dX9_goesOnWith_72, ?_⟩
  refine List.forall_mem_cons.mpr ⟨sn_iload_n dX9_goesOnWith_73 rfl rfl, ?_⟩
  refine List.forall_mem_cons.mpr ⟨sn_bipush dX9_goesOnWith_74 rfl (by decide) ⟨by decide, by decide⟩, ?_⟩
  refine List.forall_mem_cons.mpr ⟨sn_icmpne dX9_goesOnWith_76 (by decide) rfl, ?_⟩
  refine List.forall_mem_cons.mpr ⟨sn_iconst dX9_goesOnWith_79 rfl ⟨by decide, by decide⟩, ?_⟩
  refine List.forall_mem_cons.mpr ⟨sn_goto dX9_goesOnWith_80 (by decide), ?_⟩
  refine List.forall_mem_cons.mpr ⟨sn_iconst dX9_goesOnWith_83 rfl ⟨by decide, by decide⟩, ?_⟩
  refine List.forall_mem_cons.mpr ⟨sn_zret rfl dX9_goesOnWith_84, ?_⟩
  refine List.forall_mem_cons.mpr ⟨sn_iload_n dX9_goesOnWith_85 rfl rfl, ?_⟩
  refine List.forall_mem_cons.mpr ⟨sn_bipush dX9_goesOnWith_86 rfl (by decide) ⟨by decide, by decide⟩, ?_⟩
  refine List.forall_mem_cons.mpr ⟨sn_icmpeq dX9_goesOnWith_88 (by decide) rfl, ?_⟩
  refine List.forall_mem_cons.mpr ⟨sn_iload_n dX9_goesOnWith_91 rfl rfl, ?_⟩
  refine List.forall_mem_cons.mpr ⟨sn_bipush dX9_goesOnWith_92 rfl (by decide) ⟨by decide, by decide⟩, ?_⟩
  refine List.forall_mem_cons.mpr ⟨sn_icmpeq dX9_goesOnWith_94 (by decide) rfl, ?_⟩
  refine List.forall_mem_cons.mpr ⟨sn_iload_n dX9_goesOnWith_97 rfl rfl, ?_⟩
  refine List.forall_mem_cons.mpr ⟨sn_callS mt_80 kt_457 kt_458 dX9_goesOnWith_98 rfl, ?_⟩
  refine List.forall_mem_cons.mpr ⟨sn_ifeq dX9_goesOnWith_101 (by decide) rfl, ?_⟩
  refine List.forall_mem_cons.mpr ⟨sn_iconst dX9_goesOnWith_104 rfl ⟨by decide, by decide⟩, ?_⟩
  refine List.forall_mem_cons.mpr ⟨sn_goto dX9_goesOnWith_105 (by decide), ?_⟩
  refine List.forall_mem_cons.mpr ⟨sn_iconst dX9_goesOnWith_108 rfl ⟨by decide, by decide⟩, ?_⟩
  refine List.forall_mem_cons.mpr ⟨sn_zret rfl dX9_goesOnWith_109, ?_⟩
  refine List.forall_mem_cons.mpr ⟨sn_iload_n dX9_goesOnWith_110 rfl rfl, ?_⟩
  refine List.forall_mem_cons.mpr ⟨sn_callS mt_80 kt_457 kt_458 dX9_goesOnWith_111 rfl, ?_⟩
  refine List.forall_mem_cons.mpr ⟨sn_zret rfl dX9_goesOnWith_114, ?_⟩
  refine List.forall_mem_cons.mpr ⟨sn_iload_n dX9_goesOnWith_115 rfl rfl, ?_⟩
  refine List.forall_mem_cons.mpr ⟨sn_callS mt_81 kt_460 kt_461 dX9_goesOnWith_116 rfl, ?_⟩
  refine List.forall_mem_cons.mpr ⟨sn_zret rfl dX9_goesOnWith_119, ?_⟩
  refine List.forall_mem_cons.mpr ⟨sn_aload_n dX9_goesOnWith_120 rfl rfl, ?_⟩
  refine List.forall_mem_cons.mpr ⟨sn_iload_n dX9_goesOnWith_121 rfl rfl, ?_⟩
  refine List.forall_mem_cons.mpr ⟨sn_callV mCl_9 mt_82 rfl kt_463 kt_465 kp_9 dX9_goesOnWith_122 rfl, ?_⟩
  refine List.forall_mem_cons.mpr ⟨sn_zret rfl dX9_goesOnWith_125, ?_⟩
  exact List.forall_mem_nil _
theorem sX9_beginsOperand : ∀ q ∈ tX9_beginsOperand, mSnd mInf iX9_beginsOperand q.1 q.2 := by
  unfold tX9_beginsOperand
  refine List.forall_mem_cons.mpr ⟨sn_iload_n dX9_beginsOperand_0 rfl rfl, ?_⟩
  refine List.forall_mem_cons.mpr ⟨sn_iconst dX9_beginsOperand_1 rfl ⟨by decide, by decide⟩, ?_⟩
  refine List.forall_mem_cons.mpr ⟨sn_icmpeq dX9_beginsOperand_2 (by decide) rfl, ?_⟩
  refine List.forall_mem_cons.mpr ⟨sn_iload_n dX9_beginsOperand_5 rfl rfl, ?_⟩
  refine List.forall_mem_cons.mpr ⟨sn_bipush dX9_beginsOperand_6 rfl (by decide) ⟨by decide, by decide⟩, ?_⟩
  refine List.forall_mem_cons.mpr ⟨sn_icmpeq dX9_beginsOperand_8 (by decide) rfl, ?_⟩
  refine List.forall_mem_cons.mpr ⟨sn_iload_n dX9_beginsOperand_11 rfl rfl, ?_⟩
  refine List.forall_mem_cons.mpr ⟨sn_iconst dX9_beginsOperand_12 rfl ⟨by decide, by decide⟩, ?_⟩
  refine List.forall_mem_cons.mpr ⟨sn_icmplt dX9_beginsOperand_13 (by decide) rfl, ?_⟩
  refine List.forall_mem_cons.mpr ⟨sn_iload_n dX9_beginsOperand_16 rfl rfl, ?_⟩
  refine List.forall_mem_cons.mpr ⟨sn_bipush dX9_beginsOperand_17 rfl (by decide) ⟨by decide, by decide⟩, ?_⟩
  refine List.forall_mem_cons.mpr ⟨sn_icmpgt dX9_beginsOperand_19 (by decide) rfl, ?_⟩
  refine List.forall_mem_cons.mpr ⟨sn_iconst dX9_beginsOperand_22 rfl ⟨by decide, by decide⟩, ?_⟩
  refine List.forall_mem_cons.mpr ⟨sn_goto dX9_beginsOperand_23 (by decide), ?_⟩
  refine List.forall_mem_cons.mpr ⟨sn_iconst dX9_beginsOperand_26 rfl ⟨by decide, by decide⟩, ?_⟩
  refine List.forall_mem_cons.mpr ⟨sn_zret rfl dX9_beginsOperand_27, ?_⟩
  exact List.forall_mem_nil _
theorem sX9_followsLiteral : ∀ q ∈ tX9_followsLiteral, mSnd mInf iX9_followsLiteral q.1 q.2 := by
  unfold tX9_followsLiteral
  refine List.forall_mem_cons.mpr ⟨sn_iload_n dX9_followsLiteral_0 rfl rfl, ?_⟩
  refine List.forall_mem_cons.mpr ⟨sn_bipush dX9_followsLiteral_1 rfl (by decide) ⟨by decide, by decide⟩, ?_⟩
  refine List.forall_mem_cons.mpr ⟨sn_icmpeq dX9_followsLiteral_3 (by decide) rfl, ?_⟩
  refine List.forall_mem_cons.mpr ⟨sn_iload_n dX9_followsLiteral_6 rfl rfl, ?_⟩
  refine List.forall_mem_cons.mpr ⟨sn_bipush dX9_followsLiteral_7 rfl (by decide) ⟨by decide, by decide⟩, ?_⟩
  refine List.forall_mem_cons.mpr ⟨sn_icmpeq dX9_followsLiteral_9 (by decide) rfl, ?_⟩
  refine List.forall_mem_cons.mpr ⟨sn_iload_n dX9_followsLiteral_12 rfl rfl, ?_⟩
  refine List.forall_mem_cons.mpr ⟨sn_bipush dX9_followsLiteral_13 rfl (by decide) ⟨by decide, by decide⟩, ?_⟩
  refine List.forall_mem_cons.mpr ⟨sn_icmpne dX9_followsLiteral_15 (by decide) rfl, ?_⟩
  refine List.forall_mem_cons.mpr ⟨sn_iconst dX9_followsLiteral_18 rfl ⟨by decide, by decide⟩, ?_⟩
  refine List.forall_mem_cons.mpr ⟨sn_goto dX9_followsLiteral_19 (by decide), ?_⟩
  refine List.forall_mem_cons.mpr ⟨sn_iconst dX9_followsLiteral_22 rfl ⟨by decide, by decide⟩, ?_⟩
  refine List.forall_mem_cons.mpr ⟨sn_zret rfl dX9_followsLiteral_23, ?_⟩
  exact List.forall_mem_nil _
theorem sX9_followsOperand : ∀ q ∈ tX9_followsOperand, mSnd mInf iX9_followsOperand q.1 q.2 := by
  unfold tX9_followsOperand
  refine List.forall_mem_cons.mpr ⟨sn_iload_n dX9_followsOperand_0 rfl rfl, ?_⟩
  refine List.forall_mem_cons.mpr ⟨sn_callS mt_83 kt_467 kt_468 dX9_followsOperand_1 rfl, ?_⟩
  refine List.forall_mem_cons.mpr ⟨sn_ifeq dX9_followsOperand_4 (by decide) rfl, ?_⟩
  refine List.forall_mem_cons.mpr ⟨sn_iconst dX9_followsOperand_7 rfl ⟨by decide, by decide⟩, ?_⟩
  refine List.forall_mem_cons.mpr ⟨sn_zret rfl dX9_followsOperand_8, ?_⟩
  refine List.forall_mem_cons.mpr ⟨sn_aload_n dX9_followsOperand_9 rfl rfl, ?_⟩
  refine List.forall_mem_cons.mpr ⟨sn_geti mCl_9 (by decide) rfl kt_144 dX9_followsOperand_10 rfl, ?_⟩
  refine List.forall_mem_cons.mpr ⟨sn_ifle dX9_followsOperand_13 (by decide) rfl, ?_⟩
  refine List.forall_mem_cons.mpr ⟨sn_iload_n dX9_followsOperand_16 rfl rfl, ?_⟩
  refine List.forall_mem_cons.mpr ⟨sn_bipush dX9_followsOperand_17 rfl (by decide) ⟨by decide, by decide⟩, ?_⟩
  refine List.forall_mem_cons.mpr ⟨sn_icmpne dX9_followsOperand_19 (by decide) rfl, ?_⟩
  refine List.forall_mem_cons.mpr ⟨sn_iconst dX9_followsOperand_22 rfl ⟨by decide, by decide⟩, ?_⟩
  refine List.forall_mem_cons.mpr ⟨sn_goto dX9_followsOperand_23 (by decide), ?_⟩
  refine List.forall_mem_cons.mpr ⟨sn_iconst dX9_followsOperand_26 rfl ⟨by decide, by decide⟩, ?_⟩
  refine List.forall_mem_cons.mpr ⟨sn_zret rfl dX9_followsOperand_27, ?_⟩
  refine List.forall_mem_cons.mpr ⟨sn_aload_n dX9_followsOperand_28 rfl rfl, ?_⟩
  refine List.forall_mem_cons.mpr ⟨sn_geti mCl_9 (by decide) rfl kt_145 dX9_followsOperand_29 rfl, ?_⟩
  refine List.forall_mem_cons.mpr ⟨sn_ifeq dX9_followsOperand_32 (by decide) rfl, ?_⟩
  refine List.forall_mem_cons.mpr ⟨sn_iload_n dX9_followsOperand_35 rfl rfl, ?_⟩
  refine List.forall_mem_cons.mpr ⟨sn_callS mt_81 kt_460 kt_461 dX9_followsOperand_36 rfl, ?_⟩
  refine List.forall_mem_cons.mpr ⟨sn_goto dX9_followsOperand_39 (by decide), ?_⟩
  refine List.forall_mem_cons.mpr ⟨sn_iload_n dX9_followsOperand_42 rfl rfl, ?_⟩
  refine List.forall_mem_cons.mpr ⟨sn_callS mt_84 kt_470 kt_471 dX9_followsOperand_43 rfl, ?_⟩
  refine List.forall_mem_cons.mpr ⟨sn_zret rfl dX9_followsOperand_46, ?_⟩
  exact List.forall_mem_nil _
theorem sX9_isArithmetic : ∀ q ∈ tX9_isArithmetic, mSnd mInf iX9_isArithmetic q.1 q.2 := by
  unfold tX9_isArithmetic
  refine List.forall_mem_cons.mpr ⟨sn_iload_n dX9_isArithmetic_0 rfl rfl, ?_⟩
  refine List.forall_mem_cons.mpr ⟨sn_bipush dX9_isArithmetic_1 rfl (by decide) ⟨by decide, by decide⟩, ?_⟩
  refine List.forall_mem_cons.mpr ⟨sn_icmplt dX9_isArithmetic_3 (by decide) rfl, ?_⟩
  refine List.forall_mem_cons.mpr ⟨sn_iload_n dX9_isArithmetic_6 rfl rfl, ?_⟩
  refine List.forall_mem_cons.mpr ⟨sn_bipush dX9_isArithmetic_7 rfl (by decide) ⟨by decide, by decide⟩, ?_⟩
  refine List.forall_mem_cons.mpr ⟨sn_icmpgt dX9_isArithmetic_9 (by decide) rfl, ?_⟩
  refine List.forall_mem_cons.mpr ⟨sn_iconst dX9_isArithmetic_12 rfl ⟨by decide, by decide⟩, ?_⟩
  refine List.forall_mem_cons.mpr ⟨sn_goto dX9_isArithmetic_13 (by decide), ?_⟩
  refine List.forall_mem_cons.mpr ⟨sn_iconst dX9_isArithmetic_16 rfl ⟨by decide, by decide⟩, ?_⟩
  refine List.forall_mem_cons.mpr ⟨sn_zret rfl dX9_isArithmetic_17, ?_⟩
  exact List.forall_mem_nil _
theorem sX9_isComparison : ∀ q ∈ tX9_isComparison, mSnd mInf iX9_isComparison q.1 q.2 := by
  unfold tX9_isComparison
  refine List.forall_mem_cons.mpr ⟨sn_iload_n dX9_isComparison_0 rfl rfl, ?_⟩
  refine List.forall_mem_cons.mpr ⟨sn_bipush dX9_isComparison_1 rfl (by decide) ⟨by decide, by decide⟩, ?_⟩
  refine List.forall_mem_cons.mpr ⟨sn_icmplt dX9_isComparison_3 (by decide) rfl, ?_⟩
  refine List.forall_mem_cons.mpr ⟨sn_iload_n dX9_isComparison_6 rfl rfl, ?_⟩
  refine List.forall_mem_cons.mpr ⟨sn_bipush dX9_isComparison_7 rfl (by decide) ⟨by decide, by decide⟩, ?_⟩
  refine List.forall_mem_cons.mpr ⟨sn_icmpgt dX9_isComparison_9 (by decide) rfl, ?_⟩
  refine List.forall_mem_cons.mpr ⟨sn_iconst dX9_isComparison_12 rfl ⟨by decide, by decide⟩, ?_⟩
  refine List.forall_mem_cons.mpr ⟨sn_goto dX9_isComparison_13 (by decide), ?_⟩
  refine List.forall_mem_cons.mpr ⟨sn_iconst dX9_isComparison_16 rfl ⟨by decide, by decide⟩, ?_⟩
  refine List.forall_mem_cons.mpr ⟨sn_zret rfl dX9_isComparison_17, ?_⟩
  exact List.forall_mem_nil _
theorem sX9_isTooMuch : ∀ q ∈ tX9_isTooMuch, mSnd mInf iX9_isTooMuch q.1 q.2 := by
  unfold tX9_isTooMuch
  refine List.forall_mem_cons.mpr ⟨sn_aload_n dX9_isTooMuch_0 rfl rfl, ?_⟩
  refine List.forall_mem_cons.mpr ⟨sn_geti mCl_9 (by decide) rfl kt_143 dX9_isTooMuch_1 rfl, ?_⟩
  refine List.forall_mem_cons.mpr ⟨sn_sipush dX9_isTooMuch_4 rfl (by decide) ⟨by decide, by decide⟩, ?_⟩
  refine List.forall_mem_cons.mpr ⟨sn_icmpge dX9_isTooMuch_7 (by decide) rfl, ?_⟩
  refine List.forall_mem_cons.mpr ⟨sn_aload_n dX9_isTooMuch_10 rfl rfl, ?_⟩
  refine List.forall_mem_cons.mpr ⟨sn_geti mCl_9 (by decide) rfl kt_142 dX9_isTooMuch_11 rfl, ?_⟩
  refine List.forall_mem_cons.mpr ⟨sn_ifne dX9_isTooMuch_14 (by decide) rfl, ?_⟩
  refine List.forall_mem_cons.mpr ⟨sn_aload_n dX9_isTooMuch_17 rfl rfl, ?_⟩
  refine List.forall_mem_cons.mpr ⟨sn_geti mCl_10 (by decide) rfl kt_232 dX9_isTooMuch_18 rfl, ?_⟩
  refine List.forall_mem_cons.mpr ⟨sn_bipush dX9_isTooMuch_21 rfl (by decide) ⟨by decide, by decide⟩, ?_⟩
  refine List.forall_mem_cons.mpr ⟨sn_icmpge dX9_isTooMuch_23 (by decide) rfl, ?_⟩
  refine List.forall_mem_cons.mpr ⟨sn_iload_n dX9_isTooMuch_26 rfl rfl, ?_⟩
  refine List.forall_mem_cons.mpr ⟨sn_bipush dX9_isTooMuch_27 rfl (by decide) ⟨by decide, by decide⟩, ?_⟩
  refine List.forall_mem_cons.mpr ⟨sn_icmpne dX9_isTooMuch_29 (by decide) rfl, ?_⟩
  refine List.forall_mem_cons.mpr ⟨sn_aload_n dX9_isTooMuch_32 rfl rfl, ?_⟩
  refine List.forall_mem_cons.mpr ⟨sn_geti mCl_9 (by decide) rfl kt_144 dX9_isTooMuch_33 rfl, ?_⟩
  refine List.forall_mem_cons.mpr ⟨sn_bipush dX9_isTooMuch_36 rfl (by decide) ⟨by decide, by decide⟩, ?_⟩
  refine List.forall_mem_cons.mpr ⟨sn_icmplt dX9_isTooMuch_38 (by decide) rfl, ?_⟩
  refine List.forall_mem_cons.mpr ⟨sn_iconst dX9_isTooMuch_41 rfl ⟨by decide, by decide⟩, ?_⟩
  refine List.forall_mem_cons.mpr ⟨sn_goto dX9_isTooMuch_42 (by decide), ?_⟩
  refine List.forall_mem_cons.mpr ⟨sn_iconst dX9_isTooMuch_45 rfl ⟨by decide, by decide⟩, ?_⟩
  refine List.forall_mem_cons.mpr ⟨sn_zret rfl dX9_isTooMuch_46, ?_⟩
  exact List.forall_mem_nil _
theorem sX9_take : ∀ q ∈ tX9_take, mSnd mInf iX9_take q.1 q.2 := by
  unfold tX9_take
  refine List.forall_mem_cons.mpr ⟨sn_aload_n dX9_take_0 rfl rfl, ?_⟩
  refine List.forall_mem_cons.mpr ⟨sn_geti mCl_9 (by decide) rfl kt_142 dX9_take_1 rfl, ?_⟩
  refine List.forall_mem_cons.mpr ⟨sn_tsw dX9_take_4 (by decide) (by decide) rfl, ?_⟩
  refine List.forall_mem_cons.mpr ⟨sn_aload_n dX9_take_40 rfl rfl, ?_⟩
  refine List.forall_mem_cons.mpr ⟨sn_iconst dX9_take_41 rfl ⟨by decide, by decide⟩, ?_⟩
  refine List.forall_mem_cons.mpr ⟨sn_puti mCl_9 (by decide) rfl (Or.inl rfl) kt_146 dX9_take_42 rfl, ?_⟩
  refine List.forall_mem_cons.mpr ⟨sn_aload_n dX9_take_45 rfl rfl, ?_⟩
  refine List.forall_mem_cons.mpr ⟨sn_aload_n dX9_take_46 rfl rfl, ?_⟩
  refine List.forall_mem_cons.mpr ⟨sn_geti mCl_8 (by decide) rfl kt_110 dX9_take_47 rfl, ?_⟩
  refine List.forall_mem_cons.mpr ⟨sn_bipush dX9_take_50 rfl (by decide) ⟨by decide, by decide⟩, ?_⟩
  refine List.forall_mem_cons.mpr ⟨sn_icmpne dX9_take_52 (by decide) rfl, ?_⟩
  refine List.forall_mem_cons.mpr ⟨sn_iconst dX9_take_55 rfl ⟨by decide, by decide⟩, ?_⟩
  refine List.forall_mem_cons.mpr ⟨sn_goto dX9_take_56 (by decide), ?_⟩
  refine List.forall_mem_cons.mpr ⟨sn_iconst dX9_take_59 rfl ⟨by decide, by decide⟩, ?_⟩
  refine List.forall_mem_cons.mpr ⟨sn_puti mCl_9 (by decide) rfl (Or.inl rfl) kt_142 dX9_take_60 rfl, ?_⟩
  refine List.forall_mem_cons.mpr ⟨sn_goto dX9_take_63 (by decide), ?_⟩
  refine List.forall_mem_cons.mpr ⟨sn_aload_n dX9_take_66 rfl rfl, ?_⟩
  refine List.forall_mem_cons.mpr ⟨sn_aload_n dX9_take_67 rfl rfl, ?_⟩
  refine List.forall_mem_cons.mpr ⟨sn_callV mCl_9 mt_87 rfl kt_485 kt_487 kp_13 dX9_take_68 rfl, ?_⟩
  refine List.forall_mem_cons.mpr ⟨sn_goto dX9_take_71 (by decide), ?_⟩
  refine List.forall_mem_cons.mpr ⟨sn_aload_n dX9_take_74 rfl rfl, ?_⟩
  refine List.forall_mem_cons.mpr ⟨sn_iconst dX9_take_75 rfl ⟨by decide, by decide⟩, ?_⟩
  refine List.forall_mem_cons.mpr ⟨sn_puti mCl_9 (by decide) rfl (Or.inl rfl) kt_142 dX9_take_76 rfl, ?_⟩
  refine List.forall_mem_cons.mpr ⟨sn_goto dX9_take_79 (by decide), ?_⟩
  refine List.forall_mem_cons.mpr ⟨sn_aload_n dX9_take_82 rfl rfl, ?_⟩
  refine List.forall_mem_cons.mpr ⟨sn_aload_n dX9_take_83 rfl rfl, ?_⟩
  refine List.forall_mem_cons.mpr ⟨sn_aload_n dX9_take_84 rfl rfl, ?_⟩
  refine List.forall_mem_cons.mpr ⟨sn_callV mCl_9 mt_88 rfl kt_489 kt_491 kp_14 dX9_take_85 rfl, ?_⟩
  refine List.forall_mem_cons.mpr ⟨sn_goto dX9_take_88 (by decide), ?_⟩
  refine List.forall_mem_cons.mpr ⟨sn_aload_n dX9_take_91 rfl rfl, ?_⟩
  refine List.forall_mem_cons.mpr ⟨sn_aload_n dX9_take_92 rfl rfl, ?_⟩
  refine List.forall_mem_cons.mpr ⟨sn_geti mCl_8 (by decide) rfl kt_110 dX9_take_93 rfl, ?_⟩
  refine List.forall_mem_cons.mpr ⟨sn_aload_n dX9_take_96 rfl rfl, ?_⟩
  refine List.forall_mem_cons.mpr ⟨sn_callV mCl_9 mt_89 rfl kt_501 kt_503 kp_16 dX9_take_97 rfl, ?_⟩
  refine List.forall_mem_cons.mpr ⟨sn_vret rfl dX9_take_100, ?_⟩
  exact List.forall_mem_nil _
theorem sX9_takeAmount : ∀ q ∈ tX9_takeAmount, mSnd mInf iX9_takeAmount q.1 q.2 := by
  unfold tX9_takeAmount
  refine List.forall_mem_cons.mpr ⟨sn_aload_n dX9_takeAmount_0 rfl rfl, ?_⟩
  refine List.forall_mem_cons.mpr ⟨sn_aload_n dX9_takeAmount_1 rfl rfl, ?_⟩
  refine List.forall_mem_cons.mpr ⟨sn_geti mCl_8 (by decide) rfl kt_112 dX9_takeAmount_2 rfl, ?_⟩
  refine List.forall_mem_cons.mpr ⟨sn_puti mCl_9 (by decide) rfl (Or.inl rfl) kt_146 dX9_takeAmount_5 rfl, ?_⟩
  refine List.forall_mem_cons.mpr ⟨sn_aload_n dX9_takeAmount_8 rfl rfl, ?_⟩
  refine List.forall_mem_cons.mpr ⟨sn_geti mCl_9 (by decide) rfl kt_141 dX9_takeAmount_9 rfl, ?_⟩
  refine List.forall_mem_cons.mpr ⟨sn_iconst dX9_takeAmount_12 rfl ⟨by decide, by decide⟩, ?_⟩
  refine List.forall_mem_cons.mpr ⟨sn_icmpne dX9_takeAmount_13 (by decide) rfl, ?_⟩
  refine List.forall_mem_cons.mpr ⟨sn_aload_n dX9_takeAmount_16 rfl rfl, ?_⟩
  refine List.forall_mem_cons.mpr ⟨sn_geti mCl_9 (by decide) rfl kt_146 dX9_takeAmount_17 rfl, ?_⟩
  refine List.forall_mem_cons.mpr ⟨sn_iconst dX9_takeAmount_20 rfl ⟨by decide, by decide⟩, ?_⟩
  refine List.forall_mem_cons.mpr ⟨sn_icmplt dX9_takeAmount_21 (by decide) rfl, ?_⟩
  refine List.forall_mem_cons.mpr ⟨sn_aload_n dX9_takeAmount_24 rfl rfl, ?_⟩
  refine List.forall_mem_cons.mpr ⟨sn_geti mCl_9 (by decide) rfl kt_146 dX9_takeAmount_25 rfl, ?_⟩
  refine List.forall_mem_cons.mpr ⟨sn_sipush dX9_takeAmount_28 rfl (by decide) ⟨by decide, by decide⟩, ?_⟩
  refine List.forall_mem_cons.mpr ⟨sn_icmple dX9_takeAmount_31 (by decide) rfl, ?_⟩
  refine List.forall_mem_cons.mpr ⟨sn_aload_n dX9_takeAmount_34 rfl rfl, ?_⟩
  refine List.forall_mem_cons.mpr ⟨sn_aload_n dX9_takeAmount_35 rfl rfl, ?_⟩
  refine List.forall_mem_cons.mpr ⟨sn_geti mCl_8 (by decide) rfl kt_114 dX9_takeAmount_36 rfl, ?_⟩
  refine List.forall_mem_cons.mpr ⟨sn_puti mCl_9 (by decide) rfl (Or.inl rfl) kt_141 dX9_takeAmount_39 rfl, ?_⟩
  refine List.forall_mem_cons.mpr ⟨sn_aload_n dX9_takeAmount_42 rfl rfl, ?_⟩
  refine List.forall_mem_cons.mpr ⟨sn_iconst dX9_takeAmount_43 rfl ⟨by decide, by decide⟩, ?_⟩
  refine List.forall_mem_cons.mpr ⟨sn_puti mCl_9 (by decide) rfl (Or.inl rfl) kt_142 dX9_takeAmount_44 rfl, ?_⟩
  refine List.forall_mem_cons.mpr ⟨sn_vret rfl dX9_takeAmount_47, ?_⟩
  exact List.forall_mem_nil _
theorem sX9_takeOperand : ∀ q ∈ tX9_takeOperand, mSnd mInf iX9_takeOperand q.1 q.2 := by
  unfold tX9_takeOperand
  refine List.forall_mem_cons.mpr ⟨sn_aload_n dX9_takeOperand_0 rfl rfl, ?_⟩
  refine List.forall_mem_cons.mpr ⟨sn_geti mCl_8 (by decide) rfl kt_110 dX9_takeOperand_1 rfl, ?_⟩
  refine List.forall_mem_cons.mpr ⟨sn_bipush dX9_takeOperand_4 rfl (by decide) ⟨by decide, by decide⟩, ?_⟩
  refine List.forall_mem_cons.mpr ⟨sn_icmpne dX9_takeOperand_6 (by decide) rfl, ?_⟩
  refine List.forall_mem_cons.mpr ⟨sn_aload_n dX9_takeOperand_9 rfl rfl, ?_⟩
  refine List.forall_mem_cons.mpr ⟨sn_bipush dX9_takeOperand_10 rfl (by decide) ⟨by decide, by decide⟩, ?_⟩
  refine List.forall_mem_cons.mpr ⟨sn_callV mCl_9 mt_90 rfl kt_493 kt_495 kp_15 dX9_takeOperand_12 rfl, ?_⟩
  refine List.forall_mem_cons.mpr ⟨sn_aload_n dX9_takeOperand_15 rfl rfl, ?_⟩
  refine List.forall_mem_cons.mpr ⟨sn_dup dX9_takeOperand_16 rfl, ?_⟩
  refine List.forall_mem_cons.mpr ⟨sn_geti mCl_9 (by decide) rfl kt_144 dX9_takeOperand_17 rfl, ?_⟩
  refine List.forall_mem_cons.mpr ⟨sn_iconst dX9_takeOperand_20 rfl ⟨by decide, by decide⟩, ?_⟩
  refine List.forall_mem_cons.mpr ⟨sn_iadd dX9_takeOperand_21 rfl, ?_⟩
  refine List.forall_mem_cons.mpr ⟨sn_puti mCl_9 (by decide) rfl (Or.inl rfl) kt_144 dX9_takeOperand_22 rfl, ?_⟩
  refine List.forall_mem_cons.mpr ⟨sn_aload_n dX9_takeOperand_25 rfl rfl, ?_⟩
  refine List.forall_mem_cons.mpr ⟨sn_iconst dX9_takeOperand_26 rfl ⟨by decide, by decide⟩, ?_⟩
  refine List.forall_mem_cons.mpr ⟨sn_puti mCl_9 (by decide) rfl (Or.inl rfl) kt_142 dX9_takeOperand_27 rfl, ?_⟩
  refine List.forall_mem_cons.mpr ⟨sn_vret rfl dX9_takeOperand_30, ?_⟩
  refine List.forall_mem_cons.mpr ⟨sn_aload_n dX9_takeOperand_31 rfl rfl, ?_⟩
  refine List.forall_mem_cons.mpr ⟨sn_aload_n dX9_takeOperand_32 rfl rfl, ?_⟩
  refine List.forall_mem_cons.mpr ⟨sn_geti mCl_8 (by decide) rfl kt_110 dX9_takeOperand_33 rfl, ?_⟩
  refine List.forall_mem_cons.mpr ⟨sn_iconst dX9_takeOperand_36 rfl ⟨by decide, by decide⟩, ?_⟩
  refine List.forall_mem_cons.mpr ⟨sn_icmpne dX9_takeOperand_37 (by decide) rfl, ?_⟩
  refine List.forall_mem_cons.mpr ⟨sn_aload_n dX9_takeOperand_40 rfl rfl, ?_⟩
  refine List.forall_mem_cons.mpr ⟨sn_geti mCl_8 (by decide) rfl kt_112 dX9_takeOperand_41 rfl, ?_⟩
  refine List.forall_mem_cons.mpr ⟨sn_goto dX9_takeOperand_44 (by decide), ?_⟩
  refine List.forall_mem_cons.mpr ⟨sn_aload_n dX9_takeOperand_47 rfl rfl, ?_⟩
  refine List.forall_mem_cons.mpr ⟨sn_geti mCl_8 (by decide) rfl kt_110 dX9_takeOperand_48 rfl, ?_⟩
  refine List.forall_mem_cons.mpr ⟨sn_ineg dX9_takeOperand_51 rfl, ?_⟩
  refine List.forall_mem_cons.mpr ⟨sn_callV mCl_10 mt_95 rfl kt_497 kt_498 kt_499 dX9_takeOperand_52 rfl, ?_⟩
  refine List.forall_mem_cons.mpr ⟨sn_aload_n dX9_takeOperand_55 rfl rfl, ?_⟩
  refine List.forall_mem_cons.mpr ⟨sn_aload_n dX9_takeOperand_56 rfl rfl, ?_⟩
  refine List.forall_mem_cons.mpr ⟨sn_geti mCl_8 (by decide) rfl kt_110 dX9_takeOperand_57 rfl, ?_⟩
  refine List.forall_mem_cons.mpr ⟨sn_bipush dX9_takeOperand_60 rfl (by decide) ⟨by decide, by decide⟩, ?_⟩
  refine List.forall_mem_cons.mpr ⟨sn_icmpeq dX9_takeOperand_62 (by decide) rfl, ?_⟩
  refine List.forall_mem_cons.mpr ⟨sn_aload_n dX9_takeOperand_65 rfl rfl, ?_⟩
  refine List.forall_mem_cons.mpr ⟨sn_geti mCl_8 (by decide) rfl kt_110 dX9_takeOperand_66 rfl, ?_⟩
  refine List.forall_mem_cons.mpr ⟨sn_bipush dX9_takeOperand_69 rfl (by decide) ⟨by decide, by decide⟩, ?_⟩
  refine List.forall_mem_cons.mpr ⟨sn_icmpne dX9_takeOperand_71 (by decide) rfl, ?_⟩
  refine List.forall_mem_cons.mpr ⟨sn_iconst dX9_takeOperand_74 rfl ⟨by decide, by decide⟩, ?_⟩
  refine List.forall_mem_cons.mpr ⟨sn_goto dX9_takeOperand_75 (by decide), ?_⟩
  refine List.forall_mem_cons.mpr ⟨sn_bipush dX9_takeOperand_78 rfl (by decide) ⟨by decide, by decide⟩, ?_⟩
  refine List.forall_mem_cons.mpr ⟨sn_puti mCl_9 (by decide) rfl (Or.inl rfl) kt_142 dX9_takeOperand_80 rfl, ?_⟩
  refine List.forall_mem_cons.mpr ⟨sn_vret rfl dX9_takeOperand_83, ?_⟩
  exact List.forall_mem_nil _
theorem sX9_takeOperator : ∀ q ∈ tX9_takeOperator, mSnd mInf iX9_takeOperator q.1 q.2 := by
  unfold tX9_takeOperator
  refine List.forall_mem_cons.mpr ⟨sn_aload_n dX9_takeOperator_0 rfl rfl, ?_⟩
  refine List.forall_mem_cons.mpr ⟨sn_iload_n dX9_takeOperator_1 rfl rfl, ?_⟩
  refine List.forall_mem_cons.mpr ⟨sn_aload_n dX9_takeOperator_2 rfl rfl, ?_⟩
  refine List.forall_mem_cons.mpr ⟨sn_callV mCl_9 mt_91 rfl kt_505 kt_507 kp_17 dX9_takeOperator_3 rfl, ?_⟩
  refine List.forall_mem_cons.mpr ⟨sn_iload_n dX9_takeOperator_6 rfl rfl, ?_⟩
  refine List.forall_mem_cons.mpr ⟨sn_bipush dX9_takeOperator_7 rfl (by decide) ⟨by decide, by decide⟩, ?_⟩
  refine List.forall_mem_cons.mpr ⟨sn_icmpne dX9_takeOperator_9 (by decide) rfl, ?_⟩
  refine List.forall_mem_cons.mpr ⟨sn_aload_n dX9_takeOperator_12 rfl rfl, ?_⟩
  refine List.forall_mem_cons.mpr ⟨sn_aload_n dX9_takeOperator_13 rfl rfl, ?_⟩
  refine List.forall_mem_cons.mpr ⟨sn_geti mCl_9 (by decide) rfl kt_147 dX9_takeOperator_14 rfl, ?_⟩
  refine List.forall_mem_cons.mpr ⟨sn_iconst dX9_takeOperator_17 rfl ⟨by decide, by decide⟩, ?_⟩
  refine List.forall_mem_cons.mpr ⟨sn_isub dX9_takeOperator_18 rfl, ?_⟩
  refine List.forall_mem_cons.mpr ⟨sn_iconst dX9_takeOperator_19 rfl ⟨by decide, by decide⟩, ?_⟩
  refine List.forall_mem_cons.mpr ⟨sn_max kt_512 kt_513 kt_14 kt_514 dX9_takeOperator_20 rfl, ?_⟩
  refine List.forall_mem_cons.mpr ⟨sn_puti mCl_9 (by decide) rfl (Or.inl rfl) kt_147 dX9_takeOperator_23 rfl, ?_⟩
  refine List.forall_mem_cons.mpr ⟨sn_aload_n dX9_takeOperator_26 rfl rfl, ?_⟩
  refine List.forall_mem_cons.mpr ⟨sn_dup dX9_takeOperator_27 rfl, ?_⟩
  refine List.forall_mem_cons.mpr ⟨sn_geti mCl_9 (by decide) rfl kt_144 dX9_takeOperator_28 rfl, ?_⟩
  refine List.forall_mem_cons.mpr ⟨sn_iconst dX9_takeOperator_31 rfl ⟨by decide, by decide⟩, ?_⟩
  refine List.forall_mem_cons.mpr ⟨sn_isub dX9_takeOperator_32 rfl, ?_⟩
  refine List.forall_mem_cons.mpr ⟨sn_puti mCl_9 (by decide) rfl (Or.inl rfl) kt_144 dX9_takeOperator_33 rfl, ?_⟩
  refine List.forall_mem_cons.mpr ⟨sn_goto dX9_takeOperator_36 (by decide), ?_⟩
  refine List.forall_mem_cons.mpr ⟨sn_iload_n dX9_takeOperator_39 rfl rfl, ?_⟩
  refine List.forall_mem_cons.mpr ⟨sn_bipush dX9_takeOperator_40 rfl (by decide) ⟨by decide, by decide⟩, ?_⟩
  refine List.forall_mem_cons.mpr ⟨sn_icmpne dX9_takeOperator_42 (by decide) rfl, ?_⟩
  refine List.forall_mem_cons.mpr ⟨sn_aload_n dX9_takeOperator_45 rfl rfl, ?_⟩
  refine List.forall_mem_cons.mpr ⟨sn_aload_n dX9_takeOperator_46 rfl rfl, ?_⟩
  refine List.forall_mem_cons.mpr ⟨sn_geti mCl_9 (by decide) rfl kt_146 dX9_takeOperator_47 rfl, ?_⟩
  refine List.forall_mem_cons.mpr ⟨sn_callV mCl_10 mt_96 rfl kt_515 kt_516 kt_517 dX9_takeOperator_50 rfl, ?_⟩
  refine List.forall_mem_cons.mpr ⟨sn_aload_n dX9_takeOperator_53 rfl rfl, ?_⟩
  refine List.forall_mem_cons.mpr ⟨sn_iconst dX9_takeOperator_54 rfl ⟨by decide, by decide⟩, ?_⟩
  refine List.forall_mem_cons.mpr ⟨sn_putz mCl_9 (by decide) rfl (Or.inl rfl) kt_145 dX9_takeOperator_55 rfl, ?_⟩
  refine List.forall_mem_cons.mpr ⟨sn_aload_n dX9_takeOperator_58 rfl rfl, ?_⟩
  refine List.forall_mem_cons.mpr ⟨sn_iconst dX9_takeOperator_59 rfl ⟨by decide, by decide⟩, ?_⟩
  refine List.forall_mem_cons.mpr ⟨sn_puti mCl_9 (by decide) rfl (Or.inl rfl) kt_142 dX9_takeOperator_60 rfl, ?_⟩
  refine List.forall_mem_cons.mpr ⟨sn_goto dX9_takeOperator_63 (by decide), ?_⟩
  refine List.forall_mem_cons.mpr ⟨sn_aload_n dX9_takeOperator_66 rfl rfl, ?_⟩
  refine List.forall_mem_cons.mpr ⟨sn_iload_n dX9_takeOperator_67 rfl rfl, ?_⟩
  refine List.forall_mem_cons.mpr ⟨sn_callV mCl_9 mt_90 rfl kt_493 kt_495 kp_15 dX9_takeOperator_68 rfl, ?_⟩
  refine List.forall_mem_cons.mpr ⟨sn_aload_n dX9_takeOperator_71 rfl rfl, ?_⟩
  refine List.forall_mem_cons.mpr ⟨sn_iload_n dX9_takeOperator_72 rfl rfl, ?_⟩
  refine List.forall_mem_cons.mpr ⟨sn_callS mt_84 kt_470 kt_471 dX9_takeOperator_73 rfl, ?_⟩
  refine List.forall_mem_cons.mpr ⟨sn_ifne dX9_takeOperator_76 (by decide) rfl, ?_⟩
  refine List.forall_mem_cons.mpr ⟨sn_aload_n dX9_takeOperator_79 rfl rfl, ?_⟩
  refine List.forall_mem_cons.mpr ⟨sn_geti mCl_9 (by decide) rfl kt_145 dX9_takeOperator_80 rfl, ?_⟩
  refine List.forall_mem_cons.mpr ⟨sn_ifeq dX9_takeOperator_83 (by decide) rfl, ?_⟩
  refine List.forall_mem_cons.mpr ⟨sn_iload_n dX9_takeOperator_86 rfl rfl, ?_⟩
  refine List.forall_mem_cons.mpr ⟨sn_callS mt_83 kt_467 kt_468 dX9_takeOperator_87 rfl, ?_⟩
  refine List.forall_mem_cons.mpr ⟨sn_ifeq dX9_takeOperator_90 (by decide) rfl, ?_⟩
  refine List.forall_mem_cons.mpr ⟨sn_iconst dX9_takeOperator_93 rfl ⟨by decide, by decide⟩, ?_⟩
  refine List.forall_mem_cons.mpr ⟨sn_goto dX9_takeOperator_94 (by decide), ?_⟩
  refine List.forall_mem_cons.mpr ⟨sn_iconst dX9_takeOperator_97 rfl ⟨by decide, by decide⟩, ?_⟩
  refine List.forall_mem_cons.mpr ⟨sn_putz mCl_9 (by decide) rfl (Or.inl rfl) kt_145 dX9_takeOperator_98 rfl, ?_⟩
  refine List.forall_mem_cons.mpr ⟨sn_aload_n dX9_takeOperator_101 rfl rfl, ?_⟩
  refine List.forall_mem_cons.mpr ⟨sn_iload_n dX9_takeOperator_102 rfl rfl, ?_⟩
  refine List.forall_mem_cons.mpr ⟨sn_bipush dX9_takeOperator_103 rfl (by decide) ⟨by decide, by decide⟩, ?_⟩
  refine List.forall_mem_cons.mpr ⟨sn_icmpeq dX9_takeOperator_105 (by decide) rfl, ?_⟩
  refine List.forall_mem_cons.mpr ⟨sn_iload_n dX9_takeOperator_108 rfl rfl, ?_⟩
  refine List.forall_mem_cons.mpr ⟨sn_bipush dX9_takeOperator_109 rfl (by decide) ⟨by decide, by decide⟩, ?_⟩
  refine List.forall_mem_cons.mpr ⟨sn_icmpne dX9_takeOperator_111 (by decide) rfl, ?_⟩
  refine List.forall_mem_cons.mpr ⟨sn_iconst dX9_takeOperator_114 rfl ⟨by decide, by decide⟩, ?_⟩
  refine List.forall_mem_cons.mpr ⟨sn_goto dX9_takeOperator_115 (by decide), ?_⟩
  refine List.forall_mem_cons.mpr ⟨sn_iconst dX9_takeOperator_118 rfl ⟨by decide, by decide⟩, ?_⟩
  refine List.forall_mem_cons.mpr ⟨sn_puti mCl_9 (by decide) rfl (Or.inl rfl) kt_142 dX9_takeOperator_119 rfl, ?_⟩
  refine List.forall_mem_cons.mpr ⟨sn_vret rfl dX9_takeOperator_122, ?_⟩
  exact List.forall_mem_nil _
theorem sX9_putOff : ∀ q ∈ tX9_putOff, mSnd mInf iX9_putOff q.1 q.2 := by
  unfold tX9_putOff
  refine List.forall_mem_cons.mpr ⟨sn_aload_n dX9_putOff_0 rfl rfl, ?_⟩
  refine List.forall_mem_cons.mpr ⟨sn_geti mCl_9 (by decide) rfl kt_147 dX9_putOff_1 rfl, ?_⟩
  refine List.forall_mem_cons.mpr ⟨sn_aload_n dX9_putOff_4 rfl rfl, ?_⟩
  refine List.forall_mem_cons.mpr ⟨sn_getr mCl_9 (by decide) rfl kt_148 dX9_putOff_5 rfl, ?_⟩
  refine List.forall_mem_cons.mpr ⟨sn_alen dX9_putOff_8 rfl, ?_⟩
  refine List.forall_mem_cons.mpr ⟨sn_icmpge dX9_putOff_9 (by decide) rfl, ?_⟩
  refine List.forall_mem_cons.mpr ⟨sn_aload_n dX9_putOff_12 rfl rfl, ?_⟩
  refine List.forall_mem_cons.mpr ⟨sn_getr mCl_9 (by decide) rfl kt_148 dX9_putOff_13 rfl, ?_⟩
  refine List.forall_mem_cons.mpr ⟨sn_aload_n dX9_putOff_16 rfl rfl, ?_⟩
  refine List.forall_mem_cons.mpr ⟨sn_geti mCl_9 (by decide) rfl kt_147 dX9_putOff_17 rfl, ?_⟩
  refine List.forall_mem_cons.mpr ⟨sn_iload_n dX9_putOff_20 rfl rfl, ?_⟩
  refine List.forall_mem_cons.mpr ⟨sn_iast dX9_putOff_21 rfl, ?_⟩
  refine List.forall_mem_cons.mpr ⟨sn_aload_n dX9_putOff_22 rfl rfl, ?_⟩
  refine List.forall_mem_cons.mpr ⟨sn_dup dX9_putOff_23 rfl, ?_⟩
  refine List.forall_mem_cons.mpr ⟨sn_geti mCl_9 (by decide) rfl kt_147 dX9_putOff_24 rfl, ?_⟩
  refine List.forall_mem_cons.mpr ⟨sn_iconst dX9_putOff_27 rfl ⟨by decide, by decide⟩, ?_⟩
  refine List.forall_mem_cons.mpr ⟨sn_iadd dX9_putOff_28 rfl, ?_⟩
  refine List.forall_mem_cons.mpr ⟨sn_puti mCl_9 (by decide) rfl (Or.inl rfl) kt_147 dX9_putOff_29 rfl, ?_⟩
  refine List.forall_mem_cons.mpr ⟨sn_vret rfl dX9_putOff_32, ?_⟩
  exact List.forall_mem_nil _
theorem sX9_writeTighter : ∀ q ∈ tX9_writeTighter, mSnd mInf iX9_writeTighter q.1 q.2 := by
  unfold tX9_writeTighter
  refine List.forall_mem_cons.mpr ⟨sn_aload_n dX9_writeTighter_0 rfl rfl, ?_⟩
  refine List.forall_mem_cons.mpr ⟨sn_geti mCl_9 (by decide) rfl kt_147 dX9_writeTighter_1 rfl, ?_⟩
  refine List.forall_mem_cons.mpr ⟨sn_ifle dX9_writeTighter_4 (by decide) rfl, ?_⟩
  refine List.forall_mem_cons.mpr ⟨sn_aload_n dX9_writeTighter_7 rfl rfl, ?_⟩
  refine List.forall_mem_cons.mpr ⟨sn_getr mCl_9 (by decide) rfl kt_148 dX9_writeTighter_8 rfl, ?_⟩
  refine List.forall_mem_cons.mpr ⟨sn_aload_n dX9_writeTighter_11 rfl rfl, ?_⟩
  refine List.forall_mem_cons.mpr ⟨sn_geti mCl_9 (by decide) rfl kt_147 dX9_writeTighter_12 rfl, ?_⟩
  refine List.forall_mem_cons.mpr ⟨sn_iconst dX9_writeTighter_15 rfl ⟨by decide, by decide⟩, ?_⟩
  refine List.forall_mem_cons.mpr ⟨sn_isub dX9_writeTighter_16 rfl, ?_⟩
  refine List.forall_mem_cons.mpr ⟨sn_iald dX9_writeTighter_17 rfl, ?_⟩
  refine List.forall_mem_cons.mpr ⟨sn_callS mt_92 kt_509 kt_510 dX9_writeTighter_18 rfl, ?_⟩
  refine List.forall_mem_cons.mpr ⟨sn_iload_n dX9_writeTighter_21 rfl rfl, ?_⟩
  refine List.forall_mem_cons.mpr ⟨sn_callS mt_92 kt_509 kt_510 dX9_writeTighter_22 rfl, ?_⟩
  refine List.forall_mem_cons.mpr ⟨sn_icmplt dX9_writeTighter_25 (by decide) rfl, ?_⟩
  refine List.forall_mem_cons.mpr ⟨sn_aload_n dX9_writeTighter_28 rfl rfl, ?_⟩
  refine List.forall_mem_cons.mpr ⟨sn_dup dX9_writeTighter_29 rfl, ?_⟩
  refine List.forall_mem_cons.mpr ⟨sn_geti mCl_9 (by decide) rfl kt_147 dX9_writeTighter_30 rfl, ?_⟩
  refine List.forall_mem_cons.mpr ⟨sn_iconst dX9_writeTighter_33 rfl ⟨by decide, by decide⟩, ?_⟩
  refine List.forall_mem_cons.mpr ⟨sn_isub dX9_writeTighter_34 rfl, ?_⟩
  refine List.forall_mem_cons.mpr ⟨sn_puti mCl_9 (by decide) rfl (Or.inl rfl) kt_147 dX9_writeTighter_35 rfl, ?_⟩
  refine List.forall_mem_cons.mpr ⟨sn_aload_n dX9_writeTighter_38 rfl rfl, ?_⟩
  refine List.forall_mem_cons.mpr ⟨sn_aload_n dX9_writeTighter_39 rfl rfl, ?_⟩
  refine List.forall_mem_cons.mpr ⟨sn_getr mCl_9 (by decide) rfl kt_148 dX9_writeTighter_40 rfl, ?_⟩
  refine List.forall_mem_cons.mpr ⟨sn_aload_n dX9_writeTighter_43 rfl rfl, ?_⟩
  refine List.forall_mem_cons.mpr ⟨sn_geti mCl_9 (by decide) rfl kt_147 dX9_writeTighter_44 rfl, ?_⟩
  refine List.forall_mem_cons.mpr ⟨sn_iald dX9_writeTighter_47 rfl, ?_⟩
  refine List.forall_mem_cons.mpr ⟨sn_ineg dX9_writeTighter_48 rfl, ?_⟩
  refine List.forall_mem_cons.mpr ⟨sn_callV mCl_10 mt_95 rfl kt_497 kt_498 kt_499 dX9_writeTighter_49 rfl, ?_⟩
  refine List.forall_mem_cons.mpr ⟨sn_goto dX9_writeTighter_52 (by decide), ?_⟩
  refine List.forall_mem_cons.mpr ⟨sn_vret rfl dX9_writeTighter_55, ?_⟩
  exact List.forall_mem_nil _
theorem sX9_tightness : ∀ q ∈ tX9_tightness, mSnd mInf iX9_tightness q.1 q.2 := by
  unfold tX9_tightness
  refine List.forall_mem_cons.mpr ⟨sn_iload_n dX9_tightness_0 rfl rfl, ?_⟩
  refine List.forall_mem_cons.mpr ⟨sn_tsw dX9_tightness_1 (by decide) (by decide) rfl, ?_⟩
  refine List.forall_mem_cons.mpr ⟨sn_iconst dX9_tightness_64 rfl ⟨by decide, by decide⟩, ?_⟩
  refine List.forall_mem_cons.mpr ⟨sn_iret rfl dX9_tightness_65, ?_⟩
  refine List.forall_mem_cons.mpr ⟨sn_iconst dX9_tightness_66 rfl ⟨by decide, by decide⟩, ?_⟩
  refine List.forall_mem_cons.mpr ⟨sn_iret rfl dX9_tightness_67, ?_⟩
  refine List.forall_mem_cons.mpr ⟨sn_iconst dX9_tightness_68 rfl ⟨by decide, by decide⟩, ?_⟩
  refine List.forall_mem_cons.mpr ⟨sn_iret rfl dX9_tightness_69, ?_⟩
  refine List.forall_mem_cons.mpr ⟨sn_iconst dX9_tightness_70 rfl ⟨by decide, by decide⟩, ?_⟩
  refine List.forall_mem_cons.mpr ⟨sn_iret rfl dX9_tightness_71, ?_⟩
  refine List.forall_mem_cons.mpr ⟨sn_iconst dX9_tightness_72 rfl ⟨by decide, by decide⟩, ?_⟩
  refine List.forall_mem_cons.mpr ⟨sn_iret rfl dX9_tightness_73, ?_⟩
  refine List.forall_mem_cons.mpr ⟨sn_bipush dX9_tightness_74 rfl (by decide) ⟨by decide, by decide⟩, ?_⟩
  refine List.forall_mem_cons.mpr ⟨sn_iret rfl dX9_tightness_76, ?_⟩
  refine List.forall_mem_cons.mpr ⟨sn_iconst dX9_tightness_77 rfl ⟨by decide, by decide⟩, ?_⟩
  refine List.forall_mem_cons.mpr ⟨sn_iret rfl dX9_tightness_78, ?_⟩
  exact List.forall_mem_nil _
