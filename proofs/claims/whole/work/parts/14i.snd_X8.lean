theorem sX8_init : ∀ q ∈ tX8_init, mSnd mInf iX8_init q.1 q.2 := by
  unfold tX8_init
  refine List.forall_mem_cons.mpr ⟨sn_aload_n dX8_init_0 rfl rfl, ?_⟩
  refine List.forall_mem_cons.mpr ⟨sn_objinit kt_105 kt_28 kt_29 dX8_init_1 rfl, ?_⟩
  refine List.forall_mem_cons.mpr ⟨sn_aload_n dX8_init_4 rfl rfl, ?_⟩
  refine List.forall_mem_cons.mpr ⟨sn_iconst dX8_init_5 rfl ⟨by decide, by decide⟩, ?_⟩
  refine List.forall_mem_cons.mpr ⟨sn_puti mCl_8 (by decide) rfl (Or.inl rfl) kt_106 dX8_init_6 rfl, ?_⟩
  refine List.forall_mem_cons.mpr ⟨sn_aload_n dX8_init_9 rfl rfl, ?_⟩
  refine List.forall_mem_cons.mpr ⟨sn_iconst dX8_init_10 rfl ⟨by decide, by decide⟩, ?_⟩
  refine List.forall_mem_cons.mpr ⟨sn_puti mCl_8 (by decide) rfl (Or.inl rfl) kt_109 dX8_init_11 rfl, ?_⟩
  refine List.forall_mem_cons.mpr ⟨sn_aload_n dX8_init_14 rfl rfl, ?_⟩
  refine List.forall_mem_cons.mpr ⟨sn_iconst dX8_init_15 rfl ⟨by decide, by decide⟩, ?_⟩
  refine List.forall_mem_cons.mpr ⟨sn_puti mCl_8 (by decide) rfl (Or.inl rfl) kt_111 dX8_init_16 rfl, ?_⟩
  refine List.forall_mem_cons.mpr ⟨sn_aload_n dX8_init_19 rfl rfl, ?_⟩
  refine List.forall_mem_cons.mpr ⟨sn_iconst dX8_init_20 rfl ⟨by decide, by decide⟩, ?_⟩
  refine List.forall_mem_cons.mpr ⟨sn_puti mCl_8 (by decide) rfl (Or.inl rfl) kt_113 dX8_init_21 rfl, ?_⟩
  refine List.forall_mem_cons.mpr ⟨sn_aload_n dX8_init_24 rfl rfl, ?_⟩
  refine List.forall_mem_cons.mpr ⟨sn_iconst dX8_init_25 rfl ⟨by decide, by decide⟩, ?_⟩
  refine List.forall_mem_cons.mpr ⟨sn_puti mCl_8 (by decide) rfl (Or.inl rfl) kt_115 dX8_init_26 rfl, ?_⟩
  refine List.forall_mem_cons.mpr ⟨sn_aload_n dX8_init_29 rfl rfl, ?_⟩
  refine List.forall_mem_cons.mpr ⟨sn_sipush dX8_init_30 rfl (by decide) ⟨by decide, by decide⟩, ?_⟩
  refine List.forall_mem_cons.mpr ⟨sn_newB kt_130 dX8_init_33 rfl, ?_⟩
  refine List.forall_mem_cons.mpr ⟨sn_putr mCl_8 (by decide) rfl (Or.inr ⟨rfl, rfl, rfl⟩) kt_116 dX8_init_35 rfl, ?_⟩
  refine List.forall_mem_cons.mpr ⟨sn_vret rfl dX8_init_38, ?_⟩
  exact List.forall_mem_nil _
theorem sX8_append : ∀ q ∈ tX8_append, mSnd mInf iX8_append q.1 q.2 := by
  unfold tX8_append
  refine List.forall_mem_cons.mpr ⟨sn_bipush dX8_append_0 rfl (by decide) ⟨by decide, by decide⟩, ?_⟩
  refine List.forall_mem_cons.mpr ⟨sn_istore_n dX8_append_2 rfl rfl, ?_⟩
  refine List.forall_mem_cons.mpr ⟨sn_iload_n dX8_append_3 rfl rfl, ?_⟩
  refine List.forall_mem_cons.mpr ⟨sn_iflt dX8_append_4 (by decide) rfl, ?_⟩
  refine List.forall_mem_cons.mpr ⟨sn_aload_n dX8_append_7 rfl rfl, ?_⟩
  refine List.forall_mem_cons.mpr ⟨sn_geti mCl_8 (by decide) rfl kt_106 dX8_append_8 rfl, ?_⟩
  refine List.forall_mem_cons.mpr ⟨sn_aload_n dX8_append_11 rfl rfl, ?_⟩
  refine List.forall_mem_cons.mpr ⟨sn_getr mCl_8 (by decide) rfl kt_116 dX8_append_12 rfl, ?_⟩
  refine List.forall_mem_cons.mpr ⟨sn_alen dX8_append_15 rfl, ?_⟩
  refine List.forall_mem_cons.mpr ⟨sn_icmpge dX8_append_16 (by decide) rfl, ?_⟩
  refine List.forall_mem_cons.mpr ⟨sn_aload_n dX8_append_19 rfl rfl, ?_⟩
  refine List.forall_mem_cons.mpr ⟨sn_getr mCl_8 (by decide) rfl kt_116 dX8_append_20 rfl, ?_⟩
  refine List.forall_mem_cons.mpr ⟨sn_aload_n dX8_append_23 rfl rfl, ?_⟩
  refine List.forall_mem_cons.mpr ⟨sn_geti mCl_8 (by decide) rfl kt_106 dX8_append_24 rfl, ?_⟩
  refine List.forall_mem_cons.mpr ⟨sn_iload_n dX8_append_27 rfl rfl, ?_⟩
  refine List.forall_mem_cons.mpr ⟨sn_iload_n dX8_append_28 rfl rfl, ?_⟩
  refine List.forall_mem_cons.mpr ⟨sn_ishr dX8_append_29 rfl, ?_⟩
  refine List.forall_mem_cons.mpr ⟨sn_i2b dX8_append_30 rfl, ?_⟩
  refine List.forall_mem_cons.mpr ⟨sn_bast dX8_append_31 rfl, ?_⟩
  refine List.forall_mem_cons.mpr ⟨sn_aload_n dX8_append_32 rfl rfl, ?_⟩
  refine List.forall_mem_cons.mpr ⟨sn_dup dX8_append_33 rfl, ?_⟩
  refine List.forall_mem_cons.mpr ⟨sn_geti mCl_8 (by decide) rfl kt_106 dX8_append_34 rfl, ?_⟩
  refine List.forall_mem_cons.mpr ⟨sn_iconst dX8_append_37 rfl ⟨by decide, by decide⟩, ?_⟩
  refine List.forall_mem_cons.mpr ⟨sn_iadd dX8_append_38 rfl, ?_⟩
  refine List.forall_mem_cons.mpr ⟨sn_puti mCl_8 (by decide) rfl (Or.inl rfl) kt_106 dX8_append_39 rfl, ?_⟩
  refine List.forall_mem_cons.mpr ⟨sn_iinc dX8_append_42 rfl, ?_⟩
  refine List.forall_mem_cons.mpr ⟨sn_goto dX8_append_45 (by decide), ?_⟩
  refine List.forall_mem_cons.mpr ⟨sn_vret rfl dX8_append_48, ?_⟩
  exact List.forall_mem_nil _
theorem sX8_rewind : ∀ q ∈ tX8_rewind, mSnd mInf iX8_rewind q.1 q.2 := by
  unfold tX8_rewind
  refine List.forall_mem_cons.mpr ⟨sn_aload_n dX8_rewind_0 rfl rfl, ?_⟩
  refine List.forall_mem_cons.mpr ⟨sn_iconst dX8_rewind_1 rfl ⟨by decide, by decide⟩, ?_⟩
  refine List.forall_mem_cons.mpr ⟨sn_puti mCl_8 (by decide) rfl (Or.inl rfl) kt_115 dX8_rewind_2 rfl, ?_⟩
  refine List.forall_mem_cons.mpr ⟨sn_vret rfl dX8_rewind_5, ?_⟩
  exact List.forall_mem_nil _
theorem sX8_advance : ∀ q ∈ tX8_advance, mSnd mInf iX8_advance q.1 q.2 := by
  unfold tX8_advance
  refine List.forall_mem_cons.mpr ⟨sn_aload_n dX8_advance_0 rfl rfl, ?_⟩
  refine List.forall_mem_cons.mpr ⟨sn_aload_n dX8_advance_1 rfl rfl, ?_⟩
  refine List.forall_mem_cons.mpr ⟨sn_geti mCl_8 (by decide) rfl kt_115 dX8_advance_2 rfl, ?_⟩
  refine List.forall_mem_cons.mpr ⟨sn_puti mCl_8 (by decide) rfl (Or.inl rfl) kt_113 dX8_advance_5 rfl, ?_⟩
  refine List.forall_mem_cons.mpr ⟨sn_aload_n dX8_advance_8 rfl rfl, ?_⟩
  refine List.forall_mem_cons.mpr ⟨sn_geti mCl_8 (by decide) rfl kt_113 dX8_advance_9 rfl, ?_⟩
  refine List.forall_mem_cons.mpr ⟨sn_aload_n dX8_advance_12 rfl rfl, ?_⟩
  refine List.forall_mem_cons.mpr ⟨sn_geti mCl_8 (by decide) rfl kt_106 dX8_advance_13 rfl, ?_⟩
  refine List.forall_mem_cons.mpr ⟨sn_icmpge dX8_advance_16 (by decide) rfl, ?_⟩
  refine List.forall_mem_cons.mpr ⟨sn_aload_n dX8_advance_19 rfl rfl, ?_⟩
  refine List.forall_mem_cons.mpr ⟨sn_aload_n dX8_advance_20 rfl rfl, ?_⟩
  refine List.forall_mem_cons.mpr ⟨sn_geti mCl_8 (by decide) rfl kt_113 dX8_advance_21 rfl, ?_⟩
  refine List.forall_mem_cons.mpr ⟨sn_callV mCl_8 mt_67 rfl kt_348 kt_350 kp_1 dX8_advance_24 rfl, ?_⟩
  refine List.forall_mem_cons.mpr ⟨sn_callS mt_68 kt_352 kt_353 dX8_advance_27 rfl, ?_⟩
  refine List.forall_mem_cons.mpr ⟨sn_ifeq dX8_advance_30 (by decide) rfl, ?_⟩
  refine List.forall_mem_cons.mpr ⟨sn_aload_n dX8_advance_33 rfl rfl, ?_⟩
  refine List.forall_mem_cons.mpr ⟨sn_dup dX8_advance_34 rfl, ?_⟩
  refine List.forall_mem_cons.mpr ⟨sn_geti mCl_8 (by decide) rfl kt_113 dX8_advance_35 rfl, ?_⟩
  refine List.forall_mem_cons.mpr ⟨sn_iconst dX8_advance_38 rfl ⟨by decide, by decide⟩, ?_⟩
  refine List.forall_mem_cons.mpr ⟨sn_iadd dX8_advance_39 rfl, ?_⟩
  refine List.forall_mem_cons.mpr ⟨sn_puti mCl_8 (by decide) rfl (Or.inl rfl) kt_113 dX8_advance_40 rfl, ?_⟩
  refine List.forall_mem_cons.mpr ⟨sn_goto dX8_advance_43 (by decide), ?_⟩
  refine List.forall_mem_cons.mpr ⟨sn_aload_n dX8_advance_46 rfl rfl, ?_⟩
  refine List.forall_mem_cons.mpr ⟨sn_geti mCl_8 (by decide) rfl kt_113 dX8_advance_47 rfl, ?_⟩
  refine List.forall_mem_cons.mpr ⟨sn_aload_n dX8_advance_50 rfl rfl, ?_⟩
  refine List.forall_mem_cons.mpr ⟨sn_geti mCl_8 (by decide) rfl kt_106 dX8_advance_51 rfl, ?_⟩
  refine List.forall_mem_cons.mpr ⟨sn_icmplt dX8_advance_54 (by decide) rfl, ?_⟩
  refine List.forall_mem_cons.mpr ⟨sn_iconst dX8_advance_57 rfl ⟨by decide, by decide⟩, ?_⟩
  refine List.forall_mem_cons.mpr ⟨sn_zret rfl dX8_advance_58, ?_⟩
  refine List.forall_mem_cons.mpr ⟨sn_aload_n dX8_advance_59 rfl rfl, ?_⟩
  refine List.forall_mem_cons.mpr ⟨sn_aload_n dX8_advance_60 rfl rfl, ?_⟩
  refine List.forall_mem_cons.mpr ⟨sn_geti mCl_8 (by decide) rfl kt_113 dX8_advance_61 rfl, ?_⟩
  refine List.forall_mem_cons.mpr ⟨sn_callV mCl_8 mt_67 rfl kt_348 kt_350 kp_1 dX8_advance_64 rfl, ?_⟩
  refine List.forall_mem_cons.mpr ⟨sn_istore_n dX8_advance_67 rfl rfl, ?_⟩
  refine List.forall_mem_cons.mpr ⟨sn_iload_n dX8_advance_68 rfl rfl, ?_⟩
  refine List.forall_mem_cons.mpr ⟨sn_callS mt_69 kt_355 kt_356 dX8_advance_69 rfl, ?_⟩
  refine List.forall_mem_cons.mpr ⟨sn_ifeq dX8_advance_72 (by decide) rfl, ?_⟩
  refine List.forall_mem_cons.mpr ⟨sn_aload_n dX8_advance_75 rfl rfl, ?_⟩
  refine List.forall_mem_cons.mpr ⟨sn_callV mCl_8 mt_64 rfl kt_358 kt_360 kp_2 dX8_advance_76 rfl, ?_⟩
  refine List.forall_mem_cons.mpr ⟨sn_goto dX8_advance_79 (by decide), ?_⟩
  refine List.forall_mem_cons.mpr ⟨sn_iload_n dX8_advance_82 rfl rfl, ?_⟩
  refine List.forall_mem_cons.mpr ⟨sn_callS mt_70 kt_432 kt_433 dX8_advance_83 rfl, ?_⟩
  refine List.forall_mem_cons.mpr ⟨sn_ifeq dX8_advance_86 (by decide) rfl, ?_⟩
  refine List.forall_mem_cons.mpr ⟨sn_aload_n dX8_advance_89 rfl rfl, ?_⟩
  refine List.forall_mem_cons.mpr ⟨sn_callV mCl_8 mt_65 rfl kt_435 kt_437 kp_5 dX8_advance_90 rfl, ?_⟩
  refine List.forall_mem_cons.mpr ⟨sn_goto dX8_advance_93 (by decide), ?_⟩
  refine List.forall_mem_cons.mpr ⟨sn_aload_n dX8_advance_96 rfl rfl, ?_⟩
  refine List.forall_mem_cons.mpr ⟨sn_iload_n dX8_advance_97 rfl rfl, ?_⟩
  refine List.forall_mem_cons.mpr ⟨sn_callV mCl_8 mt_66 rfl kt_439 kt_441 kp_6 dX8_advance_98 rfl, ?_⟩
  refine List.forall_mem_cons.mpr ⟨sn_iconst dX8_advance_101 rfl ⟨by decide, by decide⟩, ?_⟩
  refine List.forall_mem_cons.mpr ⟨sn_zret rfl dX8_advance_102, ?_⟩
  exact List.forall_mem_nil _
theorem sX8_scanWord : ∀ q ∈ tX8_scanWord, mSnd mInf iX8_scanWord q.1 q.2 := by
  unfold tX8_scanWord
  refine List.forall_mem_cons.mpr ⟨sn_aload_n dX8_scanWord_0 rfl rfl, ?_⟩
  refine List.forall_mem_cons.mpr ⟨sn_aload_n dX8_scanWord_1 rfl rfl, ?_⟩
  refine List.forall_mem_cons.mpr ⟨sn_geti mCl_8 (by decide) rfl kt_113 dX8_scanWord_2 rfl, ?_⟩
  refine List.forall_mem_cons.mpr ⟨sn_iconst dX8_scanWord_5 rfl ⟨by decide, by decide⟩, ?_⟩
  refine List.forall_mem_cons.mpr ⟨sn_iadd dX8_scanWord_6 rfl, ?_⟩
  refine List.forall_mem_cons.mpr ⟨sn_puti mCl_8 (by decide) rfl (Or.inl rfl) kt_115 dX8_scanWord_7 rfl, ?_⟩
  refine List.forall_mem_cons.mpr ⟨sn_aload_n dX8_scanWord_10 rfl rfl, ?_⟩
  refine List.forall_mem_cons.mpr ⟨sn_geti mCl_8 (by decide) rfl kt_115 dX8_scanWord_11 rfl, ?_⟩
  refine List.forall_mem_cons.mpr ⟨sn_aload_n dX8_scanWord_14 rfl rfl, ?_⟩
  refine List.forall_mem_cons.mpr ⟨sn_geti mCl_8 (by decide) rfl kt_106 dX8_scanWord_15 rfl, ?_⟩
  refine List.forall_mem_cons.mpr ⟨sn_icmpge dX8_scanWord_18 (by decide) rfl, ?_⟩
  refine List.forall_mem_cons.mpr ⟨sn_aload_n dX8_scanWord_21 rfl rfl, ?_⟩
  refine List.forall_mem_cons.mpr ⟨sn_aload_n dX8_scanWord_22 rfl rfl, ?_⟩
  refine List.forall_mem_cons.mpr ⟨sn_geti mCl_8 (by decide) rfl kt_115 dX8_scanWord_23 rfl, ?_⟩
  refine List.forall_mem_cons.mpr ⟨sn_callV mCl_8 mt_67 rfl kt_348 kt_350 kp_1 dX8_scanWord_26 rfl, ?_⟩
  refine List.forall_mem_cons.mpr ⟨sn_callS mt_69 kt_355 kt_356 dX8_scanWord_29 rfl, ?_⟩
  refine List.forall_mem_cons.mpr ⟨sn_ifeq dX8_scanWord_32 (by decide) rfl, ?_⟩
  refine List.forall_mem_cons.mpr ⟨sn_aload_n dX8_scanWord_35 rfl rfl, ?_⟩
  refine List.forall_mem_cons.mpr ⟨sn_dup dX8_scanWord_36 rfl, ?_⟩
  refine List.forall_mem_cons.mpr ⟨sn_geti mCl_8 (by decide) rfl kt_115 dX8_scanWord_37 rfl, ?_⟩
  refine List.forall_mem_cons.mpr ⟨sn_iconst dX8_scanWord_40 rfl ⟨by decide, by decide⟩, ?_⟩
  refine List.forall_mem_cons.mpr ⟨sn_iadd dX8_scanWord_41 rfl, ?_⟩
  refine List.forall_mem_cons.mpr ⟨sn_puti mCl_8 (by decide) rfl (Or.inl rfl) kt_115 dX8_scanWord_42 rfl, ?_⟩
  refine List.forall_mem_cons.mpr ⟨sn_goto dX8_scanWord_45 (by decide), ?_⟩
  refine List.forall_mem_cons.mpr ⟨sn_aload_n dX8_scanWord_48 rfl rfl, ?_⟩
  refine List.forall_mem_cons.mpr ⟨sn_aload_n dX8_scanWord_49 rfl rfl, ?_⟩
  refine List.forall_mem_cons.mpr ⟨sn_geti mCl_8 (by decide) rfl kt_115 dX8_scanWord_50 rfl, ?_⟩
  refine List.forall_mem_cons.mpr ⟨sn_aload_n dX8_scanWord_53 rfl rfl, ?_⟩
  refine List.forall_mem_cons.mpr ⟨sn_geti mCl_8 (by decide) rfl kt_113 dX8_scanWord_54 rfl, ?_⟩
  refine List.forall_mem_cons.mpr ⟨sn_isub dX8_scanWord_57 rfl, ?_⟩
  refine List.forall_mem_cons.mpr ⟨sn_bipush dX8_scanWord_58 rfl (by decide) ⟨by decide, by decide⟩, ?_⟩
  refine List.forall_mem_cons.mpr ⟨sn_icmple dX8_scanWord_60 (by decide) rfl, ?_⟩
  refine List.forall_mem_cons.mpr ⟨sn_iconst dX8_scanWord_63 rfl ⟨by decide, by decide⟩, ?_⟩
  refine List.forall_mem_cons.mpr ⟨sn_goto dX8_scanWord_64 (by decide), ?_⟩
  refine List.forall_mem_cons.mpr ⟨sn_aload_n dX8_scanWord_67 rfl rfl, ?_⟩
  refine List.forall_mem_cons.mpr ⟨sn_callV mCl_8 mt_73 rfl kt_362 kt_364 kp_3 dX8_scanWord_68 rfl, ?_⟩
  refine List.forall_mem_cons.mpr ⟨sn_puti mCl_8 (by decide) rfl (Or.inl rfl) kt_109 dX8_scanWord_71 rfl, ?_⟩
  refine List.forall_mem_cons.mpr ⟨sn_vret rfl dX8_scanWord_74, ?_⟩
  exact List.forall_mem_nil _
theorem sX8_scanInt : ∀ q ∈ tX8_scanInt, mSnd mInf iX8_scanInt q.1 q.2 := by
  unfold tX8_scanInt
  refine List.forall_mem_cons.mpr ⟨sn_aload_n dX8_scanInt_0 rfl rfl, ?_⟩
  refine List.forall_mem_cons.mpr ⟨sn_iconst dX8_scanInt_1 rfl ⟨by decide, by decide⟩, ?_⟩
  refine List.forall_mem_cons.mpr ⟨sn_puti mCl_8 (by decide) rfl (Or.inl rfl) kt_111 dX8_scanInt_2 rfl, ?_⟩
  refine List.forall_mem_cons.mpr ⟨sn_aload_n dX8_scanInt_5 rfl rfl, ?_⟩
  refine List.forall_mem_cons.mpr ⟨sn_aload_n dX8_scanInt_6 rfl rfl, ?_⟩
  refine List.forall_mem_cons.mpr ⟨sn_geti mCl_8 (by decide) rfl kt_113 dX8_scanInt_7 rfl, ?_⟩
  refine List.forall_mem_cons.mpr ⟨sn_puti mCl_8 (by decide) rfl (Or.inl rfl) kt_115 dX8_scanInt_10 rfl, ?_⟩
  refine List.forall_mem_cons.mpr ⟨sn_aload_n dX8_scanInt_13 rfl rfl, ?_⟩
  refine List.forall_mem_cons.mpr ⟨sn_geti mCl_8 (by decide) rfl kt_115 dX8_scanInt_14 rfl, ?_⟩
  refine List.forall_mem_cons.mpr ⟨sn_aload_n dX8_scanInt_17 rfl rfl, ?_⟩
  refine List.forall_mem_cons.mpr ⟨sn_geti mCl_8 (by decide) rfl kt_106 dX8_scanInt_18 rfl, ?_⟩
  refine List.forall_mem_cons.mpr ⟨sn_icmpge dX8_scanInt_21 (by decide) rfl, ?_⟩
  refine List.forall_mem_cons.mpr ⟨sn_aload_n dX8_scanInt_24 rfl rfl, ?_⟩
  refine List.forall_mem_cons.mpr ⟨sn_aload_n dX8_scanInt_25 rfl rfl, ?_⟩
  refine List.forall_mem_cons.mpr ⟨sn_geti mCl_8 (by decide) rfl kt_115 dX8_scanInt_26 rfl, ?_⟩
  refine List.forall_mem_cons.mpr ⟨sn_callV mCl_8 mt_67 rfl kt_348 kt_350 kp_1 dX8_scanInt_29 rfl, ?_⟩
  refine List.forall_mem_cons.mpr ⟨sn_callS mt_70 kt_432 kt_433 dX8_scanInt_32 rfl, ?_⟩
  refine List.forall_mem_cons.mpr ⟨sn_ifeq dX8_scanInt_35 (by decide) rfl, ?_⟩
  refine List.forall_mem_cons.mpr ⟨sn_aload_n dX8_scanInt_38 rfl rfl, ?_⟩
  refine List.forall_mem_cons.mpr ⟨sn_aload_n dX8_scanInt_39 rfl rfl, ?_⟩
  refine List.forall_mem_cons.mpr ⟨sn_geti mCl_8 (by decide) rfl kt_111 dX8_scanInt_40 rfl, ?_⟩
  refine List.forall_mem_cons.mpr ⟨sn_bipush dX8_scanInt_43 rfl (by decide) ⟨by decide, by decide⟩, ?_⟩
  refine List.forall_mem_cons.mpr ⟨sn_imul dX8_scanInt_45 rfl, ?_⟩
  refine List.forall_mem_cons.mpr ⟨sn_aload_n dX8_scanInt_46 rfl rfl, ?_⟩
  refine List.forall_mem_cons.mpr ⟨sn_aload_n dX8_scanInt_47 rfl rfl, ?_⟩
  refine List.forall_mem_cons.mpr ⟨sn_geti mCl_8 (by decide) rfl kt_115 dX8_scanInt_48 rfl, ?_⟩
  refine List.forall_mem_cons.mpr ⟨sn_callV mCl_8 mt_67 rfl kt_348 kt_350 kp_1 dX8_scanInt_51 rfl, ?_⟩
  refine List.forall_mem_cons.mpr ⟨sn_iadd dX8_scanInt_54 rfl, ?_⟩
  refine List.forall_mem_cons.mpr ⟨sn_bipush dX8_scanInt_55 rfl (by decide) ⟨by decide, by decide⟩, ?_⟩
  refine List.forall_mem_cons.mpr ⟨sn_isub dX8_scanInt_57 rfl, ?_⟩
  refine List.forall_mem_cons.mpr ⟨sn_puti mCl_8 (by decide) rfl (Or.inl rfl) kt_111 dX8_scanInt_58 rfl, ?_⟩
  refine List.forall_mem_cons.mpr ⟨sn_aload_n dX8_scanInt_61 rfl rfl, ?_⟩
  refine List.forall_mem_cons.mpr ⟨sn_dup dX8_scanInt_62 rfl, ?_⟩
  refine List.forall_mem_cons.mpr ⟨sn_geti mCl_8 (by decide) rfl kt_115 dX8_scanInt_63 rfl, ?_⟩
  refine List.forall_mem_cons.mpr ⟨sn_iconst dX8_scanInt_66 rfl ⟨by decide, by decide⟩, ?_⟩
  refine List.forall_mem_cons.mpr ⟨sn_iadd dX8_scanInt_67 rfl, ?_⟩
  refine List.forall_mem_cons.mpr ⟨sn_puti mCl_8 (by decide) rfl (Or.inl rfl) kt_115 dX8_scanInt_68 rfl, ?_⟩
  refine List.forall_mem_cons.mpr ⟨sn_goto dX8_scanInt_71 (by decide), ?_⟩
  refine List.forall_mem_cons.mpr ⟨sn_aload_n dX8_scanInt_74 rfl rfl, ?_⟩
  refine List.forall_mem_cons.mpr ⟨sn_aload_n dX8_scanInt_75 rfl rfl, ?_⟩
  refine List.forall_mem_cons.mpr ⟨sn_geti mCl_8 (by decide) rfl kt_115 dX8_scanInt_76 rfl, ?_⟩
  refine List.forall_mem_cons.mpr ⟨sn_aload_n dX8_scanInt_79 rfl rfl, ?_⟩
  refine List.forall_mem_cons.mpr ⟨sn_geti mCl_8 (by decide) rfl kt_113 dX8_scanInt_80 rfl, ?_⟩
  refine List.forall_mem_cons.mpr ⟨sn_isub dX8_scanInt_83 rfl, ?_⟩
  refine List.forall_mem_cons.mpr ⟨sn_iconst dX8_scanInt_84 rfl ⟨by decide, by decide⟩, ?_⟩
  refine List.forall_mem_cons.mpr ⟨sn_icmple dX8_scanInt_85 (by decide) rfl, ?_⟩
  refine List.forall_mem_cons.mpr ⟨sn_iconst dX8_scanInt_88 rfl ⟨by decide, by decide⟩, ?_⟩
  refine List.forall_mem_cons.mpr ⟨sn_goto dX8_scanInt_89 (by decide), ?_⟩
  refine List.forall_mem_cons.mpr ⟨sn_iconst dX8_scanInt_92 rfl ⟨by decide, by decide⟩, ?_⟩
  refine List.forall_mem_cons.mpr ⟨sn_puti mCl_8 (by decide) rfl (Or.inl rfl) kt_109 dX8_scanInt_93 rfl, ?_⟩
  refine List.forall_mem_cons.mpr ⟨sn_vret rfl dX8_scanInt_96, ?_⟩
  exact List.forall_mem_nil _
theorem sX8_scanSign : ∀ q ∈ tX8_scanSign, mSnd mInf iX8_scanSign q.1 q.2 := by
  unfold tX8_scanSign
  refine List.forall_mem_cons.mpr ⟨sn_aload_n dX8_scanSign_0 rfl rfl, ?_⟩
  refine List.forall_mem_cons.mpr ⟨sn_aload_n dX8_scanSign_1 rfl rfl, ?_⟩
  refine List.forall_mem_cons.mpr ⟨sn_geti mCl_8 (by decide) rfl kt_113 dX8_scanSign_2 rfl, ?_⟩
  refine List.forall_mem_cons.mpr ⟨sn_iconst dX8_scanSign_5 rfl ⟨by decide, by decide⟩, ?_⟩
  refine List.forall_mem_cons.mpr ⟨sn_iadd dX8_scanSign_6 rfl, ?_⟩
  refine List.forall_mem_cons.mpr ⟨sn_callV mCl_8 mt_67 rfl kt_348 kt_350 kp_1 dX8_scanSign_7 rfl, ?_⟩
  refine List.forall_mem_cons.mpr ⟨sn_bipush dX8_scanSign_10 rfl (by decide) ⟨by decide, by decide⟩, ?_⟩
  refine List.forall_mem_cons.mpr ⟨sn_icmpne dX8_scanSign_12 (by decide) rfl, ?_⟩
  refine List.forall_mem_cons.mpr ⟨sn_iconst dX8_scanSign_15 rfl ⟨by decide, by decide⟩, ?_⟩
  refine List.forall_mem_cons.mpr ⟨sn_goto dX8_scanSign_16 (by decide), ?_⟩
  refine List.forall_mem_cons.mpr ⟨sn_iconst dX8_scanSign_19 rfl ⟨by decide, by decide⟩, ?_⟩
  refine List.forall_mem_cons.mpr ⟨sn_istore_n dX8_scanSign_20 rfl rfl, ?_⟩
  refine List.forall_mem_cons.mpr ⟨sn_aload_n dX8_scanSign_21 rfl rfl, ?_⟩
  refine List.forall_mem_cons.mpr ⟨sn_iload_n dX8_scanSign_22 rfl rfl, ?_⟩
  refine List.forall_mem_cons.mpr ⟨sn_ifeq dX8_scanSign_23 (by decide) rfl, ?_⟩
  refine List.forall_mem_cons.mpr ⟨sn_iload_n dX8_scanSign_26 rfl rfl, ?_⟩
  refine List.forall_mem_cons.mpr ⟨sn_callS mt_71 kt_443 kt_444 dX8_scanSign_27 rfl, ?_⟩
  refine List.forall_mem_cons.mpr ⟨sn_goto dX8_scanSign_30 (by decide), ?_⟩
  refine List.forall_mem_cons.mpr ⟨sn_iconst dX8_scanSign_33 rfl ⟨by decide, by decide⟩, ?_⟩
  refine List.forall_mem_cons.mpr ⟨sn_puti mCl_8 (by decide) rfl (Or.inl rfl) kt_109 dX8_scanSign_34 rfl, ?_⟩
  refine List.forall_mem_cons.mpr ⟨sn_aload_n dX8_scanSign_37 rfl rfl, ?_⟩
  refine List.forall_mem_cons.mpr ⟨sn_aload_n dX8_scanSign_38 rfl rfl, ?_⟩
  refine List.forall_mem_cons.mpr ⟨sn_geti mCl_8 (by decide) rfl kt_113 dX8_scanSign_39 rfl, ?_⟩
  refine List.forall_mem_cons.mpr ⟨sn_iconst dX8_scanSign_42 rfl ⟨by decide, by decide⟩, ?_⟩
  refine List.forall_mem_cons.mpr ⟨sn_iadd dX8_scanSign_43 rfl, ?_⟩
  refine List.forall_mem_cons.mpr ⟨sn_puti mCl_8 (by decide) rfl (Or.inl rfl) kt_115 dX8_scanSign_44 rfl, ?_⟩
  refine List.forall_mem_cons.mpr ⟨sn_aload_n dX8_scanSign_47 rfl rfl, ?_⟩
  refine List.forall_mem_cons.mpr ⟨sn_geti mCl_8 (by decide) rfl kt_109 dX8_scanSign_48 rfl, ?_⟩
  refine List.forall_mem_cons.mpr ⟨sn_ifne dX8_scanSign_51 (by decide) rfl, ?_⟩
  refine List.forall_mem_cons.mpr ⟨sn_aload_n dX8_scanSign_54 rfl rfl, ?_⟩
  refine List.forall_mem_cons.mpr ⟨sn_iload_n dX8_scanSign_55 rfl rfl, ?_⟩
  refine List.forall_mem_cons.mpr ⟨sn_callS mt_72 kt_446 kt_447 dX8_scanSign_56 rfl, ?_⟩
  refine List.forall_mem_cons.mpr ⟨sn_puti mCl_8 (by decide) rfl (Or.inl rfl) kt_109 dX8_scanSign_59 rfl, ?_⟩
  refine List.forall_mem_cons.mpr ⟨sn_aload_n dX8_scanSign_62 rfl rfl, ?_⟩
  refine List.forall_mem_cons.mpr ⟨sn_aload_n dX8_scanSign_63 rfl rfl, ?_⟩
  refine List.forall_mem_cons.mpr ⟨sn_geti mCl_8 (by decide) rfl kt_113 dX8_scanSign_64 rfl, ?_⟩
  refine List.forall_mem_cons.mpr ⟨sn_iconst dX8_scanSign_67 rfl ⟨by decide, by decide⟩, ?_⟩
  refine List.forall_mem_cons.mpr ⟨sn_iadd dX8_scanSign_68 rfl, ?_⟩
  refine List.forall_mem_cons.mpr ⟨sn_puti mCl_8 (by decide) rfl (Or.inl rfl) kt_115 dX8_scanSign_69 rfl, ?_⟩
  refine List.forall_mem_cons.mpr ⟨sn_vret rfl dX8_scanSign_72, ?_⟩
  exact List.forall_mem_nil _
theorem sX8_byteAt : ∀ q ∈ tX8_byteAt, mSnd mInf iX8_byteAt q.1 q.2 := by
  unfold tX8_byteAt
  refine List.forall_mem_cons.mpr ⟨sn_iload_n dX8_byteAt_0 rfl rfl, ?_⟩
  refine List.forall_mem_cons.mpr ⟨sn_iflt dX8_byteAt_1 (by decide) rfl, ?_⟩
  refine List.forall_mem_cons.mpr ⟨sn_iload_n dX8_byteAt_4 rfl rfl, ?_⟩
  refine List.forall_mem_cons.mpr ⟨sn_aload_n dX8_byteAt_5 rfl rfl, ?_⟩
  refine List.forall_mem_cons.mpr ⟨sn_geti mCl_8 (by decide) rfl kt_106 dX8_byteAt_6 rfl, ?_⟩
  refine List.forall_mem_cons.mpr ⟨sn_icmpge dX8_byteAt_9 (by decide) rfl, ?_⟩
  refine List.forall_mem_cons.mpr ⟨sn_iload_n dX8_byteAt_12 rfl rfl, ?_⟩
  refine List.forall_mem_cons.mpr ⟨sn_aload_n dX8_byteAt_13 rfl rfl, ?_⟩
  refine List.forall_mem_cons.mpr ⟨sn_getr mCl_8 (by decide) rfl kt_116 dX8_byteAt_14 rfl, ?_⟩
  refine List.forall_mem_cons.mpr ⟨sn_alen dX8_byteAt_17 rfl, ?_⟩
  refine List.forall_mem_cons.mpr ⟨sn_icmpge dX8_byteAt_18 (by decide) rfl, ?_⟩
  refine List.forall_mem_cons.mpr ⟨sn_aload_n dX8_byteAt_21 rfl rfl, ?_⟩
  refine List.forall_mem_cons.mpr ⟨sn_getr mCl_8 (by decide) rfl kt_116 dX8_byteAt_22 rfl, ?_⟩
  refine List.forall_mem_cons.mpr ⟨sn_iload_n dX8_byteAt_25 rfl rfl, ?_⟩
  refine List.forall_mem_cons.mpr ⟨sn_bald dX8_byteAt_26 rfl, ?_⟩
  refine List.forall_mem_cons.mpr ⟨sn_goto dX8_byteAt_27 (by decide), ?_⟩
  refine List.forall_mem_cons.mpr ⟨sn_iconst dX8_byteAt_30 rfl ⟨by decide, by decide⟩, ?_⟩
  refine List.forall_mem_cons.mpr ⟨sn_iret rfl dX8_byteAt_31, ?_⟩
  exact List.forall_mem_nil _
theorem sX8_isBlank : ∀ q ∈ tX8_isBlank, mSnd mInf iX8_isBlank q.1 q.2 := by
  unfold tX8_isBlank
  refine List.forall_mem_cons.mpr ⟨sn_iload_n dX8_isBlank_0 rfl rfl, ?_⟩
  refine List.forall_mem_cons.mpr ⟨sn_bipush dX8_isBlank_1 rfl (by decide) ⟨by decide, by decide⟩, ?_⟩
  refine List.forall_mem_cons.mpr ⟨sn_icmpeq dX8_isBlank_3 (by decide) rfl, ?_⟩
  refine List.forall_mem_cons.mpr ⟨sn_iload_n dX8_isBlank_6 rfl rfl, ?_⟩
  refine List.forall_mem_cons.mpr ⟨sn_bipush dX8_isBlank_7 rfl (by decide) ⟨by decide, by decide⟩, ?_⟩
  refine List.forall_mem_cons.mpr ⟨sn_icmpeq dX8_isBlank_9 (by decide) rfl, ?_⟩
  refine List.forall_mem_cons.mpr ⟨sn_iload_n dX8_isBlank_12 rfl rfl, ?_⟩
  refine List.forall_mem_cons.mpr ⟨sn_bipush dX8_isBlank_13 rfl (by decide) ⟨by decide, by decide⟩, ?_⟩
  refine List.forall_mem_cons.mpr ⟨sn_icmpeq dX8_isBlank_15 (by decide) rfl, ?_⟩
  refine List.forall_mem_cons.mpr ⟨sn_iload_n dX8_isBlank_18 rfl rfl, ?_⟩
  refine List.forall_mem_cons.mpr ⟨sn_bipush dX8_isBlank_19 rfl (by decide) ⟨by decide, by decide⟩, ?_⟩
  refine List.forall_mem_cons.mpr ⟨sn_icmpne dX8_isBlank_21 (by decide) rfl, ?_⟩
  refine List.forall_mem_cons.mpr ⟨sn_iconst dX8_isBlank_24 rfl ⟨by decide, by decide⟩, ?_⟩
  refine List.forall_mem_cons.mpr ⟨sn_goto dX8_isBlank_25 (by decide), ?_⟩
  refine List.forall_mem_cons.mpr ⟨sn_iconst dX8_isBlank_28 rfl ⟨by decide, by decide⟩, ?_⟩
  refine List.forall_mem_cons.mpr ⟨sn_zret rfl dX8_isBlank_29, ?_⟩
  exact List.forall_mem_nil _
theorem sX8_isLetter : ∀ q ∈ tX8_isLetter, mSnd mInf iX8_isLetter q.1 q.2 := by
  unfold tX8_isLetter
  refine List.forall_mem_cons.mpr ⟨sn_iload_n dX8_isLetter_0 rfl rfl, ?_⟩
  refine List.forall_mem_cons.mpr ⟨sn_bipush dX8_isLetter_1 rfl (by decide) ⟨by decide, by decide⟩, ?_⟩
  refine List.forall_mem_cons.mpr ⟨sn_icmplt dX8_isLetter_3 (by decide) rfl, ?_⟩
  refine List.forall_mem_cons.mpr ⟨sn_iload_n dX8_isLetter_6 rfl rfl, ?_⟩
  refine List.forall_mem_cons.mpr ⟨sn_bipush dX8_isLetter_7 rfl (by decide) ⟨by decide, by decide⟩, ?_⟩
  refine List.forall_mem_cons.mpr ⟨sn_icmpgt dX8_isLetter_9 (by decide) rfl, ?_⟩
  refine List.forall_mem_cons.mpr ⟨sn_iconst dX8_isLetter_12 rfl ⟨by decide, by decide⟩, ?_⟩
  refine List.forall_mem_cons.mpr ⟨sn_goto dX8_isLetter_13 (by decide), ?_⟩
  refine List.forall_mem_cons.mpr ⟨sn_iconst dX8_isLetter_16 rfl ⟨by decide, by decide⟩, ?_⟩
  refine List.forall_mem_cons.mpr ⟨sn_zret rfl dX8_isLetter_17, ?_⟩
  exact List.forall_mem_nil _
theorem sX8_isDigit : ∀ q ∈ tX8_isDigit, mSnd mInf iX8_isDigit q.1 q.2 := by
  unfold tX8_isDigit
  refine List.forall_mem_cons.mpr ⟨sn_iload_n dX8_isDigit_0 rfl rfl, ?_⟩
  refine List.forall_mem_cons.mpr ⟨sn_bipush dX8_isDigit_1 rfl (by decide) ⟨by decide, by decide⟩, ?_⟩
  refine List.forall_mem_cons.mpr ⟨sn_icmplt dX8_isDigit_3 (by decide) rfl, ?_⟩
  refine List.forall_mem_cons.mpr ⟨sn_iload_n dX8_isDigit_6 rfl rfl, ?_⟩
  refine List.forall_mem_cons.mpr ⟨sn_bipush dX8_isDigit_7 rfl (by decide) ⟨by decide, by decide⟩, ?_⟩
  refine List.forall_mem_cons.mpr ⟨sn_icmpgt dX8_isDigit_9 (by decide) rfl, ?_⟩
  refine List.forall_mem_cons.mpr ⟨sn_iconst dX8_isDigit_12 rfl ⟨by decide, by decide⟩, ?_⟩
  refine List.forall_mem_cons.mpr ⟨sn_goto dX8_isDigit_13 (by decide), ?_⟩
  refine List.forall_mem_cons.mpr ⟨sn_iconst dX8_isDigit_16 rfl ⟨by decide, by decide⟩, ?_⟩
  refine List.forall_mem_cons.mpr ⟨sn_zret rfl dX8_isDigit_17, ?_⟩
  exact List.forall_mem_nil _
theorem sX8_kindOfPair : ∀ q ∈ tX8_kindOfPair, mSnd mInf iX8_kindOfPair q.1 q.2 := by
  unfold tX8_kindOfPair
  refine List.forall_mem_cons.mpr ⟨sn_iload_n dX8_kindOfPair_0 rfl rfl, ?_⟩
  refine List.forall_mem_cons.mpr ⟨sn_lsw dX8_kindOfPair_1 (by decide) rfl (by decide), ?_⟩
  refine List.forall_mem_cons.mpr ⟨sn_bipush dX8_kindOfPair_36 rfl (by decide) ⟨by decide, by decide⟩, ?_⟩
  refine List.forall_mem_cons.mpr ⟨sn_iret rfl dX8_kindOfPair_38, ?_⟩
  refine List.forall_mem_cons.mpr ⟨sn_bipush dX8_kindOfPair_39 rfl (by decide) ⟨by decide, by decide⟩, ?_⟩
  refine List.forall_mem_cons.mpr ⟨sn_iret rfl dX8_kindOfPair_41, ?_⟩
  refine List.forall_mem_cons.mpr ⟨sn_bipush dX8_kindOfPair_42 rfl (by decide) ⟨by decide, by decide⟩, ?_⟩
  refine List.forall_mem_cons.mpr ⟨sn_iret rfl dX8_kindOfPair_44, ?_⟩
  refine List.forall_mem_cons.mpr ⟨sn_iconst dX8_kindOfPair_45 rfl ⟨by decide, by decide⟩, ?_⟩
  refine List.forall_mem_cons.mpr ⟨sn_iret rfl dX8_kindOfPair_46, ?_⟩
  exact List.forall_mem_nil _
theorem sX8_kindOfSign : ∀ q ∈ tX8_kindOfSign, mSnd mInf iX8_kindOfSign q.1 q.2 := by
  unfold tX8_kindOfSign
  refine List.forall_mem_cons.mpr ⟨sn_iload_n dX8_kindOfSign_0 rfl rfl, ?_⟩
  refine List.forall_mem_cons.mpr ⟨sn_tsw dX8_kindOfSign_1 (by decide) (by decide) rfl, ?_⟩
  refine List.forall_mem_cons.mpr ⟨sn_bipush dX8_kindOfSign_100 rfl (by decide) ⟨by decide, by decide⟩, ?_⟩
  refine List.forall_mem_cons.mpr ⟨sn_iret rfl dX8_kindOfSign_102, ?_⟩
  refine List.forall_mem_cons.mpr ⟨sn_bipush dX8_kindOfSign_103 rfl (by decide) ⟨by decide, by decide⟩, ?_⟩
  refine List.forall_mem_cons.mpr ⟨sn_iret rfl dX8_kindOfSign_105, ?_⟩
  refine List.forall_mem_cons.mpr ⟨sn_bipush dX8_kindOfSign_106 rfl (by decide) ⟨by decide, by decide⟩, ?_⟩
  refine List.forall_mem_cons.mpr ⟨sn_iret rfl dX8_kindOfSign_108, ?_⟩
  refine List.forall_mem_cons.mpr ⟨sn_bipush dX8_kindOfSign_109 rfl (by decide) ⟨by decide, by decide⟩, ?_⟩
  refine List.forall_mem_cons.mpr ⟨sn_iret rfl dX8_kindOfSign_111, ?_⟩
  refine List.forall_mem_cons.mpr ⟨sn_bipush dX8_kindOfSign_112 rfl (by decide) ⟨by decide, by decide⟩, ?_⟩
  refine List.forall_mem_cons.mpr ⟨sn_iret rfl dX8_kindOfSign_114, ?_⟩
  refine List.forall_mem_cons.mpr ⟨sn_bipush dX8_kindOfSign_115 rfl (by decide) ⟨by decide, by decide⟩, ?_⟩
  refine List.forall_mem_cons.mpr ⟨sn_iret rfl dX8_kindOfSign_117, ?_⟩
  refine List.forall_mem_cons.mpr ⟨sn_bipush dX8_kindOfSign_118 rfl (by decide) ⟨by decide, by decide⟩, ?_⟩
  refine List.forall_mem_cons.mpr ⟨sn_iret rfl dX8_kindOfSign_120, ?_⟩
  refine List.forall_mem_cons.mpr ⟨sn_iconst dX8_kindOfSign_121 rfl ⟨by decide, by decide⟩, ?_⟩
  refine List.forall_mem_cons.mpr ⟨sn_iret rfl dX8_kindOfSign_122, ?_⟩
  exact List.forall_mem_nil _
