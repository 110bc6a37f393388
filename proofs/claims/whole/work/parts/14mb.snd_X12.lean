theorem sX12_over : ∀ q ∈ tX12_over, mSnd mInf iX12_over q.1 q.2 := by
  unfold tX12_over
  refine List.forall_mem_cons.mpr ⟨sn_aload_n dX12_over_0 rfl rfl, ?_⟩
  refine List.forall_mem_cons.mpr ⟨sn_geti mCl_12 (by decide) rfl kt_1073 dX12_over_1 rfl, ?_⟩
  refine List.forall_mem_cons.mpr ⟨sn_sipush dX12_over_4 rfl (by decide) ⟨by decide, by decide⟩, ?_⟩
  refine List.forall_mem_cons.mpr ⟨sn_icmpeq dX12_over_7 (by decide) rfl, ?_⟩
  refine List.forall_mem_cons.mpr ⟨sn_aload_n dX12_over_10 rfl rfl, ?_⟩
  refine List.forall_mem_cons.mpr ⟨sn_iload_n dX12_over_11 rfl rfl, ?_⟩
  refine List.forall_mem_cons.mpr ⟨sn_callV mCl_12 mt_146 rfl kt_1379 kt_1381 kp_54 dX12_over_12 rfl, ?_⟩
  refine List.forall_mem_cons.mpr ⟨sn_ifeq dX12_over_15 (by decide) rfl, ?_⟩
  refine List.forall_mem_cons.mpr ⟨sn_iload_n dX12_over_18 rfl rfl, ?_⟩
  refine List.forall_mem_cons.mpr ⟨sn_iconst dX12_over_19 rfl ⟨by decide, by decide⟩, ?_⟩
  refine List.forall_mem_cons.mpr ⟨sn_icmplt dX12_over_20 (by decide) rfl, ?_⟩
  refine List.forall_mem_cons.mpr ⟨sn_iload_n dX12_over_23 rfl rfl, ?_⟩
  refine List.forall_mem_cons.mpr ⟨sn_sipush dX12_over_24 rfl (by decide) ⟨by decide, by decide⟩, ?_⟩
  refine List.forall_mem_cons.mpr ⟨sn_icmpgt dX12_over_27 (by decide) rfl, ?_⟩
  refine List.forall_mem_cons.mpr ⟨sn_iload_n dX12_over_30 rfl rfl, ?_⟩
  refine List.forall_mem_cons.mpr ⟨sn_iconst dX12_over_31 rfl ⟨by decide, by decide⟩, ?_⟩
  refine List.forall_mem_cons.mpr ⟨sn_icmplt dX12_over_32 (by decide) rfl, ?_⟩
  refine List.forall_mem_cons.mpr ⟨sn_iload_n dX12_over_35 rfl rfl, ?_⟩
  refine List.forall_mem_cons.mpr ⟨sn_bipush dX12_over_36 rfl (by decide) ⟨by decide, by decide⟩, ?_⟩
  refine List.forall_mem_cons.mpr ⟨sn_icmple dX12_over_38 (by decide) rfl, ?_⟩
  refine List.forall_mem_cons.mpr ⟨sn_iconst dX12_over_41 rfl ⟨by decide, by decide⟩, ?_⟩
  refine List.forall_mem_cons.mpr ⟨sn_iret rfl dX12_over_42, ?_⟩
  refine List.forall_mem_cons.mpr ⟨sn_aload_n dX12_over_43 rfl rfl, ?_⟩
  refine List.forall_mem_cons.mpr ⟨sn_getr mCl_12 (by decide) rfl kt_1074 dX12_over_44 rfl, ?_⟩
  refine List.forall_mem_cons.mpr ⟨sn_aload_n dX12_over_47 rfl rfl, ?_⟩
  refine List.forall_mem_cons.mpr ⟨sn_geti mCl_12 (by decide) rfl kt_1073 dX12_over_48 rfl, ?_⟩
  refine List.forall_mem_cons.mpr ⟨sn_iconst dX12_over_51 rfl ⟨by decide, by decide⟩, ?_⟩
  refine List.forall_mem_cons.mpr ⟨sn_zast dX12_over_52 rfl, ?_⟩
  refine List.forall_mem_cons.mpr ⟨sn_aload_n dX12_over_53 rfl rfl, ?_⟩
  refine List.forall_mem_cons.mpr ⟨sn_getr mCl_12 (by decide) rfl kt_1076 dX12_over_54 rfl, ?_⟩
  refine List.forall_mem_cons.mpr ⟨sn_aload_n dX12_over_57 rfl rfl, ?_⟩
  refine List.forall_mem_cons.mpr ⟨sn_geti mCl_12 (by decide) rfl kt_1073 dX12_over_58 rfl, ?_⟩
  refine List.forall_mem_cons.mpr ⟨sn_iload_n dX12_over_61 rfl rfl, ?_⟩
  refine List.forall_mem_cons.mpr ⟨sn_iast dX12_over_62 rfl, ?_⟩
  refine List.forall_mem_cons.mpr ⟨sn_aload_n dX12_over_63 rfl rfl, ?_⟩
  refine List.forall_mem_cons.mpr ⟨sn_getr mCl_12 (by decide) rfl kt_1077 dX12_over_64 rfl, ?_⟩
  refine List.forall_mem_cons.mpr ⟨sn_aload_n dX12_over_67 rfl rfl, ?_⟩
  refine List.forall_mem_cons.mpr ⟨sn_geti mCl_12 (by decide) rfl kt_1073 dX12_over_68 rfl, ?_⟩
  refine List.forall_mem_cons.mpr ⟨sn_iload_n dX12_over_71 rfl rfl, ?_⟩
  refine List.forall_mem_cons.mpr ⟨sn_iast dX12_over_72 rfl, ?_⟩
  refine List.forall_mem_cons.mpr ⟨sn_aload_n dX12_over_73 rfl rfl, ?_⟩
  refine List.forall_mem_cons.mpr ⟨sn_getr mCl_12 (by decide) rfl kt_1078 dX12_over_74 rfl, ?_⟩
  refine List.forall_mem_cons.mpr ⟨sn_aload_n dX12_over_77 rfl rfl, ?_⟩
  refine List.forall_mem_cons.mpr ⟨sn_geti mCl_12 (by decide) rfl kt_1073 dX12_over_78 rfl, ?_⟩
  refine List.forall_mem_cons.mpr ⟨sn_iload_n dX12_over_81 rfl rfl, ?_⟩
  refine List.forall_mem_cons.mpr ⟨sn_iast dX12_over_82 rfl, ?_⟩
  refine List.forall_mem_cons.mpr ⟨sn_aload_n dX12_over_83 rfl rfl, ?_⟩
  refine List.forall_mem_cons.mpr ⟨sn_dup dX12_over_84 rfl, ?_⟩
  refine List.forall_mem_cons.mpr ⟨sn_geti mCl_12 (by decide) rfl kt_1073 dX12_over_85 rfl, ?_⟩
  refine List.forall_mem_cons.mpr ⟨sn_iconst dX12_over_88 rfl ⟨by decide, by decide⟩, ?_⟩
  refine List.forall_mem_cons.mpr ⟨sn_iadd dX12_over_89 rfl, ?_⟩
  refine List.forall_mem_cons.mpr ⟨sn_puti mCl_12 (by decide) rfl (Or.inl rfl) kt_1073 dX12_over_90 rfl, ?_⟩
  refine List.forall_mem_cons.mpr ⟨sn_aload_n dX12_over_93 rfl rfl, ?_⟩
  refine List.forall_mem_cons.mpr ⟨sn_geti mCl_12 (by decide) rfl kt_1073 dX12_over_94 rfl, ?_⟩
  refine List.forall_mem_cons.mpr ⟨sn_iconst dX12_over_97 rfl ⟨by decide, by decide⟩, ?_⟩
  refine List.forall_mem_cons.mpr ⟨sn_isub dX12_over_98 rfl, ?_⟩
  refine List.forall_mem_cons.mpr ⟨sn_iret rfl dX12_over_99, ?_⟩
  exact List.forall_mem_nil _
theorem sX12_recorder : ∀ q ∈ tX12_recorder, mSnd mInf iX12_recorder q.1 q.2 := by
  unfold tX12_recorder
  refine List.forall_mem_cons.mpr ⟨sn_iload_n dX12_recorder_0 rfl rfl, ?_⟩
  refine List.forall_mem_cons.mpr ⟨sn_iconst dX12_recorder_1 rfl ⟨by decide, by decide⟩, ?_⟩
  refine List.forall_mem_cons.mpr ⟨sn_icmplt dX12_recorder_2 (by decide) rfl, ?_⟩
  refine List.forall_mem_cons.mpr ⟨sn_iload_n dX12_recorder_5 rfl rfl, ?_⟩
  refine List.forall_mem_cons.mpr ⟨sn_iconst dX12_recorder_6 rfl ⟨by decide, by decide⟩, ?_⟩
  refine List.forall_mem_cons.mpr ⟨sn_icmpgt dX12_recorder_7 (by decide) rfl, ?_⟩
  refine List.forall_mem_cons.mpr ⟨sn_iload_n dX12_recorder_10 rfl rfl, ?_⟩
  refine List.forall_mem_cons.mpr ⟨sn_iflt dX12_recorder_11 (by decide) rfl, ?_⟩
  refine List.forall_mem_cons.mpr ⟨sn_iload_n dX12_recorder_14 rfl rfl, ?_⟩
  refine List.forall_mem_cons.mpr ⟨sn_bipush dX12_recorder_15 rfl (by decide) ⟨by decide, by decide⟩, ?_⟩
  refine List.forall_mem_cons.mpr ⟨sn_icmpgt dX12_recorder_17 (by decide) rfl, ?_⟩
  refine List.forall_mem_cons.mpr ⟨sn_iload_n dX12_recorder_20 rfl rfl, ?_⟩
  refine List.forall_mem_cons.mpr ⟨sn_iflt dX12_recorder_21 (by decide) rfl, ?_⟩
  refine List.forall_mem_cons.mpr ⟨sn_iload_n dX12_recorder_24 rfl rfl, ?_⟩
  refine List.forall_mem_cons.mpr ⟨sn_bipush dX12_recorder_25 rfl (by decide) ⟨by decide, by decide⟩, ?_⟩
  refine List.forall_mem_cons.mpr ⟨sn_icmpgt dX12_recorder_27 (by decide) rfl, ?_⟩
  refine List.forall_mem_cons.mpr ⟨sn_iload dX12_recorder_30 rfl, ?_⟩
  refine List.forall_mem_cons.mpr ⟨sn_iflt dX12_recorder_32 (by decide) rfl, ?_⟩
  refine List.forall_mem_cons.mpr ⟨sn_iload dX12_recorder_35 rfl, ?_⟩
  refine List.forall_mem_cons.mpr ⟨sn_sipush dX12_recorder_37 rfl (by decide) ⟨by decide, by decide⟩, ?_⟩
  refine List.forall_mem_cons.mpr ⟨sn_icmple dX12_recorder_40 (by decide) rfl, ?_⟩
  refine List.forall_mem_cons.mpr ⟨sn_iconst dX12_recorder_43 rfl ⟨by decide, by decide⟩, ?_⟩
  refine List.forall_mem_cons.mpr ⟨sn_zret rfl dX12_recorder_44, ?_⟩
  refine List.forall_mem_cons.mpr ⟨sn_aload_n dX12_recorder_45 rfl rfl, ?_⟩
  refine List.forall_mem_cons.mpr ⟨sn_iload_n dX12_recorder_46 rfl rfl, ?_⟩
  refine List.forall_mem_cons.mpr ⟨sn_puti mCl_12 (by decide) rfl (Or.inl rfl) kt_1082 dX12_recorder_47 rfl, ?_⟩
  refine List.forall_mem_cons.mpr ⟨sn_aload_n dX12_recorder_50 rfl rfl, ?_⟩
  refine List.forall_mem_cons.mpr ⟨sn_iload_n dX12_recorder_51 rfl rfl, ?_⟩
  refine List.forall_mem_cons.mpr ⟨sn_puti mCl_12 (by decide) rfl (Or.inl rfl) kt_1083 dX12_recorder_52 rfl, ?_⟩
  refine List.forall_mem_cons.mpr ⟨sn_aload_n dX12_recorder_55 rfl rfl, ?_⟩
  refine List.forall_mem_cons.mpr ⟨sn_iload_n dX12_recorder_56 rfl rfl, ?_⟩
  refine List.forall_mem_cons.mpr ⟨sn_puti mCl_12 (by decide) rfl (Or.inl rfl) kt_1084 dX12_recorder_57 rfl, ?_⟩
  refine List.forall_mem_cons.mpr ⟨sn_aload_n dX12_recorder_60 rfl rfl, ?_⟩
  refine List.forall_mem_cons.mpr ⟨sn_iload dX12_recorder_61 rfl, ?_⟩
  refine List.forall_mem_cons.mpr ⟨sn_puti mCl_12 (by decide) rfl (Or.inl rfl) kt_1085 dX12_recorder_63 rfl, ?_⟩
  refine List.forall_mem_cons.mpr ⟨sn_iconst dX12_recorder_66 rfl ⟨by decide, by decide⟩, ?_⟩
  refine List.forall_mem_cons.mpr ⟨sn_zret rfl dX12_recorder_67, ?_⟩
  exact List.forall_mem_nil _
theorem sX12_clock : ∀ q ∈ tX12_clock, mSnd mInf iX12_clock q.1 q.2 := by
  unfold tX12_clock
  refine List.forall_mem_cons.mpr ⟨sn_iload_n dX12_clock_0 rfl rfl, ?_⟩
  refine List.forall_mem_cons.mpr ⟨sn_aload_n dX12_clock_1 rfl rfl, ?_⟩
  refine List.forall_mem_cons.mpr ⟨sn_geti mCl_12 (by decide) rfl kt_1086 dX12_clock_2 rfl, ?_⟩
  refine List.forall_mem_cons.mpr ⟨sn_icmplt dX12_clock_5 (by decide) rfl, ?_⟩
  refine List.forall_mem_cons.mpr ⟨sn_iload_n dX12_clock_8 rfl rfl, ?_⟩
  refine List.forall_mem_cons.mpr ⟨sn_callS mt_147 kt_1395 kt_1396 dX12_clock_9 rfl, ?_⟩
  refine List.forall_mem_cons.mpr ⟨sn_ifne dX12_clock_12 (by decide) rfl, ?_⟩
  refine List.forall_mem_cons.mpr ⟨sn_iconst dX12_clock_15 rfl ⟨by decide, by decide⟩, ?_⟩
  refine List.forall_mem_cons.mpr ⟨sn_zret rfl dX12_clock_16, ?_⟩
  refine List.forall_mem_cons.mpr ⟨sn_aload_n dX12_clock_17 rfl rfl, ?_⟩
  refine List.forall_mem_cons.mpr ⟨sn_iload_n dX12_clock_18 rfl rfl, ?_⟩
  refine List.forall_mem_cons.mpr ⟨sn_puti mCl_12 (by decide) rfl (Or.inl rfl) kt_1086 dX12_clock_19 rfl, ?_⟩
  refine List.forall_mem_cons.mpr ⟨sn_iconst dX12_clock_22 rfl ⟨by decide, by decide⟩, ?_⟩
  refine List.forall_mem_cons.mpr ⟨sn_zret rfl dX12_clock_23, ?_⟩
  exact List.forall_mem_nil _
theorem sX12_hears : ∀ q ∈ tX12_hears, mSnd mInf iX12_hears q.1 q.2 := by
  unfold tX12_hears
  refine List.forall_mem_cons.mpr ⟨sn_iconst dX12_hears_0 rfl ⟨by decide, by decide⟩, ?_⟩
  refine List.forall_mem_cons.mpr ⟨sn_istore dX12_hears_1 rfl, ?_⟩
  refine List.forall_mem_cons.mpr ⟨sn_iload dX12_hears_3 rfl, ?_⟩
  refine List.forall_mem_cons.mpr ⟨sn_sipush dX12_hears_5 rfl (by decide) ⟨by decide, by decide⟩, ?_⟩
  refine List.forall_mem_cons.mpr ⟨sn_icmpge dX12_hears_8 (by decide) rfl, ?_⟩
  refine List.forall_mem_cons.mpr ⟨sn_aload_n dX12_hears_11 rfl rfl, ?_⟩
  refine List.forall_mem_cons.mpr ⟨sn_getr mCl_12 (by decide) rfl kt_1088 dX12_hears_12 rfl, ?_⟩
  refine List.forall_mem_cons.mpr ⟨sn_iload dX12_hears_15 rfl, ?_⟩
  refine List.forall_mem_cons.mpr ⟨sn_iconst dX12_hears_17 rfl ⟨by decide, by decide⟩, ?_⟩
  refine List.forall_mem_cons.mpr ⟨sn_iast dX12_hears_18 rfl, ?_⟩
  refine List.forall_mem_cons.mpr ⟨sn_iinc dX12_hears_19 rfl, ?_⟩
  refine List.forall_mem_cons.mpr ⟨sn_goto dX12_hears_22 (by decide), ?_⟩
  refine List.forall_mem_cons.mpr ⟨sn_iconst dX12_hears_25 rfl ⟨by decide, by decide⟩, ?_⟩
  refine List.forall_mem_cons.mpr ⟨sn_istore dX12_hears_26 rfl, ?_⟩
  refine List.forall_mem_cons.mpr ⟨sn_iload dX12_hears_28 rfl, ?_⟩
  refine List.forall_mem_cons.mpr ⟨sn_iload_n dX12_hears_30 rfl rfl, ?_⟩
  refine List.forall_mem_cons.mpr ⟨sn_icmpge dX12_hears_31 (by decide) rfl, ?_⟩
  refine List.forall_mem_cons.mpr ⟨sn_aload_n dX12_hears_34 rfl rfl, ?_⟩
  refine List.forall_mem_cons.mpr ⟨sn_getr mCl_12 (by decide) rfl kt_1074 dX12_hears_35 rfl, ?_⟩
  refine List.forall_mem_cons.mpr ⟨sn_iload dX12_hears_38 rfl, ?_⟩
  refine List.forall_mem_cons.mpr ⟨sn_zald dX12_hears_40 rfl, ?_⟩
  refine List.forall_mem_cons.mpr ⟨sn_ifne dX12_hears_41 (by decide) rfl, ?_⟩
  refine List.forall_mem_cons.mpr ⟨sn_aload_n dX12_hears_44 rfl rfl, ?_⟩
  refine List.forall_mem_cons.mpr ⟨sn_getr mCl_12 (by decide) rfl kt_1075 dX12_hears_45 rfl, ?_⟩
  refine List.forall_mem_cons.mpr ⟨sn_iload dX12_hears_48 rfl, ?_⟩
  refine List.forall_mem_cons.mpr ⟨sn_iald dX12_hears_50 rfl, ?_⟩
  refine List.forall_mem_cons.mpr ⟨sn_iload_n dX12_hears_51 rfl rfl, ?_⟩
  refine List.forall_mem_cons.mpr ⟨sn_icmpne dX12_hears_52 (by decide) rfl, ?_⟩
  refine List.forall_mem_cons.mpr ⟨sn_aload_n dX12_hears_55 rfl rfl, ?_⟩
  refine List.forall_mem_cons.mpr ⟨sn_getr mCl_12 (by decide) rfl kt_1076 dX12_hears_56 rfl, ?_⟩
  refine List.forall_mem_cons.mpr ⟨sn_iload dX12_hears_59 rfl, ?_⟩
  refine List.forall_mem_cons.mpr ⟨sn_iald dX12_hears_61 rfl, ?_⟩
  refine List.forall_mem_cons.mpr ⟨sn_iload_n dX12_hears_62 rfl rfl, ?_⟩
  refine List.forall_mem_cons.mpr ⟨sn_icmpne dX12_hears_63 (by decide) rfl, ?_⟩
  refine List.forall_mem_cons.mpr ⟨sn_aload_n dX12_hears_66 rfl rfl, ?_⟩
  refine List.forall_mem_cons.mpr ⟨sn_getr mCl_12 (by decide) rfl kt_1077 dX12_hears_67 rfl, ?_⟩
  refine List.forall_mem_cons.mpr ⟨sn_iload dX12_hears_70 rfl, ?_⟩
  refine List.forall_mem_cons.mpr ⟨sn_iald dX12_hears_72 rfl, ?_⟩
  refine List.forall_mem_cons.mpr ⟨sn_istore dX12_hears_73 rfl, ?_⟩
  refine List.forall_mem_cons.mpr ⟨sn_iload dX12_hears_75 rfl, ?_⟩
  refine List.forall_mem_cons.mpr ⟨sn_aload_n dX12_hears_77 rfl rfl, ?_⟩
  refine List.forall_mem_cons.mpr ⟨sn_getr mCl_12 (by decide) rfl kt_1078 dX12_hears_78 rfl, ?_⟩
  refine List.forall_mem_cons.mpr ⟨sn_iload dX12_hears_81 rfl, ?_⟩
  refine List.forall_mem_cons.mpr ⟨sn_iald dX12_hears_83 rfl, ?_⟩
  refine List.forall_mem_cons.mpr ⟨sn_icmpge dX12_hears_84 (by decide) rfl, ?_⟩
  refine List.forall_mem_cons.mpr ⟨sn_aload_n dX12_hears_87 rfl rfl, ?_⟩
  refine List.forall_mem_cons.mpr ⟨sn_getr mCl_12 (by decide) rfl kt_1088 dX12_hears_88 rfl, ?_⟩
  refine List.forall_mem_cons.mpr ⟨sn_iload dX12_hears_91 rfl, ?_⟩
  refine List.forall_mem_cons.mpr ⟨sn_iload dX12_hears_93 rfl, ?_⟩
  refine List.forall_mem_cons.mpr ⟨sn_iast dX12_hears_95 rfl, ?_⟩
  refine List.forall_mem_cons.mpr ⟨sn_iinc dX12_hears_96 rfl, ?_⟩
  refine List.forall_mem_cons.mpr ⟨sn_goto dX12_hears_99 (by decide), ?_⟩
  refine List.forall_mem_cons.mpr ⟨sn_iinc dX12_hears_102 rfl, ?_⟩
  refine List.forall_mem_cons.mpr ⟨sn_goto dX12_hears_105 (by decide), ?_⟩
  refine List.forall_mem_cons.mpr ⟨sn_vret rfl dX12_hears_108, ?_⟩
  exact List.forall_mem_nil _
theorem sX12_makes : ∀ q ∈ tX12_makes, mSnd mInf iX12_makes q.1 q.2 := by
  unfold tX12_makes
  refine List.forall_mem_cons.mpr ⟨sn_aload_n dX12_makes_0 rfl rfl, ?_⟩
  refine List.forall_mem_cons.mpr ⟨sn_geti mCl_12 (by decide) rfl kt_1087 dX12_makes_1 rfl, ?_⟩
  refine List.forall_mem_cons.mpr ⟨sn_iload_n dX12_makes_4 rfl rfl, ?_⟩
  refine List.forall_mem_cons.mpr ⟨sn_icmpne dX12_makes_5 (by decide) rfl, ?_⟩
  refine List.forall_mem_cons.mpr ⟨sn_vret rfl dX12_makes_8, ?_⟩
  refine List.forall_mem_cons.mpr ⟨sn_aload_n dX12_makes_9 rfl rfl, ?_⟩
  refine List.forall_mem_cons.mpr ⟨sn_iload_n dX12_makes_10 rfl rfl, ?_⟩
  refine List.forall_mem_cons.mpr ⟨sn_puti mCl_12 (by decide) rfl (Or.inl rfl) kt_1087 dX12_makes_11 rfl, ?_⟩
  refine List.forall_mem_cons.mpr ⟨sn_iconst dX12_makes_14 rfl ⟨by decide, by decide⟩, ?_⟩
  refine List.forall_mem_cons.mpr ⟨sn_istore_n dX12_makes_15 rfl rfl, ?_⟩
  refine List.forall_mem_cons.mpr ⟨sn_iload_n dX12_makes_16 rfl rfl, ?_⟩
  refine List.forall_mem_cons.mpr ⟨sn_aload_n dX12_makes_17 rfl rfl, ?_⟩
  refine List.forall_mem_cons.mpr ⟨sn_geti mCl_12 (by decide) rfl kt_1070 dX12_makes_18 rfl, ?_⟩
  refine List.forall_mem_cons.mpr ⟨sn_icmpge dX12_makes_21 (by decide) rfl, ?_⟩
  refine List.forall_mem_cons.mpr ⟨sn_iconst dX12_makes_24 rfl ⟨by decide, by decide⟩, ?_⟩
  refine List.forall_mem_cons.mpr ⟨sn_istore_n dX12_makes_25 rfl rfl, ?_⟩
  refine List.forall_mem_cons.mpr ⟨sn_iload_n dX12_makes_26 rfl rfl, ?_⟩
  refine List.forall_mem_cons.mpr ⟨sn_sipush dX12_makes_27 rfl (by decide) ⟨by decide, by decide⟩, ?_⟩
  refine List.forall_mem_cons.mpr ⟨sn_icmpge dX12_makes_30 (by decide) rfl, ?_⟩
  refine List.forall_mem_cons.mpr ⟨sn_aload_n dX12_makes_33 rfl rfl, ?_⟩
  refine List.forall_mem_cons.mpr ⟨sn_getr mCl_12 (by decide) rfl kt_1089 dX12_makes_34 rfl, ?_⟩
  refine List.forall_mem_cons.mpr ⟨sn_sipush dX12_makes_37 rfl (by decide) ⟨by decide, by decide⟩, ?_⟩
  refine List.forall_mem_cons.mpr ⟨sn_iload_n dX12_makes_40 rfl rfl, ?_⟩
  refine List.forall_mem_cons.mpr ⟨sn_imul dX12_makes_41 rfl, ?_⟩
  refine List.forall_mem_cons.mpr ⟨sn_iload_n dX12_makes_42 rfl rfl, ?_⟩
  refine List.forall_mem_cons.mpr ⟨sn_iadd dX12_makes_43 rfl, ?_⟩
  refine List.forall_mem_cons.mpr ⟨sn_iconst dX12_makes_44 rfl ⟨by decide, by decide⟩, ?_⟩
  refine List.forall_mem_cons.mpr ⟨sn_iast dX12_makes_45 rfl, ?_⟩
  refine List.forall_mem_cons.mpr ⟨sn_iinc dX12_makes_46 rfl, ?_⟩
  refine List.forall_mem_cons.mpr ⟨sn_goto dX12_makes_49 (by decide), ?_⟩
  refine List.forall_mem_cons.mpr ⟨sn_iconst dX12_makes_52 rfl ⟨by decide, by decide⟩, ?_⟩
  refine List.forall_mem_cons.mpr ⟨sn_istore_n dX12_makes_53 rfl rfl, ?_⟩
  refine List.forall_mem_cons.mpr ⟨sn_iload_n dX12_makes_54 rfl rfl, ?_⟩
  refine List.forall_mem_cons.mpr ⟨sn_aload_n dX12_makes_55 rfl rfl, ?_⟩
  refine List.forall_mem_cons.mpr ⟨sn_geti mCl_12 (by decide) rfl kt_1071 dX12_makes_56 rfl, ?_⟩
  refine List.forall_mem_cons.mpr ⟨sn_icmpge dX12_makes_59 (by decide) rfl, ?_⟩
  refine List.forall_mem_cons.mpr ⟨sn_aload_n dX12_makes_62 rfl rfl, ?_⟩
  refine List.forall_mem_cons.mpr ⟨sn_iload_n dX12_makes_63 rfl rfl, ?_⟩
  refine List.forall_mem_cons.mpr ⟨sn_iload_n dX12_makes_64 rfl rfl, ?_⟩
  refine List.forall_mem_cons.mpr ⟨sn_iload_n dX12_makes_65 rfl rfl, ?_⟩
  refine List.forall_mem_cons.mpr ⟨sn_callV mCl_12 mt_155 rfl kt_1410 kt_1412 kp_57 dX12_makes_66 rfl, ?_⟩
  refine List.forall_mem_cons.mpr ⟨sn_iconst dX12_makes_69 rfl ⟨by decide, by decide⟩, ?_⟩
  refine List.forall_mem_cons.mpr ⟨sn_istore dX12_makes_70 rfl, ?_⟩
  refine List.forall_mem_cons.mpr ⟨sn_iload dX12_makes_72 rfl, ?_⟩
  refine List.forall_mem_cons.mpr ⟨sn_sipush dX12_makes_74 rfl (by decide) ⟨by decide, by decide⟩, ?_⟩
  refine List.forall_mem_cons.mpr ⟨sn_icmpge dX12_makes_77 (by decide) rfl, ?_⟩
  refine List.forall_mem_cons.mpr ⟨sn_aload_n dX12_makes_80 rfl rfl, ?_⟩
  refine List.forall_mem_cons.mpr ⟨sn_getr mCl_12 (by decide) rfl kt_1089 dX12_makes_81 rfl, ?_⟩
  refine List.forall_mem_cons.mpr ⟨sn_sipush dX12_makes_84 rfl (by decide) ⟨by decide, by decide⟩, ?_⟩
  refine List.forall_mem_cons.mpr ⟨sn_iload_n dX12_makes_87 rfl rfl, ?_⟩
  refine List.forall_mem_cons.mpr ⟨sn_imul dX12_makes_88 rfl, ?_⟩
  refine List.forall_mem_cons.mpr ⟨sn_iload dX12_makes_89 rfl, ?_⟩
  refine List.forall_mem_cons.mpr ⟨sn_iadd dX12_makes_91 rfl, ?_⟩
  refine List.forall_mem_cons.mpr ⟨sn_iald dX12_makes_92 rfl, ?_⟩
  refine List.forall_mem_cons.mpr ⟨sn_istore dX12_makes_93 rfl, ?_⟩
  refine List.forall_mem_cons.mpr ⟨sn_aload_n dX12_makes_95 rfl rfl, ?_⟩
  refine List.forall_mem_cons.mpr ⟨sn_getr mCl_12 (by decide) rfl kt_1088 dX12_makes_96 rfl, ?_⟩
  refine List.forall_mem_cons.mpr ⟨sn_iload dX12_makes_99 rfl, ?_⟩
  refine List.forall_mem_cons.mpr ⟨sn_iald dX12_makes_101 rfl, ?_⟩
  refine List.forall_mem_cons.mpr ⟨sn_iconst dX12_makes_102 rfl ⟨by decide, by decide⟩, ?_⟩
  refine List.forall_mem_cons.mpr ⟨sn_icmpeq dX12_makes_103 (by decide) rfl, ?_⟩
  refine List.forall_mem_cons.mpr ⟨sn_iload dX12_makes_106 rfl, ?_⟩
  refine List.forall_mem_cons.mpr ⟨sn_iconst dX12_makes_108 rfl ⟨by decide, by decide⟩, ?_⟩
  refine List.forall_mem_cons.mpr ⟨sn_icmpeq dX12_makes_109 (by decide) rfl, ?_⟩
  refine List.forall_mem_cons.mpr ⟨sn_aload_n dX12_makes_112 rfl rfl, ?_⟩
  refine List.forall_mem_cons.mpr ⟨sn_getr mCl_12 (by decide) rfl kt_1072 dX12_makes_113 rfl, ?_⟩
  refine List.forall_mem_cons.mpr ⟨sn_iload_n dX12_makes_116 rfl rfl, ?_⟩
  refine List.forall_mem_cons.mpr ⟨sn_iald dX12_makes_117 rfl, ?_⟩
  refine List.forall_mem_cons.mpr ⟨sn_aload_n dX12_makes_118 rfl rfl, ?_⟩
  refine List.forall_mem_cons.mpr ⟨sn_getr mCl_12 (by decide) rfl kt_1072 dX12_makes_119 rfl, ?_⟩
  refine List.forall_mem_cons.mpr ⟨sn_aload_n dX12_makes_122 rfl rfl, ?_⟩
  refine List.forall_mem_cons.mpr ⟨sn_getr mCl_12 (by decide) rfl kt_1075 dX12_makes_123 rfl, ?_⟩
  refine List.forall_mem_cons.mpr ⟨sn_iload dX12_makes_126 rfl, ?_⟩
  refine List.forall_mem_cons.mpr ⟨sn_iald dX12_makes_128 rfl, ?_⟩
  refine List.forall_mem_cons.mpr ⟨sn_iald dX12_makes_129 rfl, ?_⟩
  refine List.forall_mem_cons.mpr ⟨sn_icmple dX12_makes_130 (by decide) rfl, ?_⟩
  refine List.forall_mem_cons.mpr ⟨sn_aload_n dX12_makes_133 rfl rfl, ?_⟩
  refine List.forall_mem_cons.mpr ⟨sn_getr mCl_12 (by decide) rfl kt_1089 dX12_makes_134 rfl, ?_⟩
  refine List.forall_mem_cons.mpr ⟨sn_sipush dX12_makes_137 rfl (by decide) ⟨by decide, by decide⟩, ?_⟩
  refine List.forall_mem_cons.mpr ⟨sn_iload_n dX12_makes_140 rfl rfl, ?_⟩
  refine List.forall_mem_cons.mpr ⟨sn_imul dX12_makes_141 rfl, ?_⟩
  refine List.forall_mem_cons.mpr ⟨sn_iload dX12_makes_142 rfl, ?_⟩
  refine List.forall_mem_cons.mpr ⟨sn_iadd dX12_makes_144 rfl, ?_⟩
  refine List.forall_mem_cons.mpr ⟨sn_aload_n dX12_makes_145 rfl rfl, ?_⟩
  refine List.forall_mem_cons.mpr ⟨sn_getr mCl_12 (by decide) rfl kt_1088 dX12_makes_146 rfl, ?_⟩
  refine List.forall_mem_cons.mpr ⟨sn_iload dX12_makes_149 rfl, ?_⟩
  refine List.forall_mem_cons.mpr ⟨sn_iald dX12_makes_151 rfl, ?_⟩
  refine List.forall_mem_cons.mpr ⟨sn_iast dX12_makes_152 rfl, ?_⟩
  refine List.forall_mem_cons.mpr ⟨sn_iinc dX12_makes_153 rfl, ?_⟩
  refine List.forall_mem_cons.mpr ⟨sn_goto dX12_makes_156 (by decide), ?_⟩
  refine List.forall_mem_cons.mpr ⟨sn_iinc dX12_makes_159 rfl, ?_⟩
  refine List.forall_mem_cons.mpr ⟨sn_goto dX12_makes_162 (by decide), ?_⟩
  refine List.forall_mem_cons.mpr ⟨sn_iconst dX12_makes_165 rfl ⟨by decide, by decide⟩, ?_⟩
  refine List.forall_mem_cons.mpr ⟨sn_istore_n dX12_makes_166 rfl rfl, ?_⟩
  refine List.forall_mem_cons.mpr ⟨sn_iload_n dX12_makes_167 rfl rfl, ?_⟩
  refine List.forall_mem_cons.mpr ⟨sn_sipush dX12_makes_168 rfl (by decide) ⟨by decide, by decide⟩, ?_⟩
  refine List.forall_mem_cons.mpr ⟨sn_icmpge dX12_makes_171 (by decide) rfl, ?_⟩
  refine List.forall_mem_cons.mpr ⟨sn_aload_n dX12_makes_174 rfl rfl, ?_⟩
  refine List.forall_mem_cons.mpr ⟨sn_getr mCl_12 (by decide) rfl kt_1089 dX12_makes_175 rfl, ?_⟩
  refine List.forall_mem_cons.mpr ⟨sn_sipush dX12_makes_178 rfl (by decide) ⟨by decide, by decide⟩, ?_⟩
  refine List.forall_mem_cons.mpr ⟨sn_iload_n dX12_makes_181 rfl rfl, ?_⟩
  refine List.forall_mem_cons.mpr ⟨sn_imul dX12_makes_182 rfl, ?_⟩
  refine List.forall_mem_cons.mpr ⟨sn_iload_n dX12_makes_183 rfl rfl, ?_⟩
  refine List.forall_mem_cons.mpr ⟨sn_iadd dX12_makes_184 rfl, ?_⟩
  refine List.forall_mem_cons.mpr ⟨sn_iald dX12_makes_185 rfl, ?_⟩
  refine List.forall_mem_cons.mpr ⟨sn_iconst dX12_makes_186 rfl ⟨by decide, by decide⟩, ?_⟩
  refine List.forall_mem_cons.mpr ⟨sn_icmpeq dX12_makes_187 (by decide) rfl, ?_⟩
  refine List.forall_mem_cons.mpr ⟨sn_aload_n dX12_makes_190 rfl rfl, ?_⟩
  refine List.forall_mem_cons.mpr ⟨sn_getr mCl_12 (by decide) rfl kt_1079 dX12_makes_191 rfl, ?_⟩
  refine List.forall_mem_cons.mpr ⟨sn_aload_n dX12_makes_194 rfl rfl, ?_⟩
  refine List.forall_mem_cons.mpr ⟨sn_getr mCl_12 (by decide) rfl kt_1089 dX12_makes_195 rfl, ?_⟩
  refine List.forall_mem_cons.mpr ⟨sn_sipush dX12_makes_198 rfl (by decide) ⟨by decide, by decide⟩, ?_⟩
  refine List.forall_mem_cons.mpr ⟨sn_iload_n dX12_makes_201 rfl rfl, ?_⟩
  refine List.forall_mem_cons.mpr ⟨sn_imul dX12_makes_202 rfl, ?_⟩
  refine List.forall_mem_cons.mpr ⟨sn_iload_n dX12_makes_203 rfl rfl, ?_⟩
  refine List.forall_mem_cons.mpr ⟨sn_iadd dX12_makes_204 rfl, ?_⟩
  refine List.forall_mem_cons.mpr ⟨sn_iald dX12_makes_205 rfl, ?_⟩
  refine List.forall_mem_cons.mpr ⟨sn_iald dX12_makes_206 rfl, ?_⟩
  refine List.forall_mem_cons.mpr ⟨sn_ifne dX12_makes_207 (by decide) rfl, ?_⟩
  refine List.forall_mem_cons.mpr ⟨sn_aload_n dX12_makes_210 rfl rfl, ?_⟩
  refine List.forall_mem_cons.mpr ⟨sn_getr mCl_12 (by decide) rfl kt_1089 dX12_makes_211 rfl, ?_⟩
  refine List.forall_mem_cons.mpr ⟨sn_sipush dX12_makes_214 rfl (by decide) ⟨by decide, by decide⟩, ?_⟩
  refine List.forall_mem_cons.mpr ⟨sn_iload_n dX12_makes_217 rfl rfl, ?_⟩
  refine List.forall_mem_cons.mpr ⟨sn_imul dX12_makes_218 rfl, ?_⟩
  refine List.forall_mem_cons.mpr ⟨sn_iload_n dX12_makes_219 rfl rfl, ?_⟩
  refine List.forall_mem_cons.mpr ⟨sn_iadd dX12_makes_220 rfl, ?_⟩
  refine List.forall_mem_cons.mpr ⟨sn_iconst dX12_makes_221 rfl ⟨by decide, by decide⟩, ?_⟩
  refine List.forall_mem_cons.mpr ⟨sn_iast dX12_makes_222 rfl, ?_⟩
  refine List.forall_mem_cons.mpr ⟨sn_iinc dX12_makes_223 rfl, ?_⟩
  refine List.forall_mem_cons.mpr ⟨sn_goto dX12_makes_226 (by decide), ?_⟩
  refine List.forall_mem_cons.mpr ⟨sn_iconst dX12_makes_229 rfl ⟨by decide, by decide⟩, ?_⟩
  refine List.forall_mem_cons.mpr ⟨sn_istore_n dX12_makes_230 rfl rfl, ?_⟩
  refine List.forall_mem_cons.mpr ⟨sn_iload_n dX12_makes_231 rfl rfl, ?_⟩
  refine List.forall_mem_cons.mpr ⟨sn_iload_n dX12_makes_232 rfl rfl, ?_⟩
  refine List.forall_mem_cons.mpr ⟨sn_icmpge dX12_makes_233 (by decide) rfl, ?_⟩
  refine List.forall_mem_cons.mpr ⟨sn_aload_n dX12_makes_236 rfl rfl, ?_⟩
  refine List.forall_mem_cons.mpr ⟨sn_getr mCl_12 (by decide) rfl kt_1074 dX12_makes_237 rfl, ?_⟩
  refine List.forall_mem_cons.mpr ⟨sn_iload_n dX12_makes_240 rfl rfl, ?_⟩
  refine List.forall_mem_cons.mpr ⟨sn_zald dX12_makes_241 rfl, ?_⟩
  refine List.forall_mem_cons.mpr ⟨sn_ifeq dX12_makes_242 (by decide) rfl, ?_⟩
  refine List.forall_mem_cons.mpr ⟨sn_aload_n dX12_makes_245 rfl rfl, ?_⟩
  refine List.forall_mem_cons.mpr ⟨sn_getr mCl_12 (by decide) rfl kt_1076 dX12_makes_246 rfl, ?_⟩
  refine List.forall_mem_cons.mpr ⟨sn_iload_n dX12_makes_249 rfl rfl, ?_⟩
  refine List.forall_mem_cons.mpr ⟨sn_iald dX12_makes_250 rfl, ?_⟩
  refine List.forall_mem_cons.mpr ⟨sn_iload_n dX12_makes_251 rfl rfl, ?_⟩
  refine List.forall_mem_cons.mpr ⟨sn_icmpne dX12_makes_252 (by decide) rfl, ?_⟩
  refine List.forall_mem_cons.mpr ⟨sn_aload_n dX12_makes_255 rfl rfl, ?_⟩
  refine List.forall_mem_cons.mpr ⟨sn_sipush dX12_makes_256 rfl (by decide) ⟨by decide, by decide⟩, ?_⟩
  refine List.forall_mem_cons.mpr ⟨sn_iload_n dX12_makes_259 rfl rfl, ?_⟩
  refine List.forall_mem_cons.mpr ⟨sn_imul dX12_makes_260 rfl, ?_⟩
  refine List.forall_mem_cons.mpr ⟨sn_aload_n dX12_makes_261 rfl rfl, ?_⟩
  refine List.forall_mem_cons.mpr ⟨sn_getr mCl_12 (by decide) rfl kt_1077 dX12_makes_262 rfl, ?_⟩
  refine List.forall_mem_cons.mpr ⟨sn_iload_n dX12_makes_265 rfl rfl, ?_⟩
  refine List.forall_mem_cons.mpr ⟨sn_iald dX12_makes_266 rfl, ?_⟩
  refine List.forall_mem_cons.mpr ⟨sn_aload_n dX12_makes_267 rfl rfl, ?_⟩
  refine List.forall_mem_cons.mpr ⟨sn_getr mCl_12 (by decide) rfl kt_1078 dX12_makes_268 rfl, ?_⟩
  refine List.forall_mem_cons.mpr ⟨sn_iload_n dX12_makes_271 rfl rfl, ?_⟩
  refine List.forall_mem_cons.mpr ⟨sn_iald dX12_makes_272 rfl, ?_⟩
  refine List.forall_mem_cons.mpr ⟨sn_callV mCl_12 mt_157 rfl kt_1414 kt_1416 kp_58 dX12_makes_273 rfl, ?_⟩
  refine List.forall_mem_cons.mpr ⟨sn_iinc dX12_makes_276 rfl, ?_⟩
  refine List.forall_mem_cons.mpr ⟨sn_goto dX12_makes_279 (by decide), ?_⟩
  refine List.forall_mem_cons.mpr ⟨sn_iinc dX12_makes_282 rfl, ?_⟩
  refine List.forall_mem_cons.mpr ⟨sn_goto dX12_makes_285 (by decide), ?_⟩
  refine List.forall_mem_cons.mpr ⟨sn_aload_n dX12_makes_288 rfl rfl, ?_⟩
  refine List.forall_mem_cons.mpr ⟨sn_callV mCl_12 mt_158 rfl kt_1418 kt_1420 kp_59 dX12_makes_289 rfl, ?_⟩
  refine List.forall_mem_cons.mpr ⟨sn_vret rfl dX12_makes_292, ?_⟩
  exact List.forall_mem_nil _
theorem sX12_pushes : ∀ q ∈ tX12_pushes, mSnd mInf iX12_pushes q.1 q.2 := by
  unfold tX12_pushes
  refine List.forall_mem_cons.mpr ⟨sn_aload_n dX12_pushes_0 rfl rfl, ?_⟩
  refine List.forall_mem_cons.mpr ⟨sn_getr mCl_12 (by decide) rfl kt_1089 dX12_pushes_1 rfl, ?_⟩
  refine List.forall_mem_cons.mpr ⟨sn_iload_n dX12_pushes_4 rfl rfl, ?_⟩
  refine List.forall_mem_cons.mpr ⟨sn_iload_n dX12_pushes_5 rfl rfl, ?_⟩
  refine List.forall_mem_cons.mpr ⟨sn_iadd dX12_pushes_6 rfl, ?_⟩
  refine List.forall_mem_cons.mpr ⟨sn_iconst dX12_pushes_7 rfl ⟨by decide, by decide⟩, ?_⟩
  refine List.forall_mem_cons.mpr ⟨sn_isub dX12_pushes_8 rfl, ?_⟩
  refine List.forall_mem_cons.mpr ⟨sn_iald dX12_pushes_9 rfl, ?_⟩
  refine List.forall_mem_cons.mpr ⟨sn_istore dX12_pushes_10 rfl, ?_⟩
  refine List.forall_mem_cons.mpr ⟨sn_iload dX12_pushes_12 rfl, ?_⟩
  refine List.forall_mem_cons.mpr ⟨sn_iconst dX12_pushes_14 rfl ⟨by decide, by decide⟩, ?_⟩
  refine List.forall_mem_cons.mpr ⟨sn_icmpeq dX12_pushes_15 (by decide) rfl, ?_⟩
  refine List.forall_mem_cons.mpr ⟨sn_aload_n dX12_pushes_18 rfl rfl, ?_⟩
  refine List.forall_mem_cons.mpr ⟨sn_getr mCl_12 (by decide) rfl kt_1081 dX12_pushes_19 rfl, ?_⟩
  refine List.forall_mem_cons.mpr ⟨sn_iload dX12_pushes_22 rfl, ?_⟩
  refine List.forall_mem_cons.mpr ⟨sn_zald dX12_pushes_24 rfl, ?_⟩
  refine List.forall_mem_cons.mpr ⟨sn_ifne dX12_pushes_25 (by decide) rfl, ?_⟩
  refine List.forall_mem_cons.mpr ⟨sn_vret rfl dX12_pushes_28, ?_⟩
  refine List.forall_mem_cons.mpr ⟨sn_iconst dX12_pushes_29 rfl ⟨by decide, by decide⟩, ?_⟩
  refine List.forall_mem_cons.mpr ⟨sn_istore dX12_pushes_30 rfl, ?_⟩
  refine List.forall_mem_cons.mpr ⟨sn_iload dX12_pushes_32 rfl, ?_⟩
  refine List.forall_mem_cons.mpr ⟨sn_sipush dX12_pushes_34 rfl (by decide) ⟨by decide, by decide⟩, ?_⟩
  refine List.forall_mem_cons.mpr ⟨sn_icmpge dX12_pushes_37 (by decide) rfl, ?_⟩
  refine List.forall_mem_cons.mpr ⟨sn_aload_n dX12_pushes_40 rfl rfl, ?_⟩
  refine List.forall_mem_cons.mpr ⟨sn_getr mCl_12 (by decide) rfl kt_1090 dX12_pushes_41 rfl, ?_⟩
  refine List.forall_mem_cons.mpr ⟨sn_iload dX12_pushes_44 rfl, ?_⟩
  refine List.forall_mem_cons.mpr ⟨sn_iload dX12_pushes_46 rfl, ?_⟩
  refine List.forall_mem_cons.mpr ⟨sn_iload_n dX12_pushes_48 rfl rfl, ?_⟩
  refine List.forall_mem_cons.mpr ⟨sn_icmpge dX12_pushes_49 (by decide) rfl, ?_⟩
  refine List.forall_mem_cons.mpr ⟨sn_aload_n dX12_pushes_52 rfl rfl, ?_⟩
  refine List.forall_mem_cons.mpr ⟨sn_getr mCl_12 (by decide) rfl kt_1089 dX12_pushes_53 rfl, ?_⟩
  refine List.forall_mem_cons.mpr ⟨sn_iload_n dX12_pushes_56 rfl rfl, ?_⟩
  refine List.forall_mem_cons.mpr ⟨sn_iload dX12_pushes_57 rfl, ?_⟩
  refine List.forall_mem_cons.mpr ⟨sn_iadd dX12_pushes_59 rfl, ?_⟩
  refine List.forall_mem_cons.mpr ⟨sn_iald dX12_pushes_60 rfl, ?_⟩
  refine List.forall_mem_cons.mpr ⟨sn_goto dX12_pushes_61 (by decide), ?_⟩
  refine List.forall_mem_cons.mpr ⟨sn_iload dX12_pushes_64 rfl, ?_⟩
  refine List.forall_mem_cons.mpr ⟨sn_iload_n dX12_pushes_66 rfl rfl, ?_⟩
  refine List.forall_mem_cons.mpr ⟨sn_iload_n dX12_pushes_67 rfl rfl, ?_⟩
  refine List.forall_mem_cons.mpr ⟨sn_iadd dX12_pushes_68 rfl, ?_⟩
  refine List.forall_mem_cons.mpr ⟨sn_icmpge dX12_pushes_69 (by decide) rfl, ?_⟩
  refine List.forall_mem_cons.mpr ⟨sn_iload dX12_pushes_72 rfl, ?_⟩
  refine List.forall_mem_cons.mpr ⟨sn_goto dX12_pushes_74 (by decide), ?_⟩
  refine List.forall_mem_cons.mpr ⟨sn_iconst dX12_pushes_77 rfl ⟨by decide, by decide⟩, ?_⟩
  refine List.forall_mem_cons.mpr ⟨sn_iast dX12_pushes_78 rfl, ?_⟩
  refine List.forall_mem_cons.mpr ⟨sn_iinc dX12_pushes_79 rfl, ?_⟩
  refine List.forall_mem_cons.mpr ⟨sn_goto dX12_pushes_82 (by decide), ?_⟩
  refine List.forall_mem_cons.mpr ⟨sn_iload_n dX12_pushes_85 rfl rfl, ?_⟩
  refine List.forall_mem_cons.mpr ⟨sn_istore dX12_pushes_86 rfl, ?_⟩
  refine List.forall_mem_cons.mpr ⟨sn_iload_n dX12_pushes_88 rfl rfl, ?_⟩
  refine List.forall_mem_cons.mpr ⟨sn_istore dX12_pushes_89 rfl, ?_⟩
  refine List.forall_mem_cons.mpr ⟨sn_iload dX12_pushes_91 rfl, ?_⟩
  refine List.forall_mem_cons.mpr ⟨sn_sipush dX12_pushes_93 rfl (by decide) ⟨by decide, by decide⟩, ?_⟩
  refine List.forall_mem_cons.mpr ⟨sn_icmpge dX12_pushes_96 (by decide) rfl, ?_⟩
  refine List.forall_mem_cons.mpr ⟨sn_aload_n dX12_pushes_99 rfl rfl, ?_⟩
  refine List.forall_mem_cons.mpr ⟨sn_getr mCl_12 (by decide) rfl kt_1089 dX12_pushes_100 rfl, ?_⟩
  refine List.forall_mem_cons.mpr ⟨sn_iload_n dX12_pushes_103 rfl rfl, ?_⟩
  refine List.forall_mem_cons.mpr ⟨sn_iload dX12_pushes_104 rfl, ?_⟩
  refine List.forall_mem_cons.mpr ⟨sn_iadd dX12_pushes_106 rfl, ?_⟩
  refine List.forall_mem_cons.mpr ⟨sn_iald dX12_pushes_107 rfl, ?_⟩
  refine List.forall_mem_cons.mpr ⟨sn_iconst dX12_pushes_108 rfl ⟨by decide, by decide⟩, ?_⟩
  refine List.forall_mem_cons.mpr ⟨sn_icmpne dX12_pushes_109 (by decide) rfl, ?_⟩
  refine List.forall_mem_cons.mpr ⟨sn_iload dX12_pushes_112 rfl, ?_⟩
  refine List.forall_mem_cons.mpr ⟨sn_ifle dX12_pushes_114 (by decide) rfl, ?_⟩
  refine List.forall_mem_cons.mpr ⟨sn_iinc dX12_pushes_117 rfl, ?_⟩
  refine List.forall_mem_cons.mpr ⟨sn_goto dX12_pushes_120 (by decide), ?_⟩
  refine List.forall_mem_cons.mpr ⟨sn_iload dX12_pushes_123 rfl, ?_⟩
  refine List.forall_mem_cons.mpr ⟨sn_iload dX12_pushes_125 rfl, ?_⟩
  refine List.forall_mem_cons.mpr ⟨sn_iadd dX12_pushes_127 rfl, ?_⟩
  refine List.forall_mem_cons.mpr ⟨sn_sipush dX12_pushes_128 rfl (by decide) ⟨by decide, by decide⟩, ?_⟩
  refine List.forall_mem_cons.mpr ⟨sn_icmpge dX12_pushes_131 (by decide) rfl, ?_⟩
  refine List.forall_mem_cons.mpr ⟨sn_aload_n dX12_pushes_134 rfl rfl, ?_⟩
  refine List.forall_mem_cons.mpr ⟨sn_getr mCl_12 (by decide) rfl kt_1090 dX12_pushes_135 rfl, ?_⟩
  refine List.forall_mem_cons.mpr ⟨sn_iload dX12_pushes_138 rfl, ?_⟩
  refine List.forall_mem_cons.mpr ⟨sn_iload dX12_pushes_140 rfl, ?_⟩
  refine List.forall_mem_cons.mpr ⟨sn_iadd dX12_pushes_142 rfl, ?_⟩
  refine List.forall_mem_cons.mpr ⟨sn_aload_n dX12_pushes_143 rfl rfl, ?_⟩
  refine List.forall_mem_cons.mpr ⟨sn_getr mCl_12 (by decide) rfl kt_1089 dX12_pushes_144 rfl, ?_⟩
  refine List.forall_mem_cons.mpr ⟨sn_iload_n dX12_pushes_147 rfl rfl, ?_⟩
  refine List.forall_mem_cons.mpr ⟨sn_iload dX12_pushes_148 rfl, ?_⟩
  refine List.forall_mem_cons.mpr ⟨sn_iadd dX12_pushes_150 rfl, ?_⟩
  refine List.forall_mem_cons.mpr ⟨sn_iald dX12_pushes_151 rfl, ?_⟩
  refine List.forall_mem_cons.mpr ⟨sn_iast dX12_pushes_152 rfl, ?_⟩
  refine List.forall_mem_cons.mpr ⟨sn_iinc dX12_pushes_153 rfl, ?_⟩
  refine List.forall_mem_cons.mpr ⟨sn_goto dX12_pushes_156 (by decide), ?_⟩
  refine List.forall_mem_cons.mpr ⟨sn_iconst dX12_pushes_159 rfl ⟨by decide, by decide⟩, ?_⟩
  refine List.forall_mem_cons.mpr ⟨sn_istore dX12_pushes_160 rfl, ?_⟩
  refine List.forall_mem_cons.mpr ⟨sn_iload dX12_pushes_162 rfl, ?_⟩
  refine List.forall_mem_cons.mpr ⟨sn_sipush dX12_pushes_164 rfl (by decide) ⟨by decide, by decide⟩, ?_⟩
  refine List.forall_mem_cons.mpr ⟨sn_icmpge dX12_pushes_167 (by decide) rfl, ?_⟩
  refine List.forall_mem_cons.mpr ⟨sn_aload_n dX12_pushes_170 rfl rfl, ?_⟩
  refine List.forall_mem_cons.mpr ⟨sn_getr mCl_12 (by decide) rfl kt_1089 dX12_pushes_171 rfl, ?_⟩
  refine List.forall_mem_cons.mpr ⟨sn_iload_n dX12_pushes_174 rfl rfl, ?_⟩
  refine List.forall_mem_cons.mpr ⟨sn_iload dX12_pushes_175 rfl, ?_⟩
  refine List.forall_mem_cons.mpr ⟨sn_iadd dX12_pushes_177 rfl, ?_⟩
  refine List.forall_mem_cons.mpr ⟨sn_aload_n dX12_pushes_178 rfl rfl, ?_⟩
  refine List.forall_mem_cons.mpr ⟨sn_getr mCl_12 (by decide) rfl kt_1090 dX12_pushes_179 rfl, ?_⟩
  refine List.forall_mem_cons.mpr ⟨sn_iload dX12_pushes_182 rfl, ?_⟩
  refine List.forall_mem_cons.mpr ⟨sn_iald dX12_pushes_184 rfl, ?_⟩
  refine List.forall_mem_cons.mpr ⟨sn_iast dX12_pushes_185 rfl, ?_⟩
  refine List.forall_mem_cons.mpr ⟨sn_iinc dX12_pushes_186 rfl, ?_⟩
  refine List.forall_mem_cons.mpr ⟨sn_goto dX12_pushes_189 (by decide), ?_⟩
  refine List.forall_mem_cons.mpr ⟨sn_vret rfl dX12_pushes_192, ?_⟩
  exact List.forall_mem_nil _
theorem sX12_shows : ∀ q ∈ tX12_shows, mSnd mInf iX12_shows q.1 q.2 := by
  unfold tX12_shows
  refine List.forall_mem_cons.mpr ⟨sn_aload_n dX12_shows_0 rfl rfl, ?_⟩
  refine List.forall_mem_cons.mpr ⟨sn_iconst dX12_shows_1 rfl ⟨by decide, by decide⟩, ?_⟩
  refine List.forall_mem_cons.mpr ⟨sn_puti mCl_12 (by decide) rfl (Or.inl rfl) kt_1091 dX12_shows_2 rfl, ?_⟩
  refine List.forall_mem_cons.mpr ⟨sn_iconst dX12_shows_5 rfl ⟨by decide, by decide⟩, ?_⟩
  refine List.forall_mem_cons.mpr ⟨sn_istore_n dX12_shows_6 rfl rfl, ?_⟩
  refine List.forall_mem_cons.mpr ⟨sn_iload_n dX12_shows_7 rfl rfl, ?_⟩
  refine List.forall_mem_cons.mpr ⟨sn_sipush dX12_shows_8 rfl (by decide) ⟨by decide, by decide⟩, ?_⟩
  refine List.forall_mem_cons.mpr ⟨sn_icmpge dX12_shows_11 (by decide) rfl, ?_⟩
  refine List.forall_mem_cons.mpr ⟨sn_iconst dX12_shows_14 rfl ⟨by decide, by decide⟩, ?_⟩
  refine List.forall_mem_cons.mpr ⟨sn_istore_n dX12_shows_15 rfl rfl, ?_⟩
  refine List.forall_mem_cons.mpr ⟨sn_iload_n dX12_shows_16 rfl rfl, ?_⟩
  refine List.forall_mem_cons.mpr ⟨sn_aload_n dX12_shows_17 rfl rfl, ?_⟩
  refine List.forall_mem_cons.mpr ⟨sn_geti mCl_12 (by decide) rfl kt_1070 dX12_shows_18 rfl, ?_⟩
  refine List.forall_mem_cons.mpr ⟨sn_icmpge dX12_shows_21 (by decide) rfl, ?_⟩
  refine List.forall_mem_cons.mpr ⟨sn_aload_n dX12_shows_24 rfl rfl, ?_⟩
  refine List.forall_mem_cons.mpr ⟨sn_getr mCl_12 (by decide) rfl kt_1089 dX12_shows_25 rfl, ?_⟩
  refine List.forall_mem_cons.mpr ⟨sn_sipush dX12_shows_28 rfl (by decide) ⟨by decide, by decide⟩, ?_⟩
  refine List.forall_mem_cons.mpr ⟨sn_iload_n dX12_shows_31 rfl rfl, ?_⟩
  refine List.forall_mem_cons.mpr ⟨sn_imul dX12_shows_32 rfl, ?_⟩
  refine List.forall_mem_cons.mpr ⟨sn_iload_n dX12_shows_33 rfl rfl, ?_⟩
  refine List.forall_mem_cons.mpr ⟨sn_iadd dX12_shows_34 rfl, ?_⟩
  refine List.forall_mem_cons.mpr ⟨sn_iald dX12_shows_35 rfl, ?_⟩
  refine List.forall_mem_cons.mpr ⟨sn_istore_n dX12_shows_36 rfl rfl, ?_⟩
  refine List.forall_mem_cons.mpr ⟨sn_iload_n dX12_shows_37 rfl rfl, ?_⟩
  refine List.forall_mem_cons.mpr ⟨sn_iconst dX12_shows_38 rfl ⟨by decide, by decide⟩, ?_⟩
  refine List.forall_mem_cons.mpr ⟨sn_icmpeq dX12_shows_39 (by decide) rfl, ?_⟩
  refine List.forall_mem_cons.mpr ⟨sn_iload_n dX12_shows_42 rfl rfl, ?_⟩
  refine List.forall_mem_cons.mpr ⟨sn_ifle dX12_shows_43 (by decide) rfl, ?_⟩
  refine List.forall_mem_cons.mpr ⟨sn_aload_n dX12_shows_46 rfl rfl, ?_⟩
  refine List.forall_mem_cons.mpr ⟨sn_getr mCl_12 (by decide) rfl kt_1089 dX12_shows_47 rfl, ?_⟩
  refine List.forall_mem_cons.mpr ⟨sn_sipush dX12_shows_50 rfl (by decide) ⟨by decide, by decide⟩, ?_⟩
  refine List.forall_mem_cons.mpr ⟨sn_iload_n dX12_shows_53 rfl rfl, ?_⟩
  refine List.forall_mem_cons.mpr ⟨sn_imul dX12_shows_54 rfl, ?_⟩
  refine List.forall_mem_cons.mpr ⟨sn_iload_n dX12_shows_55 rfl rfl, ?_⟩
  refine List.forall_mem_cons.mpr ⟨sn_iadd dX12_shows_56 rfl, ?_⟩
  refine List.forall_mem_cons.mpr ⟨sn_iconst dX12_shows_57 rfl ⟨by decide, by decide⟩, ?_⟩
  refine List.forall_mem_cons.mpr ⟨sn_isub dX12_shows_58 rfl, ?_⟩
  refine List.forall_mem_cons.mpr ⟨sn_iald dX12_shows_59 rfl, ?_⟩
  refine List.forall_mem_cons.mpr ⟨sn_iload_n dX12_shows_60 rfl rfl, ?_⟩
  refine List.forall_mem_cons.mpr ⟨sn_icmpne dX12_shows_61 (by decide) rfl, ?_⟩
  refine List.forall_mem_cons.mpr ⟨sn_goto dX12_shows_64 (by decide), ?_⟩
  refine List.forall_mem_cons.mpr ⟨sn_iload_n dX12_shows_67 rfl rfl, ?_⟩
  refine List.forall_mem_cons.mpr ⟨sn_iconst dX12_shows_68 rfl ⟨by decide, by decide⟩, ?_⟩
  refine List.forall_mem_cons.mpr ⟨sn_iadd dX12_shows_69 rfl, ?_⟩
  refine List.forall_mem_cons.mpr ⟨sn_istore dX12_shows_70 rfl, ?_⟩
  refine List.forall_mem_cons.mpr ⟨sn_iload dX12_shows_72 rfl, ?_⟩
  refine List.forall_mem_cons.mpr ⟨sn_sipush dX12_shows_74 rfl (by decide) ⟨by decide, by decide⟩, ?_⟩
  refine List.forall_mem_cons.mpr ⟨sn_icmpge dX12_shows_77 (by decide) rfl, ?_⟩
  refine List.forall_mem_cons.mpr ⟨sn_aload_n dX12_shows_80 rfl rfl, ?_⟩
  refine List.forall_mem_cons.mpr ⟨sn_getr mCl_12 (by decide) rfl kt_1089 dX12_shows_81 rfl, ?_⟩
  refine List.forall_mem_cons.mpr ⟨sn_sipush dX12_shows_84 rfl (by decide) ⟨by decide, by decide⟩, ?_⟩
  refine List.forall_mem_cons.mpr ⟨sn_iload_n dX12_shows_87 rfl rfl, ?_⟩
  refine List.forall_mem_cons.mpr ⟨sn_imul dX12_shows_88 rfl, ?_⟩
  refine List.forall_mem_cons.mpr ⟨sn_iload dX12_shows_89 rfl, ?_⟩
  refine List.forall_mem_cons.mpr ⟨sn_iadd dX12_shows_91 rfl, ?_⟩
  refine List.forall_mem_cons.mpr ⟨sn_iald dX12_shows_92 rfl, ?_⟩
  refine List.forall_mem_cons.mpr ⟨sn_iload_n dX12_shows_93 rfl rfl, ?_⟩
  refine List.forall_mem_cons.mpr ⟨sn_icmpne dX12_shows_94 (by decide) rfl, ?_⟩
  refine List.forall_mem_cons.mpr ⟨sn_iinc dX12_shows_97 rfl, ?_⟩
  refine List.forall_mem_cons.mpr ⟨sn_goto dX12_shows_100 (by decide), ?_⟩
  refine List.forall_mem_cons.mpr ⟨sn_aload_n dX12_shows_103 rfl rfl, ?_⟩
  refine List.forall_mem_cons.mpr ⟨sn_getr mCl_12 (by decide) rfl kt_1092 dX12_shows_104 rfl, ?_⟩
  refine List.forall_mem_cons.mpr ⟨sn_aload_n dX12_shows_107 rfl rfl, ?_⟩
  refine List.forall_mem_cons.mpr ⟨sn_geti mCl_12 (by decide) rfl kt_1091 dX12_shows_108 rfl, ?_⟩
  refine List.forall_mem_cons.mpr ⟨sn_iload_n dX12_shows_111 rfl rfl, ?_⟩
  refine List.forall_mem_cons.mpr ⟨sn_iast dX12_shows_112 rfl, ?_⟩
  refine List.forall_mem_cons.mpr ⟨sn_aload_n dX12_shows_113 rfl rfl, ?_⟩
  refine List.forall_mem_cons.mpr ⟨sn_getr mCl_12 (by decide) rfl kt_1093 dX12_shows_114 rfl, ?_⟩
  refine List.forall_mem_cons.mpr ⟨sn_aload_n dX12_shows_117 rfl rfl, ?_⟩
  refine List.forall_mem_cons.mpr ⟨sn_geti mCl_12 (by decide) rfl kt_1091 dX12_shows_118 rfl, ?_⟩
  refine List.forall_mem_cons.mpr ⟨sn_iload_n dX12_shows_121 rfl rfl, ?_⟩
  refine List.forall_mem_cons.mpr ⟨sn_iast dX12_shows_122 rfl, ?_⟩
  refine List.forall_mem_cons.mpr ⟨sn_aload_n dX12_shows_123 rfl rfl, ?_⟩
  refine List.forall_mem_cons.mpr ⟨sn_getr mCl_12 (by decide) rfl kt_1094 dX12_shows_124 rfl, ?_⟩
  refine List.forall_mem_cons.mpr ⟨sn_aload_n dX12_shows_127 rfl rfl, ?_⟩
  refine List.forall_mem_cons.mpr ⟨sn_geti mCl_12 (by decide) rfl kt_1091 dX12_shows_128 rfl, ?_⟩
  refine List.forall_mem_cons.mpr ⟨sn_iload_n dX12_shows_131 rfl rfl, ?_⟩
  refine List.forall_mem_cons.mpr ⟨sn_iast dX12_shows_132 rfl, ?_⟩
  refine List.forall_mem_cons.mpr ⟨sn_aload_n dX12_shows_133 rfl rfl, ?_⟩
  refine List.forall_mem_cons.mpr ⟨sn_getr mCl_12 (by decide) rfl kt_1095 dX12_shows_134 rfl, ?_⟩
  refine List.forall_mem_cons.mpr ⟨sn_aload_n dX12_shows_137 rfl rfl, ?_⟩
  refine List.forall_mem_cons.mpr ⟨sn_geti mCl_12 (by decide) rfl kt_1091 dX12_shows_138 rfl, ?_⟩
  refine List.forall_mem_cons.mpr ⟨sn_iload dX12_shows_141 rfl, ?_⟩
  refine List.forall_mem_cons.mpr ⟨sn_iast dX12_shows_143 rfl, ?_⟩
  refine List.forall_mem_cons.mpr ⟨sn_aload_n dX12_shows_144 rfl rfl, ?_⟩
  refine List.forall_mem_cons.mpr ⟨sn_dup dX12_shows_145 rfl, ?_⟩
  refine List.forall_mem_cons.mpr ⟨sn_geti mCl_12 (by decide) rfl kt_1091 dX12_shows_146 rfl, ?_⟩
  refine List.forall_mem_cons.mpr ⟨sn_iconst dX12_shows_149 rfl ⟨by decide, by decide⟩, ?_⟩
  refine List.forall_mem_cons.mpr ⟨sn_iadd dX12_shows_150 rfl, ?_⟩
  refine List.forall_mem_cons.mpr ⟨sn_puti mCl_12 (by decide) rfl (Or.inl rfl) kt_1091 dX12_shows_151 rfl, ?_⟩
  refine List.forall_mem_cons.mpr ⟨sn_iinc dX12_shows_154 rfl, ?_⟩
  refine List.forall_mem_cons.mpr ⟨sn_goto dX12_shows_157 (by decide), ?_⟩
  refine List.forall_mem_cons.mpr ⟨sn_iinc dX12_shows_160 rfl, ?_⟩
  refine List.forall_mem_cons.mpr ⟨sn_goto dX12_shows_163 (by decide), ?_⟩
  refine List.forall_mem_cons.mpr ⟨sn_vret rfl dX12_shows_166, ?_⟩
  exact List.forall_mem_nil _
theorem sX12_areOne : ∀ q ∈ tX12_areOne, mSnd mInf iX12_areOne q.1 q.2 := by
  unfold tX12_areOne
  refine List.forall_mem_cons.mpr ⟨sn_aload_n dX12_areOne_0 rfl rfl, ?_⟩
  refine List.forall_mem_cons.mpr ⟨sn_getr mCl_12 (by decide) rfl kt_1079 dX12_areOne_1 rfl, ?_⟩
  refine List.forall_mem_cons.mpr ⟨sn_aload_n dX12_areOne_4 rfl rfl, ?_⟩
  refine List.forall_mem_cons.mpr ⟨sn_getr mCl_12 (by decide) rfl kt_1092 dX12_areOne_5 rfl, ?_⟩
  refine List.forall_mem_cons.mpr ⟨sn_iload_n dX12_areOne_8 rfl rfl, ?_⟩
  refine List.forall_mem_cons.mpr ⟨sn_iald dX12_areOne_9 rfl, ?_⟩
  refine List.forall_mem_cons.mpr ⟨sn_iald dX12_areOne_10 rfl, ?_⟩
  refine List.forall_mem_cons.mpr ⟨sn_aload_n dX12_areOne_11 rfl rfl, ?_⟩
  refine List.forall_mem_cons.mpr ⟨sn_getr mCl_12 (by decide) rfl kt_1079 dX12_areOne_12 rfl, ?_⟩
  refine List.forall_mem_cons.mpr ⟨sn_aload_n dX12_areOne_15 rfl rfl, ?_⟩
  refine List.forall_mem_cons.mpr ⟨sn_getr mCl_12 (by decide) rfl kt_1092 dX12_areOne_16 rfl, ?_⟩
  refine List.forall_mem_cons.mpr ⟨sn_iload_n dX12_areOne_19 rfl rfl, ?_⟩
  refine List.forall_mem_cons.mpr ⟨sn_iald dX12_areOne_20 rfl, ?_⟩
  refine List.forall_mem_cons.mpr ⟨sn_iald dX12_areOne_21 rfl, ?_⟩
  refine List.forall_mem_cons.mpr ⟨sn_icmpne dX12_areOne_22 (by decide) rfl, ?_⟩
  refine List.forall_mem_cons.mpr ⟨sn_aload_n dX12_areOne_25 rfl rfl, ?_⟩
  refine List.forall_mem_cons.mpr ⟨sn_getr mCl_12 (by decide) rfl kt_1080 dX12_areOne_26 rfl, ?_⟩
  refine List.forall_mem_cons.mpr ⟨sn_aload_n dX12_areOne_29 rfl rfl, ?_⟩
  refine List.forall_mem_cons.mpr ⟨sn_getr mCl_12 (by decide) rfl kt_1092 dX12_areOne_30 rfl, ?_⟩
  refine List.forall_mem_cons.mpr ⟨sn_iload_n dX12_areOne_33 rfl rfl, ?_⟩
  refine List.forall_mem_cons.mpr ⟨sn_iald dX12_areOne_34 rfl, ?_⟩
  refine List.forall_mem_cons.mpr ⟨sn_iald dX12_areOne_35 rfl, ?_⟩
  refine List.forall_mem_cons.mpr ⟨sn_aload_n dX12_areOne_36 rfl rfl, ?_⟩
  refine List.forall_mem_cons.mpr ⟨sn_getr mCl_12 (by decide) rfl kt_1080 dX12_areOne_37 rfl, ?_⟩
  refine List.forall_mem_cons.mpr ⟨sn_aload_n dX12_areOne_40 rfl rfl, ?_⟩
  refine List.forall_mem_cons.mpr ⟨sn_getr mCl_12 (by decide) rfl kt_1092 dX12_areOne_41 rfl, ?_⟩
  refine List.forall_mem_cons.mpr ⟨sn_iload_n dX12_areOne_44 rfl rfl, ?_⟩
  refine List.forall_mem_cons.mpr ⟨sn_iald dX12_areOne_45 rfl, ?_⟩
  refine List.forall_mem_cons.mpr ⟨sn_iald dX12_areOne_46 rfl, ?_⟩
  refine List.forall_mem_cons.mpr ⟨sn_icmpne dX12_areOne_47 (by decide) rfl, ?_⟩
  refine List.forall_mem_cons.mpr ⟨sn_aload_n dX12_areOne_50 rfl rfl, ?_⟩
  refine List.forall_mem_cons.mpr ⟨sn_getr mCl_12 (by decide) rfl kt_1080 dX12_areOne_51 rfl, ?_⟩
  refine List.forall_mem_cons.mpr ⟨sn_aload_n dX12_areOne_54 rfl rfl, ?_⟩
  refine List.forall_mem_cons.mpr ⟨sn_getr mCl_12 (by decide) rfl kt_1092 dX12_areOne_55 rfl, ?_⟩
  refine List.forall_mem_cons.mpr ⟨sn_iload_n dX12_areOne_58 rfl rfl, ?_⟩
  refine List.forall_mem_cons.mpr ⟨sn_iald dX12_areOne_59 rfl, ?_⟩
  refine List.forall_mem_cons.mpr ⟨sn_iald dX12_areOne_60 rfl, ?_⟩
  refine List.forall_mem_cons.mpr ⟨sn_ifeq dX12_areOne_61 (by decide) rfl, ?_⟩
  refine List.forall_mem_cons.mpr ⟨sn_iconst dX12_areOne_64 rfl ⟨by decide, by decide⟩, ?_⟩
  refine List.forall_mem_cons.mpr ⟨sn_goto dX12_areOne_65 (by decide), ?_⟩
  refine List.forall_mem_cons.mpr ⟨sn_iconst dX12_areOne_68 rfl ⟨by decide, by decide⟩, ?_⟩
  refine List.forall_mem_cons.mpr ⟨sn_zret rfl dX12_areOne_69, ?_⟩
  exact List.forall_mem_nil _
theorem sX12_sent : ∀ q ∈ tX12_sent, mSnd mInf iX12_sent q.1 q.2 := by
  unfold tX12_sent
  refine List.forall_mem_cons.mpr ⟨sn_aload_n dX12_sent_0 rfl rfl, ?_⟩
  refine List.forall_mem_cons.mpr ⟨sn_iload_n dX12_sent_1 rfl rfl, ?_⟩
  refine List.forall_mem_cons.mpr ⟨sn_callV mCl_12 mt_146 rfl kt_1379 kt_1381 kp_54 dX12_sent_2 rfl, ?_⟩
  refine List.forall_mem_cons.mpr ⟨sn_ifeq dX12_sent_5 (by decide) rfl, ?_⟩
  refine List.forall_mem_cons.mpr ⟨sn_iload_n dX12_sent_8 rfl rfl, ?_⟩
  refine List.forall_mem_cons.mpr ⟨sn_callS mt_147 kt_1395 kt_1396 dX12_sent_9 rfl, ?_⟩
  refine List.forall_mem_cons.mpr ⟨sn_ifeq dX12_sent_12 (by decide) rfl, ?_⟩
  refine List.forall_mem_cons.mpr ⟨sn_aload_n dX12_sent_15 rfl rfl, ?_⟩
  refine List.forall_mem_cons.mpr ⟨sn_iload_n dX12_sent_16 rfl rfl, ?_⟩
  refine List.forall_mem_cons.mpr ⟨sn_callV mCl_12 mt_148 rfl kt_1402 kt_1404 kp_55 dX12_sent_17 rfl, ?_⟩
  refine List.forall_mem_cons.mpr ⟨sn_ifne dX12_sent_20 (by decide) rfl, ?_⟩
  refine List.forall_mem_cons.mpr ⟨sn_iconst dX12_sent_23 rfl ⟨by decide, by decide⟩, ?_⟩
  refine List.forall_mem_cons.mpr ⟨sn_iret rfl dX12_sent_24, ?_⟩
  refine List.forall_mem_cons.mpr ⟨sn_aload_n dX12_sent_25 rfl rfl, ?_⟩
  refine List.forall_mem_cons.mpr ⟨sn_iload_n dX12_sent_26 rfl rfl, ?_⟩
  refine List.forall_mem_cons.mpr ⟨sn_callV mCl_12 mt_156 rfl kt_1406 kt_1408 kp_56 dX12_sent_27 rfl, ?_⟩
  refine List.forall_mem_cons.mpr ⟨sn_aload_n dX12_sent_30 rfl rfl, ?_⟩
  refine List.forall_mem_cons.mpr ⟨sn_getr mCl_12 (by decide) rfl kt_1089 dX12_sent_31 rfl, ?_⟩
  refine List.forall_mem_cons.mpr ⟨sn_sipush dX12_sent_34 rfl (by decide) ⟨by decide, by decide⟩, ?_⟩
  refine List.forall_mem_cons.mpr ⟨sn_iload_n dX12_sent_37 rfl rfl, ?_⟩
  refine List.forall_mem_cons.mpr ⟨sn_imul dX12_sent_38 rfl, ?_⟩
  refine List.forall_mem_cons.mpr ⟨sn_iload_n dX12_sent_39 rfl rfl, ?_⟩
  refine List.forall_mem_cons.mpr ⟨sn_iadd dX12_sent_40 rfl, ?_⟩
  refine List.forall_mem_cons.mpr ⟨sn_iald dX12_sent_41 rfl, ?_⟩
  refine List.forall_mem_cons.mpr ⟨sn_iret rfl dX12_sent_42, ?_⟩
  exact List.forall_mem_nil _
theorem sX12_says : ∀ q ∈ tX12_says, mSnd mInf iX12_says q.1 q.2 := by
  unfold tX12_says
  refine List.forall_mem_cons.mpr ⟨sn_iload_n dX12_says_0 rfl rfl, ?_⟩
  refine List.forall_mem_cons.mpr ⟨sn_iflt dX12_says_1 (by decide) rfl, ?_⟩
  refine List.forall_mem_cons.mpr ⟨sn_iload_n dX12_says_4 rfl rfl, ?_⟩
  refine List.forall_mem_cons.mpr ⟨sn_aload_n dX12_says_5 rfl rfl, ?_⟩
  refine List.forall_mem_cons.mpr ⟨sn_geti mCl_12 (by decide) rfl kt_1071 dX12_says_6 rfl, ?_⟩
  refine List.forall_mem_cons.mpr ⟨sn_icmpge dX12_says_9 (by decide) rfl, ?_⟩
  refine List.forall_mem_cons.mpr ⟨sn_aload_n dX12_says_12 rfl rfl, ?_⟩
  refine List.forall_mem_cons.mpr ⟨sn_iload_n dX12_says_13 rfl rfl, ?_⟩
  refine List.forall_mem_cons.mpr ⟨sn_callV mCl_12 mt_146 rfl kt_1379 kt_1381 kp_54 dX12_says_14 rfl, ?_⟩
  refine List.forall_mem_cons.mpr ⟨sn_ifeq dX12_says_17 (by decide) rfl, ?_⟩
  refine List.forall_mem_cons.mpr ⟨sn_iload_n dX12_says_20 rfl rfl, ?_⟩
  refine List.forall_mem_cons.mpr ⟨sn_callS mt_147 kt_1395 kt_1396 dX12_says_21 rfl, ?_⟩
  refine List.forall_mem_cons.mpr ⟨sn_ifeq dX12_says_24 (by decide) rfl, ?_⟩
  refine List.forall_mem_cons.mpr ⟨sn_aload_n dX12_says_27 rfl rfl, ?_⟩
  refine List.forall_mem_cons.mpr ⟨sn_iload dX12_says_28 rfl, ?_⟩
  refine List.forall_mem_cons.mpr ⟨sn_callV mCl_12 mt_148 rfl kt_1402 kt_1404 kp_55 dX12_says_30 rfl, ?_⟩
  refine List.forall_mem_cons.mpr ⟨sn_ifne dX12_says_33 (by decide) rfl, ?_⟩
  refine List.forall_mem_cons.mpr ⟨sn_iconst dX12_says_36 rfl ⟨by decide, by decide⟩, ?_⟩
  refine List.forall_mem_cons.mpr ⟨sn_iret rfl dX12_says_37, ?_⟩
  refine List.forall_mem_cons.mpr ⟨sn_aload_n dX12_says_38 rfl rfl, ?_⟩
  refine List.forall_mem_cons.mpr ⟨sn_iload_n dX12_says_39 rfl rfl, ?_⟩
  refine List.forall_mem_cons.mpr ⟨sn_iload_n dX12_says_40 rfl rfl, ?_⟩
  refine List.forall_mem_cons.mpr ⟨sn_iload dX12_says_41 rfl, ?_⟩
  refine List.forall_mem_cons.mpr ⟨sn_callV mCl_12 mt_155 rfl kt_1410 kt_1412 kp_57 dX12_says_43 rfl, ?_⟩
  refine List.forall_mem_cons.mpr ⟨sn_aload_n dX12_says_46 rfl rfl, ?_⟩
  refine List.forall_mem_cons.mpr ⟨sn_getr mCl_12 (by decide) rfl kt_1088 dX12_says_47 rfl, ?_⟩
  refine List.forall_mem_cons.mpr ⟨sn_iload_n dX12_says_50 rfl rfl, ?_⟩
  refine List.forall_mem_cons.mpr ⟨sn_iald dX12_says_51 rfl, ?_⟩
  refine List.forall_mem_cons.mpr ⟨sn_iret rfl dX12_says_52, ?_⟩
  exact List.forall_mem_nil _
theorem sX12_variable : ∀ q ∈ tX12_variable, mSnd mInf iX12_variable q.1 q.2 := by
  unfold tX12_variable
  refine List.forall_mem_cons.mpr ⟨sn_aload_n dX12_variable_0 rfl rfl, ?_⟩
  refine List.forall_mem_cons.mpr ⟨sn_getr mCl_12 (by decide) rfl kt_1092 dX12_variable_1 rfl, ?_⟩
  refine List.forall_mem_cons.mpr ⟨sn_iload_n dX12_variable_4 rfl rfl, ?_⟩
  refine List.forall_mem_cons.mpr ⟨sn_iald dX12_variable_5 rfl, ?_⟩
  refine List.forall_mem_cons.mpr ⟨sn_istore_n dX12_variable_6 rfl rfl, ?_⟩
  refine List.forall_mem_cons.mpr ⟨sn_iload_n dX12_variable_7 rfl rfl, ?_⟩
  refine List.forall_mem_cons.mpr ⟨sn_tsw dX12_variable_8 (by decide) (by decide) rfl, ?_⟩
  refine List.forall_mem_cons.mpr ⟨sn_aload_n dX12_variable_48 rfl rfl, ?_⟩
  refine List.forall_mem_cons.mpr ⟨sn_getr mCl_12 (by decide) rfl kt_1079 dX12_variable_49 rfl, ?_⟩
  refine List.forall_mem_cons.mpr ⟨sn_iload_n dX12_variable_52 rfl rfl, ?_⟩
  refine List.forall_mem_cons.mpr ⟨sn_iald dX12_variable_53 rfl, ?_⟩
  refine List.forall_mem_cons.mpr ⟨sn_iret rfl dX12_variable_54, ?_⟩
  refine List.forall_mem_cons.mpr ⟨sn_aload_n dX12_variable_55 rfl rfl, ?_⟩
  refine List.forall_mem_cons.mpr ⟨sn_getr mCl_12 (by decide) rfl kt_1080 dX12_variable_56 rfl, ?_⟩
  refine List.forall_mem_cons.mpr ⟨sn_iload_n dX12_variable_59 rfl rfl, ?_⟩
  refine List.forall_mem_cons.mpr ⟨sn_iald dX12_variable_60 rfl, ?_⟩
  refine List.forall_mem_cons.mpr ⟨sn_iret rfl dX12_variable_61, ?_⟩
  refine List.forall_mem_cons.mpr ⟨sn_aload_n dX12_variable_62 rfl rfl, ?_⟩
  refine List.forall_mem_cons.mpr ⟨sn_getr mCl_12 (by decide) rfl kt_1093 dX12_variable_63 rfl, ?_⟩
  refine List.forall_mem_cons.mpr ⟨sn_iload_n dX12_variable_66 rfl rfl, ?_⟩
  refine List.forall_mem_cons.mpr ⟨sn_iald dX12_variable_67 rfl, ?_⟩
  refine List.forall_mem_cons.mpr ⟨sn_iret rfl dX12_variable_68, ?_⟩
  refine List.forall_mem_cons.mpr ⟨sn_aload_n dX12_variable_69 rfl rfl, ?_⟩
  refine List.forall_mem_cons.mpr ⟨sn_getr mCl_12 (by decide) rfl kt_1094 dX12_variable_70 rfl, ?_⟩
  refine List.forall_mem_cons.mpr ⟨sn_iload_n dX12_variable_73 rfl rfl, ?_⟩
  refine List.forall_mem_cons.mpr ⟨sn_iald dX12_variable_74 rfl, ?_⟩
  refine List.forall_mem_cons.mpr ⟨sn_iret rfl dX12_variable_75, ?_⟩
  refine List.forall_mem_cons.mpr ⟨sn_aload_n dX12_variable_76 rfl rfl, ?_⟩
  refine List.forall_mem_cons.mpr ⟨sn_getr mCl_12 (by decide) rfl kt_1095 dX12_variable_77 rfl, ?_⟩
  refine List.forall_mem_cons.mpr ⟨sn_iload_n dX12_variable_80 rfl rfl, ?_⟩
  refine List.forall_mem_cons.mpr ⟨sn_iald dX12_variable_81 rfl, ?_⟩
  refine List.forall_mem_cons.mpr ⟨sn_iret rfl dX12_variable_82, ?_⟩
  refine List.forall_mem_cons.mpr ⟨sn_aload_n dX12_variable_83 rfl rfl, ?_⟩
  refine List.forall_mem_cons.mpr ⟨sn_getr mCl_12 (by decide) rfl kt_1095 dX12_variable_84 rfl, ?_⟩
  refine List.forall_mem_cons.mpr ⟨sn_iload_n dX12_variable_87 rfl rfl, ?_⟩
  refine List.forall_mem_cons.mpr ⟨sn_iald dX12_variable_88 rfl, ?_⟩
  refine List.forall_mem_cons.mpr ⟨sn_aload_n dX12_variable_89 rfl rfl, ?_⟩
  refine List.forall_mem_cons.mpr ⟨sn_getr mCl_12 (by decide) rfl kt_1094 dX12_variable_90 rfl, ?_⟩
  refine List.forall_mem_cons.mpr ⟨sn_iload_n dX12_variable_93 rfl rfl, ?_⟩
  refine List.forall_mem_cons.mpr ⟨sn_iald dX12_variable_94 rfl, ?_⟩
  refine List.forall_mem_cons.mpr ⟨sn_isub dX12_variable_95 rfl, ?_⟩
  refine List.forall_mem_cons.mpr ⟨sn_iret rfl dX12_variable_96, ?_⟩
  refine List.forall_mem_cons.mpr ⟨sn_aload_n dX12_variable_97 rfl rfl, ?_⟩
  refine List.forall_mem_cons.mpr ⟨sn_getr mCl_12 (by decide) rfl kt_1072 dX12_variable_98 rfl, ?_⟩
  refine List.forall_mem_cons.mpr ⟨sn_aload_n dX12_variable_101 rfl rfl, ?_⟩
  refine List.forall_mem_cons.mpr ⟨sn_getr mCl_12 (by decide) rfl kt_1075 dX12_variable_102 rfl, ?_⟩
  refine List.forall_mem_cons.mpr ⟨sn_iload_n dX12_variable_105 rfl rfl, ?_⟩
  refine List.forall_mem_cons.mpr ⟨sn_iald dX12_variable_106 rfl, ?_⟩
  refine List.forall_mem_cons.mpr ⟨sn_iald dX12_variable_107 rfl, ?_⟩
  refine List.forall_mem_cons.mpr ⟨sn_iret rfl dX12_variable_108, ?_⟩
  exact List.forall_mem_nil _
theorem sX12_value : ∀ q ∈ tX12_value, mSnd mInf iX12_value q.1 q.2 := by
  unfold tX12_value
  refine List.forall_mem_cons.mpr ⟨sn_iconst dX12_value_0 rfl ⟨by decide, by decide⟩, ?_⟩
  refine List.forall_mem_cons.mpr ⟨sn_istore dX12_value_1 rfl, ?_⟩
  refine List.forall_mem_cons.mpr ⟨sn_iload_n dX12_value_3 rfl rfl, ?_⟩
  refine List.forall_mem_cons.mpr ⟨sn_istore dX12_value_4 rfl, ?_⟩
  refine List.forall_mem_cons.mpr ⟨sn_iload dX12_value_6 rfl, ?_⟩
  refine List.forall_mem_cons.mpr ⟨sn_iload_n dX12_value_8 rfl rfl, ?_⟩
  refine List.forall_mem_cons.mpr ⟨sn_icmpge dX12_value_9 (by decide) rfl, ?_⟩
  refine List.forall_mem_cons.mpr ⟨sn_aload_n dX12_value_12 rfl rfl, ?_⟩
  refine List.forall_mem_cons.mpr ⟨sn_getr mCl_12 (by decide) rfl kt_1066 dX12_value_13 rfl, ?_⟩
  refine List.forall_mem_cons.mpr ⟨sn_iload dX12_value_16 rfl, ?_⟩
  refine List.forall_mem_cons.mpr ⟨sn_iald dX12_value_18 rfl, ?_⟩
  refine List.forall_mem_cons.mpr ⟨sn_iconst dX12_value_19 rfl ⟨by decide, by decide⟩, ?_⟩
  refine List.forall_mem_cons.mpr ⟨sn_icmpge dX12_value_20 (by decide) rfl, ?_⟩
  refine List.forall_mem_cons.mpr ⟨sn_aload_n dX12_value_23 rfl rfl, ?_⟩
  refine List.forall_mem_cons.mpr ⟨sn_getr mCl_12 (by decide) rfl kt_1096 dX12_value_24 rfl, ?_⟩
  refine List.forall_mem_cons.mpr ⟨sn_iload dX12_value_27 rfl, ?_⟩
  refine List.forall_mem_cons.mpr ⟨sn_aload_n dX12_value_29 rfl rfl, ?_⟩
  refine List.forall_mem_cons.mpr ⟨sn_getr mCl_12 (by decide) rfl kt_1066 dX12_value_30 rfl, ?_⟩
  refine List.forall_mem_cons.mpr ⟨sn_iload dX12_value_33 rfl, ?_⟩
  refine List.forall_mem_cons.mpr ⟨sn_iald dX12_value_35 rfl, ?_⟩
  refine List.forall_mem_cons.mpr ⟨sn_ifne dX12_value_36 (by decide) rfl, ?_⟩
  refine List.forall_mem_cons.mpr ⟨sn_aload_n dX12_value_39 rfl rfl, ?_⟩
  refine List.forall_mem_cons.mpr ⟨sn_getr mCl_12 (by decide) rfl kt_1067 dX12_value_40 rfl, ?_⟩
  refine List.forall_mem_cons.mpr ⟨sn_iload dX12_value_43 rfl, ?_⟩
  refine List.forall_mem_cons.mpr ⟨sn_iald dX12_value_45 rfl, ?_⟩
  refine List.forall_mem_cons.mpr ⟨sn_goto dX12_value_46 (by decide), ?_⟩
  refine List.forall_mem_cons.mpr ⟨sn_aload_n dX12_value_49 rfl rfl, ?_⟩
  refine List.forall_mem_cons.mpr ⟨sn_aload_n dX12_value_50 rfl rfl, ?_⟩
  refine List.forall_mem_cons.mpr ⟨sn_getr mCl_12 (by decide) rfl kt_1067 dX12_value_51 rfl, ?_⟩
  refine List.forall_mem_cons.mpr ⟨sn_iload dX12_value_54 rfl, ?_⟩
  refine List.forall_mem_cons.mpr ⟨sn_iald dX12_value_56 rfl, ?_⟩
  refine List.forall_mem_cons.mpr ⟨sn_iload_n dX12_value_57 rfl rfl, ?_⟩
  refine List.forall_mem_cons.mpr ⟨sn_callV mCl_12 mt_162 rfl kt_1458 kt_1460 kp_66 dX12_value_58 rfl, ?_⟩
  refine List.forall_mem_cons.mpr ⟨sn_iast dX12_value_61 rfl, ?_⟩
  refine List.forall_mem_cons.mpr ⟨sn_iinc dX12_value_62 rfl, ?_⟩
  refine List.forall_mem_cons.mpr ⟨sn_goto dX12_value_65 (by decide), ?_⟩
  refine List.forall_mem_cons.mpr ⟨sn_iinc dX12_value_68 rfl, ?_⟩
  refine List.forall_mem_cons.mpr ⟨sn_aload_n dX12_value_71 rfl rfl, ?_⟩
  refine List.forall_mem_cons.mpr ⟨sn_getr mCl_12 (by decide) rfl kt_1096 dX12_value_72 rfl, ?_⟩
  refine List.forall_mem_cons.mpr ⟨sn_iload dX12_value_75 rfl, ?_⟩
  refine List.forall_mem_cons.mpr ⟨sn_iconst dX12_value_77 rfl ⟨by decide, by decide⟩, ?_⟩
  refine List.forall_mem_cons.mpr ⟨sn_isub dX12_value_78 rfl, ?_⟩
  refine List.forall_mem_cons.mpr ⟨sn_iald dX12_value_79 rfl, ?_⟩
  refine List.forall_mem_cons.mpr ⟨sn_istore dX12_value_80 rfl, ?_⟩
  refine List.forall_mem_cons.mpr ⟨sn_aload_n dX12_value_82 rfl rfl, ?_⟩
  refine List.forall_mem_cons.mpr ⟨sn_getr mCl_12 (by decide) rfl kt_1096 dX12_value_83 rfl, ?_⟩
  refine List.forall_mem_cons.mpr ⟨sn_iload dX12_value_86 rfl, ?_⟩
  refine List.forall_mem_cons.mpr ⟨sn_iald dX12_value_88 rfl, ?_⟩
  refine List.forall_mem_cons.mpr ⟨sn_istore dX12_value_89 rfl, ?_⟩
  refine List.forall_mem_cons.mpr ⟨sn_aload_n dX12_value_91 rfl rfl, ?_⟩
  refine List.forall_mem_cons.mpr ⟨sn_getr mCl_12 (by decide) rfl kt_1096 dX12_value_92 rfl, ?_⟩
  refine List.forall_mem_cons.mpr ⟨sn_iload dX12_value_95 rfl, ?_⟩
  refine List.forall_mem_cons.mpr ⟨sn_iconst dX12_value_97 rfl ⟨by decide, by decide⟩, ?_⟩
  refine List.forall_mem_cons.mpr ⟨sn_isub dX12_value_98 rfl, ?_⟩
  refine List.forall_mem_cons.mpr ⟨sn_aload_n dX12_value_99 rfl rfl, ?_⟩
  refine List.forall_mem_cons.mpr ⟨sn_getr mCl_12 (by decide) rfl kt_1066 dX12_value_100 rfl, ?_⟩
  refine List.forall_mem_cons.mpr ⟨sn_iload dX12_value_103 rfl, ?_⟩
  refine List.forall_mem_cons.mpr ⟨sn_iald dX12_value_105 rfl, ?_⟩
  refine List.forall_mem_cons.mpr ⟨sn_iconst dX12_value_106 rfl ⟨by decide, by decide⟩, ?_⟩
  refine List.forall_mem_cons.mpr ⟨sn_icmpne dX12_value_107 (by decide) rfl, ?_⟩
  refine List.forall_mem_cons.mpr ⟨sn_iload dX12_value_110 rfl, ?_⟩
  refine List.forall_mem_cons.mpr ⟨sn_iload dX12_value_112 rfl, ?_⟩
  refine List.forall_mem_cons.mpr ⟨sn_iadd dX12_value_114 rfl, ?_⟩
  refine List.forall_mem_cons.mpr ⟨sn_goto dX12_value_115 (by decide), ?_⟩
  refine List.forall_mem_cons.mpr ⟨sn_aload_n dX12_value_118 rfl rfl, ?_⟩
  refine List.forall_mem_cons.mpr ⟨sn_getr mCl_12 (by decide) rfl kt_1066 dX12_value_119 rfl, ?_⟩
  refine List.forall_mem_cons.mpr ⟨sn_iload dX12_value_122 rfl, ?_⟩
  refine List.forall_mem_cons.mpr ⟨sn_iald dX12_value_124 rfl, ?_⟩
  refine List.forall_mem_cons.mpr ⟨sn_iconst dX12_value_125 rfl ⟨by decide, by decide⟩, ?_⟩
  refine List.forall_mem_cons.mpr ⟨sn_icmpne dX12_value_126 (by decide) rfl, ?_⟩
  refine List.forall_mem_cons.mpr ⟨sn_iload dX12_value_129 rfl, ?_⟩
  refine List.forall_mem_cons.mpr ⟨sn_iload dX12_value_131 rfl, ?_⟩
  refine List.forall_mem_cons.mpr ⟨sn_isub dX12_value_133 rfl, ?_⟩
  refine List.forall_mem_cons.mpr ⟨sn_goto dX12_value_134 (by decide), ?_⟩
  refine List.forall_mem_cons.mpr ⟨sn_iload dX12_value_137 rfl, ?_⟩
  refine List.forall_mem_cons.mpr ⟨sn_iload dX12_value_139 rfl, ?_⟩
  refine List.forall_mem_cons.mpr ⟨sn_imul dX12_value_141 rfl, ?_⟩
  refine List.forall_mem_cons.mpr ⟨sn_iast dX12_value_142 rfl, ?_⟩
  refine List.forall_mem_cons.mpr ⟨sn_iinc dX12_value_143 rfl, ?_⟩
  refine List.forall_mem_cons.mpr ⟨sn_goto dX12_value_146 (by decide), ?_⟩
  refine List.forall_mem_cons.mpr ⟨sn_aload_n dX12_value_149 rfl rfl, ?_⟩
  refine List.forall_mem_cons.mpr ⟨sn_getr mCl_12 (by decide) rfl kt_1096 dX12_value_150 rfl, ?_⟩
  refine List.forall_mem_cons.mpr ⟨sn_iconst dX12_value_153 rfl ⟨by decide, by decide⟩, ?_⟩
  refine List.forall_mem_cons.mpr ⟨sn_iald dX12_value_154 rfl, ?_⟩
  refine List.forall_mem_cons.mpr ⟨sn_iret rfl dX12_value_155, ?_⟩
  exact List.forall_mem_nil _
theorem sX12_leastOne : ∀ q ∈ tX12_leastOne, mSnd mInf iX12_leastOne q.1 q.2 := by
  unfold tX12_leastOne
  refine List.forall_mem_cons.mpr ⟨sn_iconst dX12_leastOne_0 rfl ⟨by decide, by decide⟩, ?_⟩
  refine List.forall_mem_cons.mpr ⟨sn_istore_n dX12_leastOne_1 rfl rfl, ?_⟩
  refine List.forall_mem_cons.mpr ⟨sn_iload_n dX12_leastOne_2 rfl rfl, ?_⟩
  refine List.forall_mem_cons.mpr ⟨sn_iload_n dX12_leastOne_3 rfl rfl, ?_⟩
  refine List.forall_mem_cons.mpr ⟨sn_icmpge dX12_leastOne_4 (by decide) rfl, ?_⟩
  refine List.forall_mem_cons.mpr ⟨sn_aload_n dX12_leastOne_7 rfl rfl, ?_⟩
  refine List.forall_mem_cons.mpr ⟨sn_iload_n dX12_leastOne_8 rfl rfl, ?_⟩
  refine List.forall_mem_cons.mpr ⟨sn_iload_n dX12_leastOne_9 rfl rfl, ?_⟩
  refine List.forall_mem_cons.mpr ⟨sn_callV mCl_12 mt_159 rfl kt_1450 kt_1452 kp_64 dX12_leastOne_10 rfl, ?_⟩
  refine List.forall_mem_cons.mpr ⟨sn_ifeq dX12_leastOne_13 (by decide) rfl, ?_⟩
  refine List.forall_mem_cons.mpr ⟨sn_iload_n dX12_leastOne_16 rfl rfl, ?_⟩
  refine List.forall_mem_cons.mpr ⟨sn_iret rfl dX12_leastOne_17, ?_⟩
  refine List.forall_mem_cons.mpr ⟨sn_iinc dX12_leastOne_18 rfl, ?_⟩
  refine List.forall_mem_cons.mpr ⟨sn_goto dX12_leastOne_21 (by decide), ?_⟩
  refine List.forall_mem_cons.mpr ⟨sn_iload_n dX12_leastOne_24 rfl rfl, ?_⟩
  refine List.forall_mem_cons.mpr ⟨sn_iret rfl dX12_leastOne_25, ?_⟩
  exact List.forall_mem_nil _
theorem sX12_isTrue : ∀ q ∈ tX12_isTrue, mSnd mInf iX12_isTrue q.1 q.2 := by
  unfold tX12_isTrue
  refine List.forall_mem_cons.mpr ⟨sn_aload_n dX12_isTrue_0 rfl rfl, ?_⟩
  refine List.forall_mem_cons.mpr ⟨sn_getr mCl_12 (by decide) rfl kt_1060 dX12_isTrue_1 rfl, ?_⟩
  refine List.forall_mem_cons.mpr ⟨sn_iload_n dX12_isTrue_4 rfl rfl, ?_⟩
  refine List.forall_mem_cons.mpr ⟨sn_iald dX12_isTrue_5 rfl, ?_⟩
  refine List.forall_mem_cons.mpr ⟨sn_iconst dX12_isTrue_6 rfl ⟨by decide, by decide⟩, ?_⟩
  refine List.forall_mem_cons.mpr ⟨sn_icmpne dX12_isTrue_7 (by decide) rfl, ?_⟩
  refine List.forall_mem_cons.mpr ⟨sn_aload_n dX12_isTrue_10 rfl rfl, ?_⟩
  refine List.forall_mem_cons.mpr ⟨sn_getr mCl_12 (by decide) rfl kt_1081 dX12_isTrue_11 rfl, ?_⟩
  refine List.forall_mem_cons.mpr ⟨sn_aload_n dX12_isTrue_14 rfl rfl, ?_⟩
  refine List.forall_mem_cons.mpr ⟨sn_getr mCl_12 (by decide) rfl kt_1092 dX12_isTrue_15 rfl, ?_⟩
  refine List.forall_mem_cons.mpr ⟨sn_iload_n dX12_isTrue_18 rfl rfl, ?_⟩
  refine List.forall_mem_cons.mpr ⟨sn_iald dX12_isTrue_19 rfl, ?_⟩
  refine List.forall_mem_cons.mpr ⟨sn_zald dX12_isTrue_20 rfl, ?_⟩
  refine List.forall_mem_cons.mpr ⟨sn_zret rfl dX12_isTrue_21, ?_⟩
  refine List.forall_mem_cons.mpr ⟨sn_aload_n dX12_isTrue_22 rfl rfl, ?_⟩
  refine List.forall_mem_cons.mpr ⟨sn_getr mCl_12 (by decide) rfl kt_1060 dX12_isTrue_23 rfl, ?_⟩
  refine List.forall_mem_cons.mpr ⟨sn_iload_n dX12_isTrue_26 rfl rfl, ?_⟩
  refine List.forall_mem_cons.mpr ⟨sn_iald dX12_isTrue_27 rfl, ?_⟩
  refine List.forall_mem_cons.mpr ⟨sn_iconst dX12_isTrue_28 rfl ⟨by decide, by decide⟩, ?_⟩
  refine List.forall_mem_cons.mpr ⟨sn_icmpne dX12_isTrue_29 (by decide) rfl, ?_⟩
  refine List.forall_mem_cons.mpr ⟨sn_aload_n dX12_isTrue_32 rfl rfl, ?_⟩
  refine List.forall_mem_cons.mpr ⟨sn_iload_n dX12_isTrue_33 rfl rfl, ?_⟩
  refine List.forall_mem_cons.mpr ⟨sn_callV mCl_12 mt_164 rfl kt_1446 kt_1448 kp_63 dX12_isTrue_34 rfl, ?_⟩
  refine List.forall_mem_cons.mpr ⟨sn_iload_n dX12_isTrue_37 rfl rfl, ?_⟩
  refine List.forall_mem_cons.mpr ⟨sn_icmpne dX12_isTrue_38 (by decide) rfl, ?_⟩
  refine List.forall_mem_cons.mpr ⟨sn_iconst dX12_isTrue_41 rfl ⟨by decide, by decide⟩, ?_⟩
  refine List.forall_mem_cons.mpr ⟨sn_goto dX12_isTrue_42 (by decide), ?_⟩
  refine List.forall_mem_cons.mpr ⟨sn_iconst dX12_isTrue_45 rfl ⟨by decide, by decide⟩, ?_⟩
  refine List.forall_mem_cons.mpr ⟨sn_zret rfl dX12_isTrue_46, ?_⟩
  refine List.forall_mem_cons.mpr ⟨sn_aload_n dX12_isTrue_47 rfl rfl, ?_⟩
  refine List.forall_mem_cons.mpr ⟨sn_aload_n dX12_isTrue_48 rfl rfl, ?_⟩
  refine List.forall_mem_cons.mpr ⟨sn_getr mCl_12 (by decide) rfl kt_1061 dX12_isTrue_49 rfl, ?_⟩
  refine List.forall_mem_cons.mpr ⟨sn_iload_n dX12_isTrue_52 rfl rfl, ?_⟩
  refine List.forall_mem_cons.mpr ⟨sn_iald dX12_isTrue_53 rfl, ?_⟩
  refine List.forall_mem_cons.mpr ⟨sn_aload_n dX12_isTrue_54 rfl rfl, ?_⟩
  refine List.forall_mem_cons.mpr ⟨sn_getr mCl_12 (by decide) rfl kt_1062 dX12_isTrue_55 rfl, ?_⟩
  refine List.forall_mem_cons.mpr ⟨sn_iload_n dX12_isTrue_58 rfl rfl, ?_⟩
  refine List.forall_mem_cons.mpr ⟨sn_iald dX12_isTrue_59 rfl, ?_⟩
  refine List.forall_mem_cons.mpr ⟨sn_iload_n dX12_isTrue_60 rfl rfl, ?_⟩
  refine List.forall_mem_cons.mpr ⟨sn_callV mCl_12 mt_163 rfl kt_1454 kt_1456 kp_65 dX12_isTrue_61 rfl, ?_⟩
  refine List.forall_mem_cons.mpr ⟨sn_istore_n dX12_isTrue_64 rfl rfl, ?_⟩
  refine List.forall_mem_cons.mpr ⟨sn_aload_n dX12_isTrue_65 rfl rfl, ?_⟩
  refine List.forall_mem_cons.mpr ⟨sn_aload_n dX12_isTrue_66 rfl rfl, ?_⟩
  refine List.forall_mem_cons.mpr ⟨sn_getr mCl_12 (by decide) rfl kt_1062 dX12_isTrue_67 rfl, ?_⟩
  refine List.forall_mem_cons.mpr ⟨sn_iload_n dX12_isTrue_70 rfl rfl, ?_⟩
  refine List.forall_mem_cons.mpr ⟨sn_iald dX12_isTrue_71 rfl, ?_⟩
  refine List.forall_mem_cons.mpr ⟨sn_aload_n dX12_isTrue_72 rfl rfl, ?_⟩
  refine List.forall_mem_cons.mpr ⟨sn_getr mCl_12 (by decide) rfl kt_1063 dX12_isTrue_73 rfl, ?_⟩
  refine List.forall_mem_cons.mpr ⟨sn_iload_n dX12_isTrue_76 rfl rfl, ?_⟩
  refine List.forall_mem_cons.mpr ⟨sn_iald dX12_isTrue_77 rfl, ?_⟩
  refine List.forall_mem_cons.mpr ⟨sn_iload_n dX12_isTrue_78 rfl rfl, ?_⟩
  refine List.forall_mem_cons.mpr ⟨sn_callV mCl_12 mt_163 rfl kt_1454 kt_1456 kp_65 dX12_isTrue_79 rfl, ?_⟩
  refine List.forall_mem_cons.mpr ⟨sn_istore dX12_isTrue_82 rfl, ?_⟩
  refine List.forall_mem_cons.mpr ⟨sn_aload_n dX12_isTrue_84 rfl rfl, ?_⟩
  refine List.forall_mem_cons.mpr ⟨sn_getr mCl_12 (by decide) rfl kt_1060 dX12_isTrue_85 rfl, ?_⟩
  refine List.forall_mem_cons.mpr ⟨sn_iload_n dX12_isTrue_88 rfl rfl, ?_⟩
  refine List.forall_mem_cons.mpr ⟨sn_iald dX12_isTrue_89 rfl, ?_⟩
  refine List.forall_mem_cons.mpr ⟨sn_ifne dX12_isTrue_90 (by decide) rfl, ?_⟩
  refine List.forall_mem_cons.mpr ⟨sn_iload_n dX12_isTrue_93 rfl rfl, ?_⟩
  refine List.forall_mem_cons.mpr ⟨sn_iload dX12_isTrue_94 rfl, ?_⟩
  refine List.forall_mem_cons.mpr ⟨sn_icmpne dX12_isTrue_96 (by decide) rfl, ?_⟩
  refine List.forall_mem_cons.mpr ⟨sn_iconst dX12_isTrue_99 rfl ⟨by decide, by decide⟩, ?_⟩
  refine List.forall_mem_cons.mpr ⟨sn_goto dX12_isTrue_100 (by decide), ?_⟩
  refine List.forall_mem_cons.mpr ⟨sn_iconst dX12_isTrue_103 rfl ⟨by decide, by decide⟩, ?_⟩
  refine List.forall_mem_cons.mpr ⟨sn_goto dX12_isTrue_104 (by decide), ?_⟩
  refine List.forall_mem_cons.mpr ⟨sn_aload_n dX12_isTrue_107 rfl rfl, ?_⟩
  refine List.forall_mem_cons.mpr ⟨sn_getr mCl_12 (by decide) rfl kt_1060 dX12_isTrue_108 rfl, ?_⟩
  refine List.forall_mem_cons.mpr ⟨sn_iload_n dX12_isTrue_111 rfl rfl, ?_⟩
  refine List.forall_mem_cons.mpr ⟨sn_iald dX12_isTrue_112 rfl, ?_⟩
  refine List.forall_mem_cons.mpr ⟨sn_iconst dX12_isTrue_113 rfl ⟨by decide, by decide⟩, ?_⟩
  refine List.forall_mem_cons.mpr ⟨sn_icmpne dX12_isTrue_114 (by decide) rfl, ?_⟩
  refine List.forall_mem_cons.mpr ⟨sn_iload_n dX12_isTrue_117 rfl rfl, ?_⟩
  refine List.forall_mem_cons.mpr ⟨sn_iload dX12_isTrue_118 rfl, ?_⟩
  refine List.forall_mem_cons.mpr ⟨sn_icmpeq dX12_isTrue_120 (by decide) rfl, ?_⟩
  refine List.forall_mem_cons.mpr ⟨sn_iconst dX12_isTrue_123 rfl ⟨by decide, by decide⟩, ?_⟩
  refine List.forall_mem_cons.mpr ⟨sn_goto dX12_isTrue_124 (by decide), ?_⟩
  refine List.forall_mem_cons.mpr ⟨sn_iconst dX12_isTrue_127 rfl ⟨by decide, by decide⟩, ?_⟩
  refine List.forall_mem_cons.mpr ⟨sn_goto dX12_isTrue_128 (by decide), ?_⟩
  refine List.forall_mem_cons.mpr ⟨sn_aload_n dX12_isTrue_131 rfl rfl, ?_⟩
  refine List.forall_mem_cons.mpr ⟨sn_getr mCl_12 (by decide) rfl kt_1060 dX12_isTrue_132 rfl, ?_⟩
  refine List.forall_mem_cons.mpr ⟨sn_iload_n dX12_isTrue_135 rfl rfl, ?_⟩
  refine List.forall_mem_cons.mpr ⟨sn_iald dX12_isTrue_136 rfl, ?_⟩
  refine List.forall_mem_cons.mpr ⟨sn_iconst dX12_isTrue_137 rfl ⟨by decide, by decide⟩, ?_⟩
  refine List.forall_mem_cons.mpr ⟨sn_icmpne dX12_isTrue_138 (by decide) rfl, ?_⟩
  refine List.forall_mem_cons.mpr ⟨sn_iload_n dX12_isTrue_141 rfl rfl, ?_⟩
  refine List.forall_mem_cons.mpr ⟨sn_iload dX12_isTrue_142 rfl, ?_⟩
  refine List.forall_mem_cons.mpr ⟨sn_icmpge dX12_isTrue_144 (by decide) rfl, ?_⟩
  refine List.forall_mem_cons.mpr ⟨sn_iconst dX12_isTrue_147 rfl ⟨by decide, by decide⟩, ?_⟩
  refine List.forall_mem_cons.mpr ⟨sn_goto dX12_isTrue_148 (by decide), ?_⟩
  refine List.forall_mem_cons.mpr ⟨sn_iconst dX12_isTrue_151 rfl ⟨by decide, by decide⟩, ?_⟩
  refine List.forall_mem_cons.mpr ⟨sn_goto dX12_isTrue_152 (by decide), ?_⟩
  refine List.forall_mem_cons.mpr ⟨sn_iload_n dX12_isTrue_155 rfl rfl, ?_⟩
  refine List.forall_mem_cons.mpr ⟨sn_iload dX12_isTrue_156 rfl, ?_⟩
  refine List.forall_mem_cons.mpr ⟨sn_icmpgt dX12_isTrue_158 (by decide) rfl, ?_⟩
  refine List.forall_mem_cons.mpr ⟨sn_iconst dX12_isTrue_161 rfl ⟨by decide, by decide⟩, ?_⟩
  refine List.forall_mem_cons.mpr ⟨sn_goto dX12_isTrue_162 (by decide), ?_⟩
  refine List.forall_mem_cons.mpr ⟨sn_iconst dX12_isTrue_165 rfl ⟨by decide, by decide⟩, ?_⟩
  refine List.forall_mem_cons.mpr ⟨sn_zret rfl dX12_isTrue_166, ?_⟩
  exact List.forall_mem_nil _
theorem sX12_isHeld : ∀ q ∈ tX12_isHeld, mSnd mInf iX12_isHeld q.1 q.2 := by
  unfold tX12_isHeld
  refine List.forall_mem_cons.mpr ⟨sn_iconst dX12_isHeld_0 rfl ⟨by decide, by decide⟩, ?_⟩
  refine List.forall_mem_cons.mpr ⟨sn_istore_n dX12_isHeld_1 rfl rfl, ?_⟩
  refine List.forall_mem_cons.mpr ⟨sn_aload_n dX12_isHeld_2 rfl rfl, ?_⟩
  refine List.forall_mem_cons.mpr ⟨sn_getr mCl_12 (by decide) rfl kt_1058 dX12_isHeld_3 rfl, ?_⟩
  refine List.forall_mem_cons.mpr ⟨sn_bipush dX12_isHeld_6 rfl (by decide) ⟨by decide, by decide⟩, ?_⟩
  refine List.forall_mem_cons.mpr ⟨sn_aload_n dX12_isHeld_8 rfl rfl, ?_⟩
  refine List.forall_mem_cons.mpr ⟨sn_geti mCl_12 (by decide) rfl kt_1054 dX12_isHeld_9 rfl, ?_⟩
  refine List.forall_mem_cons.mpr ⟨sn_imul dX12_isHeld_12 rfl, ?_⟩
  refine List.forall_mem_cons.mpr ⟨sn_iload_n dX12_isHeld_13 rfl rfl, ?_⟩
  refine List.forall_mem_cons.mpr ⟨sn_iadd dX12_isHeld_14 rfl, ?_⟩
  refine List.forall_mem_cons.mpr ⟨sn_iald dX12_isHeld_15 rfl, ?_⟩
  refine List.forall_mem_cons.mpr ⟨sn_istore dX12_isHeld_16 rfl, ?_⟩
  refine List.forall_mem_cons.mpr ⟨sn_iload dX12_isHeld_18 rfl, ?_⟩
  refine List.forall_mem_cons.mpr ⟨sn_aload_n dX12_isHeld_20 rfl rfl, ?_⟩
  refine List.forall_mem_cons.mpr ⟨sn_getr mCl_12 (by decide) rfl kt_1058 dX12_isHeld_21 rfl, ?_⟩
  refine List.forall_mem_cons.mpr ⟨sn_bipush dX12_isHeld_24 rfl (by decide) ⟨by decide, by decide⟩, ?_⟩
  refine List.forall_mem_cons.mpr ⟨sn_aload_n dX12_isHeld_26 rfl rfl, ?_⟩
  refine List.forall_mem_cons.mpr ⟨sn_geti mCl_12 (by decide) rfl kt_1054 dX12_isHeld_27 rfl, ?_⟩
  refine List.forall_mem_cons.mpr ⟨sn_imul dX12_isHeld_30 rfl, ?_⟩
  refine List.forall_mem_cons.mpr ⟨sn_iload_n dX12_isHeld_31 rfl rfl, ?_⟩
  refine List.forall_mem_cons.mpr ⟨sn_iadd dX12_isHeld_32 rfl, ?_⟩
  refine List.forall_mem_cons.mpr ⟨sn_iconst dX12_isHeld_33 rfl ⟨by decide, by decide⟩, ?_⟩
  refine List.forall_mem_cons.mpr ⟨sn_iadd dX12_isHeld_34 rfl, ?_⟩
  refine List.forall_mem_cons.mpr ⟨sn_iald dX12_isHeld_35 rfl, ?_⟩
  refine List.forall_mem_cons.mpr ⟨sn_icmpge dX12_isHeld_36 (by decide) rfl, ?_⟩
  refine List.forall_mem_cons.mpr ⟨sn_sipush dX12_isHeld_39 rfl (by decide) ⟨by decide, by decide⟩, ?_⟩
  refine List.forall_mem_cons.mpr ⟨sn_aload_n dX12_isHeld_42 rfl rfl, ?_⟩
  refine List.forall_mem_cons.mpr ⟨sn_geti mCl_12 (by decide) rfl kt_1054 dX12_isHeld_43 rfl, ?_⟩
  refine List.forall_mem_cons.mpr ⟨sn_imul dX12_isHeld_46 rfl, ?_⟩
  refine List.forall_mem_cons.mpr ⟨sn_iload dX12_isHeld_47 rfl, ?_⟩
  refine List.forall_mem_cons.mpr ⟨sn_iadd dX12_isHeld_49 rfl, ?_⟩
  refine List.forall_mem_cons.mpr ⟨sn_istore dX12_isHeld_50 rfl, ?_⟩
  refine List.forall_mem_cons.mpr ⟨sn_aload_n dX12_isHeld_52 rfl rfl, ?_⟩
  refine List.forall_mem_cons.mpr ⟨sn_getr mCl_12 (by decide) rfl kt_1064 dX12_isHeld_53 rfl, ?_⟩
  refine List.forall_mem_cons.mpr ⟨sn_iload dX12_isHeld_56 rfl, ?_⟩
  refine List.forall_mem_cons.mpr ⟨sn_zald dX12_isHeld_58 rfl, ?_⟩
  refine List.forall_mem_cons.mpr ⟨sn_ifeq dX12_isHeld_59 (by decide) rfl, ?_⟩
  refine List.forall_mem_cons.mpr ⟨sn_iload_n dX12_isHeld_62 rfl rfl, ?_⟩
  refine List.forall_mem_cons.mpr ⟨sn_ifeq dX12_isHeld_63 (by decide) rfl, ?_⟩
  refine List.forall_mem_cons.mpr ⟨sn_iconst dX12_isHeld_66 rfl ⟨by decide, by decide⟩, ?_⟩
  refine List.forall_mem_cons.mpr ⟨sn_zret rfl dX12_isHeld_67, ?_⟩
  refine List.forall_mem_cons.mpr ⟨sn_aload_n dX12_isHeld_68 rfl rfl, ?_⟩
  refine List.forall_mem_cons.mpr ⟨sn_getr mCl_12 (by decide) rfl kt_1064 dX12_isHeld_69 rfl, ?_⟩
  refine List.forall_mem_cons.mpr ⟨sn_iload dX12_isHeld_72 rfl, ?_⟩
  refine List.forall_mem_cons.mpr ⟨sn_zald dX12_isHeld_74 rfl, ?_⟩
  refine List.forall_mem_cons.mpr ⟨sn_ifeq dX12_isHeld_75 (by decide) rfl, ?_⟩
  refine List.forall_mem_cons.mpr ⟨sn_iconst dX12_isHeld_78 rfl ⟨by decide, by decide⟩, ?_⟩
  refine List.forall_mem_cons.mpr ⟨sn_istore_n dX12_isHeld_79 rfl rfl, ?_⟩
  refine List.forall_mem_cons.mpr ⟨sn_iload_n dX12_isHeld_80 rfl rfl, ?_⟩
  refine List.forall_mem_cons.mpr ⟨sn_ifeq dX12_isHeld_81 (by decide) rfl, ?_⟩
  refine List.forall_mem_cons.mpr ⟨sn_aload_n dX12_isHeld_84 rfl rfl, ?_⟩
  refine List.forall_mem_cons.mpr ⟨sn_iload dX12_isHeld_85 rfl, ?_⟩
  refine List.forall_mem_cons.mpr ⟨sn_iload_n dX12_isHeld_87 rfl rfl, ?_⟩
  refine List.forall_mem_cons.mpr ⟨sn_callV mCl_12 mt_165 rfl kt_1442 kt_1444 kp_62 dX12_isHeld_88 rfl, ?_⟩
  refine List.forall_mem_cons.mpr ⟨sn_ifeq dX12_isHeld_91 (by decide) rfl, ?_⟩
  refine List.forall_mem_cons.mpr ⟨sn_iconst dX12_isHeld_94 rfl ⟨by decide, by decide⟩, ?_⟩
  refine List.forall_mem_cons.mpr ⟨sn_goto dX12_isHeld_95 (by decide), ?_⟩
  refine List.forall_mem_cons.mpr ⟨sn_iconst dX12_isHeld_98 rfl ⟨by decide, by decide⟩, ?_⟩
  refine List.forall_mem_cons.mpr ⟨sn_istore_n dX12_isHeld_99 rfl rfl, ?_⟩
  refine List.forall_mem_cons.mpr ⟨sn_iinc dX12_isHeld_100 rfl, ?_⟩
  refine List.forall_mem_cons.mpr ⟨sn_goto dX12_isHeld_103 (by decide), ?_⟩
  refine List.forall_mem_cons.mpr ⟨sn_iload_n dX12_isHeld_106 rfl rfl, ?_⟩
  refine List.forall_mem_cons.mpr ⟨sn_zret rfl dX12_isHeld_107, ?_⟩
  exact List.forall_mem_nil _
theorem sX12_weightOf : ∀ q ∈ tX12_weightOf, mSnd mInf iX12_weightOf q.1 q.2 := by
  unfold tX12_weightOf
  refine List.forall_mem_cons.mpr ⟨sn_iconst dX12_weightOf_0 rfl ⟨by decide, by decide⟩, ?_⟩
  refine List.forall_mem_cons.mpr ⟨sn_istore_n dX12_weightOf_1 rfl rfl, ?_⟩
  refine List.forall_mem_cons.mpr ⟨sn_iconst dX12_weightOf_2 rfl ⟨by decide, by decide⟩, ?_⟩
  refine List.forall_mem_cons.mpr ⟨sn_istore_n dX12_weightOf_3 rfl rfl, ?_⟩
  refine List.forall_mem_cons.mpr ⟨sn_iload_n dX12_weightOf_4 rfl rfl, ?_⟩
  refine List.forall_mem_cons.mpr ⟨sn_aload_n dX12_weightOf_5 rfl rfl, ?_⟩
  refine List.forall_mem_cons.mpr ⟨sn_getr mCl_12 (by decide) rfl kt_1056 dX12_weightOf_6 rfl, ?_⟩
  refine List.forall_mem_cons.mpr ⟨sn_aload_n dX12_weightOf_9 rfl rfl, ?_⟩
  refine List.forall_mem_cons.mpr ⟨sn_geti mCl_12 (by decide) rfl kt_1054 dX12_weightOf_10 rfl, ?_⟩
  refine List.forall_mem_cons.mpr ⟨sn_iald dX12_weightOf_13 rfl, ?_⟩
  refine List.forall_mem_cons.mpr ⟨sn_icmpge dX12_weightOf_14 (by decide) rfl, ?_⟩
  refine List.forall_mem_cons.mpr ⟨sn_aload_n dX12_weightOf_17 rfl rfl, ?_⟩
  refine List.forall_mem_cons.mpr ⟨sn_getr mCl_12 (by decide) rfl kt_1057 dX12_weightOf_18 rfl, ?_⟩
  refine List.forall_mem_cons.mpr ⟨sn_bipush dX12_weightOf_21 rfl (by decide) ⟨by decide, by decide⟩, ?_⟩
  refine List.forall_mem_cons.mpr ⟨sn_aload_n dX12_weightOf_23 rfl rfl, ?_⟩
  refine List.forall_mem_cons.mpr ⟨sn_geti mCl_12 (by decide) rfl kt_1054 dX12_weightOf_24 rfl, ?_⟩
  refine List.forall_mem_cons.mpr ⟨sn_imul dX12_weightOf_27 rfl, ?_⟩
  refine List.forall_mem_cons.mpr ⟨sn_iload_n dX12_weightOf_28 rfl rfl, ?_⟩
  refine List.forall_mem_cons.mpr ⟨sn_iadd dX12_weightOf_29 rfl, ?_⟩
  refine List.forall_mem_cons.mpr ⟨sn_iald dX12_weightOf_30 rfl, ?_⟩
  refine List.forall_mem_cons.mpr ⟨sn_istore dX12_weightOf_31 rfl, ?_⟩
  refine List.forall_mem_cons.mpr ⟨sn_iload dX12_weightOf_33 rfl, ?_⟩
  refine List.forall_mem_cons.mpr ⟨sn_ifle dX12_weightOf_35 (by decide) rfl, ?_⟩
  refine List.forall_mem_cons.mpr ⟨sn_iload dX12_weightOf_38 rfl, ?_⟩
  refine List.forall_mem_cons.mpr ⟨sn_iload_n dX12_weightOf_40 rfl rfl, ?_⟩
  refine List.forall_mem_cons.mpr ⟨sn_icmple dX12_weightOf_41 (by decide) rfl, ?_⟩
  refine List.forall_mem_cons.mpr ⟨sn_aload_n dX12_weightOf_44 rfl rfl, ?_⟩
  refine List.forall_mem_cons.mpr ⟨sn_iload_n dX12_weightOf_45 rfl rfl, ?_⟩
  refine List.forall_mem_cons.mpr ⟨sn_iload_n dX12_weightOf_46 rfl rfl, ?_⟩
  refine List.forall_mem_cons.mpr ⟨sn_callV mCl_12 mt_166 rfl kt_1438 kt_1440 kp_61 dX12_weightOf_47 rfl, ?_⟩
  refine List.forall_mem_cons.mpr ⟨sn_ifne dX12_weightOf_50 (by decide) rfl, ?_⟩
  refine List.forall_mem_cons.mpr ⟨sn_goto dX12_weightOf_53 (by decide), ?_⟩
  refine List.forall_mem_cons.mpr ⟨sn_iload dX12_weightOf_56 rfl, ?_⟩
  refine List.forall_mem_cons.mpr ⟨sn_ifne dX12_weightOf_58 (by decide) rfl, ?_⟩
  refine List.forall_mem_cons.mpr ⟨sn_iconst dX12_weightOf_61 rfl ⟨by decide, by decide⟩, ?_⟩
  refine List.forall_mem_cons.mpr ⟨sn_iret rfl dX12_weightOf_62, ?_⟩
  refine List.forall_mem_cons.mpr ⟨sn_iload dX12_weightOf_63 rfl, ?_⟩
  refine List.forall_mem_cons.mpr ⟨sn_istore_n dX12_weightOf_65 rfl rfl, ?_⟩
  refine List.forall_mem_cons.mpr ⟨sn_iinc dX12_weightOf_66 rfl, ?_⟩
  refine List.forall_mem_cons.mpr ⟨sn_goto dX12_weightOf_69 (by decide), ?_⟩
  refine List.forall_mem_cons.mpr ⟨sn_iload_n dX12_weightOf_72 rfl rfl, ?_⟩
  refine List.forall_mem_cons.mpr ⟨sn_iret rfl dX12_weightOf_73, ?_⟩
  exact List.forall_mem_nil _
theorem sX12_showings : ∀ q ∈ tX12_showings, mSnd mInf iX12_showings q.1 q.2 := by
  unfold tX12_showings
  refine List.forall_mem_cons.mpr ⟨sn_aload_n dX12_showings_0 rfl rfl, ?_⟩
  refine List.forall_mem_cons.mpr ⟨sn_iload_n dX12_showings_1 rfl rfl, ?_⟩
  refine List.forall_mem_cons.mpr ⟨sn_callV mCl_12 mt_148 rfl kt_1402 kt_1404 kp_55 dX12_showings_2 rfl, ?_⟩
  refine List.forall_mem_cons.mpr ⟨sn_ifne dX12_showings_5 (by decide) rfl, ?_⟩
  refine List.forall_mem_cons.mpr ⟨sn_iconst dX12_showings_8 rfl ⟨by decide, by decide⟩, ?_⟩
  refine List.forall_mem_cons.mpr ⟨sn_iret rfl dX12_showings_9, ?_⟩
  refine List.forall_mem_cons.mpr ⟨sn_aload_n dX12_showings_10 rfl rfl, ?_⟩
  refine List.forall_mem_cons.mpr ⟨sn_iload_n dX12_showings_11 rfl rfl, ?_⟩
  refine List.forall_mem_cons.mpr ⟨sn_callV mCl_12 mt_156 rfl kt_1406 kt_1408 kp_56 dX12_showings_12 rfl, ?_⟩
  refine List.forall_mem_cons.mpr ⟨sn_aload_n dX12_showings_15 rfl rfl, ?_⟩
  refine List.forall_mem_cons.mpr ⟨sn_geti mCl_12 (by decide) rfl kt_1091 dX12_showings_16 rfl, ?_⟩
  refine List.forall_mem_cons.mpr ⟨sn_iret rfl dX12_showings_19, ?_⟩
  exact List.forall_mem_nil _
theorem sX12_showing : ∀ q ∈ tX12_showing, mSnd mInf iX12_showing q.1 q.2 := by
  unfold tX12_showing
  refine List.forall_mem_cons.mpr ⟨sn_aload_n dX12_showing_0 rfl rfl, ?_⟩
  refine List.forall_mem_cons.mpr ⟨sn_iload_n dX12_showing_1 rfl rfl, ?_⟩
  refine List.forall_mem_cons.mpr ⟨sn_callV mCl_12 mt_148 rfl kt_1402 kt_1404 kp_55 dX12_showing_2 rfl, ?_⟩
  refine List.forall_mem_cons.mpr ⟨sn_ifeq dX12_showing_5 (by decide) rfl, ?_⟩
  refine List.forall_mem_cons.mpr ⟨sn_iload_n dX12_showing_8 rfl rfl, ?_⟩
  refine List.forall_mem_cons.mpr ⟨sn_ifge dX12_showing_9 (by decide) rfl, ?_⟩
  refine List.forall_mem_cons.mpr ⟨sn_iconst dX12_showing_12 rfl ⟨by decide, by decide⟩, ?_⟩
  refine List.forall_mem_cons.mpr ⟨sn_iret rfl dX12_showing_13, ?_⟩
  refine List.forall_mem_cons.mpr ⟨sn_aload_n dX12_showing_14 rfl rfl, ?_⟩
  refine List.forall_mem_cons.mpr ⟨sn_iload_n dX12_showing_15 rfl rfl, ?_⟩
  refine List.forall_mem_cons.mpr ⟨sn_callV mCl_12 mt_156 rfl kt_1406 kt_1408 kp_56 dX12_showing_16 rfl, ?_⟩
  refine List.forall_mem_cons.mpr ⟨sn_iload_n dX12_showing_19 rfl rfl, ?_⟩
  refine List.forall_mem_cons.mpr ⟨sn_aload_n dX12_showing_20 rfl rfl, ?_⟩
  refine List.forall_mem_cons.mpr ⟨sn_geti mCl_12 (by decide) rfl kt_1091 dX12_showing_21 rfl, ?_⟩
  refine List.forall_mem_cons.mpr ⟨sn_icmplt dX12_showing_24 (by decide) rfl, ?_⟩
  refine List.forall_mem_cons.mpr ⟨sn_iconst dX12_showing_27 rfl ⟨by decide, by decide⟩, ?_⟩
  refine List.forall_mem_cons.mpr ⟨sn_iret rfl dX12_showing_28, ?_⟩
  refine List.forall_mem_cons.mpr ⟨sn_aload_n dX12_showing_29 rfl rfl, ?_⟩
  refine List.forall_mem_cons.mpr ⟨sn_getr mCl_12 (by decide) rfl kt_1092 dX12_showing_30 rfl, ?_⟩
  refine List.forall_mem_cons.mpr ⟨sn_iload_n dX12_showing_33 rfl rfl, ?_⟩
  refine List.forall_mem_cons.mpr ⟨sn_iald dX12_showing_34 rfl, ?_⟩
  refine List.forall_mem_cons.mpr ⟨sn_istore dX12_showing_35 rfl, ?_⟩
  refine List.forall_mem_cons.mpr ⟨sn_iload_n dX12_showing_37 rfl rfl, ?_⟩
  refine List.forall_mem_cons.mpr ⟨sn_tsw dX12_showing_38 (by decide) (by decide) rfl, ?_⟩
  refine List.forall_mem_cons.mpr ⟨sn_iload dX12_showing_88 rfl, ?_⟩
  refine List.forall_mem_cons.mpr ⟨sn_iret rfl dX12_showing_90, ?_⟩
  refine List.forall_mem_cons.mpr ⟨sn_aload_n dX12_showing_91 rfl rfl, ?_⟩
  refine List.forall_mem_cons.mpr ⟨sn_getr mCl_12 (by decide) rfl kt_1093 dX12_showing_92 rfl, ?_⟩
  refine List.forall_mem_cons.mpr ⟨sn_iload_n dX12_showing_95 rfl rfl, ?_⟩
  refine List.forall_mem_cons.mpr ⟨sn_iald dX12_showing_96 rfl, ?_⟩
  refine List.forall_mem_cons.mpr ⟨sn_iret rfl dX12_showing_97, ?_⟩
  refine List.forall_mem_cons.mpr ⟨sn_aload_n dX12_showing_98 rfl rfl, ?_⟩
  refine List.forall_mem_cons.mpr ⟨sn_getr mCl_12 (by decide) rfl kt_1094 dX12_showing_99 rfl, ?_⟩
  refine List.forall_mem_cons.mpr ⟨sn_iload_n dX12_showing_102 rfl rfl, ?_⟩
  refine List.forall_mem_cons.mpr ⟨sn_iald dX12_showing_103 rfl, ?_⟩
  refine List.forall_mem_cons.mpr ⟨sn_iret rfl dX12_showing_104, ?_⟩
  refine List.forall_mem_cons.mpr ⟨sn_aload_n dX12_showing_105 rfl rfl, ?_⟩
  refine List.forall_mem_cons.mpr ⟨sn_getr mCl_12 (by decide) rfl kt_1095 dX12_showing_106 rfl, ?_⟩
  refine List.forall_mem_cons.mpr ⟨sn_iload_n dX12_showing_109 rfl rfl, ?_⟩
  refine List.forall_mem_cons.mpr ⟨sn_iald dX12_showing_110 rfl, ?_⟩
  refine List.forall_mem_cons.mpr ⟨sn_iret rfl dX12_showing_111, ?_⟩
  refine List.forall_mem_cons.mpr ⟨sn_aload_n dX12_showing_112 rfl rfl, ?_⟩
  refine List.forall_mem_cons.mpr ⟨sn_getr mCl_12 (by decide) rfl kt_1079 dX12_showing_113 rfl, ?_⟩
  refine List.forall_mem_cons.mpr ⟨sn_iload dX12_showing_116 rfl, ?_⟩
  refine List.forall_mem_cons.mpr ⟨sn_iald dX12_showing_118 rfl, ?_⟩
  refine List.forall_mem_cons.mpr ⟨sn_iret rfl dX12_showing_119, ?_⟩
  refine List.forall_mem_cons.mpr ⟨sn_aload_n dX12_showing_120 rfl rfl, ?_⟩
  refine List.forall_mem_cons.mpr ⟨sn_getr mCl_12 (by decide) rfl kt_1080 dX12_showing_121 rfl, ?_⟩
  refine List.forall_mem_cons.mpr ⟨sn_iload dX12_showing_124 rfl, ?_⟩
  refine List.forall_mem_cons.mpr ⟨sn_iald dX12_showing_126 rfl, ?_⟩
  refine List.forall_mem_cons.mpr ⟨sn_iret rfl dX12_showing_127, ?_⟩
  refine List.forall_mem_cons.mpr ⟨sn_aload_n dX12_showing_128 rfl rfl, ?_⟩
  refine List.forall_mem_cons.mpr ⟨sn_iload_n dX12_showing_129 rfl rfl, ?_⟩
  refine List.forall_mem_cons.mpr ⟨sn_callV mCl_12 mt_167 rfl kt_1434 kt_1436 kp_60 dX12_showing_130 rfl, ?_⟩
  refine List.forall_mem_cons.mpr ⟨sn_iret rfl dX12_showing_133, ?_⟩
  refine List.forall_mem_cons.mpr ⟨sn_aload_n dX12_showing_134 rfl rfl, ?_⟩
  refine List.forall_mem_cons.mpr ⟨sn_iload_n dX12_showing_135 rfl rfl, ?_⟩
  refine List.forall_mem_cons.mpr ⟨sn_callV mCl_12 mt_164 rfl kt_1446 kt_1448 kp_63 dX12_showing_136 rfl, ?_⟩
  refine List.forall_mem_cons.mpr ⟨sn_iret rfl dX12_showing_139, ?_⟩
  refine List.forall_mem_cons.mpr ⟨sn_iconst dX12_showing_140 rfl ⟨by decide, by decide⟩, ?_⟩
  refine List.forall_mem_cons.mpr ⟨sn_istore dX12_showing_141 rfl, ?_⟩
  refine List.forall_mem_cons.mpr ⟨sn_iload dX12_showing_143 rfl, ?_⟩
  refine List.forall_mem_cons.mpr ⟨sn_aload_n dX12_showing_145 rfl rfl, ?_⟩
  refine List.forall_mem_cons.mpr ⟨sn_geti mCl_12 (by decide) rfl kt_1091 dX12_showing_146 rfl, ?_⟩
  refine List.forall_mem_cons.mpr ⟨sn_icmpge dX12_showing_149 (by decide) rfl, ?_⟩
  refine List.forall_mem_cons.mpr ⟨sn_iload dX12_showing_152 rfl, ?_⟩
  refine List.forall_mem_cons.mpr ⟨sn_iload_n dX12_showing_154 rfl rfl, ?_⟩
  refine List.forall_mem_cons.mpr ⟨sn_icmpeq dX12_showing_155 (by decide) rfl, ?_⟩
  refine List.forall_mem_cons.mpr ⟨sn_aload_n dX12_showing_158 rfl rfl, ?_⟩
  refine List.forall_mem_cons.mpr ⟨sn_getr mCl_12 (by decide) rfl kt_1079 dX12_showing_159 rfl, ?_⟩
  refine List.forall_mem_cons.mpr ⟨sn_aload_n dX12_showing_162 rfl rfl, ?_⟩
  refine List.forall_mem_cons.mpr ⟨sn_getr mCl_12 (by decide) rfl kt_1092 dX12_showing_163 rfl, ?_⟩
  refine List.forall_mem_cons.mpr ⟨sn_iload dX12_showing_166 rfl, ?_⟩
  refine List.forall_mem_cons.mpr ⟨sn_iald dX12_showing_168 rfl, ?_⟩
  refine List.forall_mem_cons.mpr ⟨sn_iald dX12_showing_169 rfl, ?_⟩
  refine List.forall_mem_cons.mpr ⟨sn_aload_n dX12_showing_170 rfl rfl, ?_⟩
  refine List.forall_mem_cons.mpr ⟨sn_getr mCl_12 (by decide) rfl kt_1079 dX12_showing_171 rfl, ?_⟩
  refine List.forall_mem_cons.mpr ⟨sn_iload dX12_showing_174 rfl, ?_⟩
  refine List.forall_mem_cons.mpr ⟨sn_iald dX12_showing_176 rfl, ?_⟩
  refine List.forall_mem_cons.mpr ⟨sn_icmpne dX12_showing_177 (by decide) rfl, ?_⟩
  refine List.forall_mem_cons.mpr ⟨sn_aload_n dX12_showing_180 rfl rfl, ?_⟩
  refine List.forall_mem_cons.mpr ⟨sn_getr mCl_12 (by decide) rfl kt_1080 dX12_showing_181 rfl, ?_⟩
  refine List.forall_mem_cons.mpr ⟨sn_iload dX12_showing_184 rfl, ?_⟩
  refine List.forall_mem_cons.mpr ⟨sn_iald dX12_showing_186 rfl, ?_⟩
  refine List.forall_mem_cons.mpr ⟨sn_ifeq dX12_showing_187 (by decide) rfl, ?_⟩
  refine List.forall_mem_cons.mpr ⟨sn_aload_n dX12_showing_190 rfl rfl, ?_⟩
  refine List.forall_mem_cons.mpr ⟨sn_getr mCl_12 (by decide) rfl kt_1080 dX12_showing_191 rfl, ?_⟩
  refine List.forall_mem_cons.mpr ⟨sn_aload_n dX12_showing_194 rfl rfl, ?_⟩
  refine List.forall_mem_cons.mpr ⟨sn_getr mCl_12 (by decide) rfl kt_1092 dX12_showing_195 rfl, ?_⟩
  refine List.forall_mem_cons.mpr ⟨sn_iload dX12_showing_198 rfl, ?_⟩
  refine List.forall_mem_cons.mpr ⟨sn_iald dX12_showing_200 rfl, ?_⟩
  refine List.forall_mem_cons.mpr ⟨sn_iald dX12_showing_201 rfl, ?_⟩
  refine List.forall_mem_cons.mpr ⟨sn_ifne dX12_showing_202 (by decide) rfl, ?_⟩
  refine List.forall_mem_cons.mpr ⟨sn_iload dX12_showing_205 rfl, ?_⟩
  refine List.forall_mem_cons.mpr ⟨sn_iret rfl dX12_showing_207, ?_⟩
  refine List.forall_mem_cons.mpr ⟨sn_iinc dX12_showing_208 rfl, ?_⟩
  refine List.forall_mem_cons.mpr ⟨sn_goto dX12_showing_211 (by decide), ?_⟩
  refine List.forall_mem_cons.mpr ⟨sn_iconst dX12_showing_214 rfl ⟨by decide, by decide⟩, ?_⟩
  refine List.forall_mem_cons.mpr ⟨sn_iret rfl dX12_showing_215, ?_⟩
  refine List.forall_mem_cons.mpr ⟨sn_iconst dX12_showing_216 rfl ⟨by decide, by decide⟩, ?_⟩
  refine List.forall_mem_cons.mpr ⟨sn_iret rfl dX12_showing_217, ?_⟩
  exact List.forall_mem_nil _
theorem sX12_holds : ∀ q ∈ tX12_holds, mSnd mInf iX12_holds q.1 q.2 := by
  unfold tX12_holds
  refine List.forall_mem_cons.mpr ⟨sn_iload_n dX12_holds_0 rfl rfl, ?_⟩
  refine List.forall_mem_cons.mpr ⟨sn_iflt dX12_holds_1 (by decide) rfl, ?_⟩
  refine List.forall_mem_cons.mpr ⟨sn_iload_n dX12_holds_4 rfl rfl, ?_⟩
  refine List.forall_mem_cons.mpr ⟨sn_aload_n dX12_holds_5 rfl rfl, ?_⟩
  refine List.forall_mem_cons.mpr ⟨sn_getr mCl_12 (by decide) rfl kt_1056 dX12_holds_6 rfl, ?_⟩
  refine List.forall_mem_cons.mpr ⟨sn_aload_n dX12_holds_9 rfl rfl, ?_⟩
  refine List.forall_mem_cons.mpr ⟨sn_geti mCl_12 (by decide) rfl kt_1054 dX12_holds_10 rfl, ?_⟩
  refine List.forall_mem_cons.mpr ⟨sn_iald dX12_holds_13 rfl, ?_⟩
  refine List.forall_mem_cons.mpr ⟨sn_icmpge dX12_holds_14 (by decide) rfl, ?_⟩
  refine List.forall_mem_cons.mpr ⟨sn_aload_n dX12_holds_17 rfl rfl, ?_⟩
  refine List.forall_mem_cons.mpr ⟨sn_iload_n dX12_holds_18 rfl rfl, ?_⟩
  refine List.forall_mem_cons.mpr ⟨sn_callV mCl_12 mt_148 rfl kt_1402 kt_1404 kp_55 dX12_holds_19 rfl, ?_⟩
  refine List.forall_mem_cons.mpr ⟨sn_ifeq dX12_holds_22 (by decide) rfl, ?_⟩
  refine List.forall_mem_cons.mpr ⟨sn_iload_n dX12_holds_25 rfl rfl, ?_⟩
  refine List.forall_mem_cons.mpr ⟨sn_ifge dX12_holds_26 (by decide) rfl, ?_⟩
  refine List.forall_mem_cons.mpr ⟨sn_iconst dX12_holds_29 rfl ⟨by decide, by decide⟩, ?_⟩
  refine List.forall_mem_cons.mpr ⟨sn_iret rfl dX12_holds_30, ?_⟩
  refine List.forall_mem_cons.mpr ⟨sn_aload_n dX12_holds_31 rfl rfl, ?_⟩
  refine List.forall_mem_cons.mpr ⟨sn_iload_n dX12_holds_32 rfl rfl, ?_⟩
  refine List.forall_mem_cons.mpr ⟨sn_callV mCl_12 mt_156 rfl kt_1406 kt_1408 kp_56 dX12_holds_33 rfl, ?_⟩
  refine List.forall_mem_cons.mpr ⟨sn_iload_n dX12_holds_36 rfl rfl, ?_⟩
  refine List.forall_mem_cons.mpr ⟨sn_aload_n dX12_holds_37 rfl rfl, ?_⟩
  refine List.forall_mem_cons.mpr ⟨sn_geti mCl_12 (by decide) rfl kt_1091 dX12_holds_38 rfl, ?_⟩
  refine List.forall_mem_cons.mpr ⟨sn_icmplt dX12_holds_41 (by decide) rfl, ?_⟩
  refine List.forall_mem_cons.mpr ⟨sn_iconst dX12_holds_44 rfl ⟨by decide, by decide⟩, ?_⟩
  refine List.forall_mem_cons.mpr ⟨sn_goto dX12_holds_45 (by decide), ?_⟩
  refine List.forall_mem_cons.mpr ⟨sn_aload_n dX12_holds_48 rfl rfl, ?_⟩
  refine List.forall_mem_cons.mpr ⟨sn_iload_n dX12_holds_49 rfl rfl, ?_⟩
  refine List.forall_mem_cons.mpr ⟨sn_iload_n dX12_holds_50 rfl rfl, ?_⟩
  refine List.forall_mem_cons.mpr ⟨sn_callV mCl_12 mt_166 rfl kt_1438 kt_1440 kp_61 dX12_holds_51 rfl, ?_⟩
  refine List.forall_mem_cons.mpr ⟨sn_ifeq dX12_holds_54 (by decide) rfl, ?_⟩
  refine List.forall_mem_cons.mpr ⟨sn_iconst dX12_holds_57 rfl ⟨by decide, by decide⟩, ?_⟩
  refine List.forall_mem_cons.mpr ⟨sn_goto dX12_holds_58 (by decide), ?_⟩
  refine List.forall_mem_cons.mpr ⟨sn_iconst dX12_holds_61 rfl ⟨by decide, by decide⟩, ?_⟩
  refine List.forall_mem_cons.mpr ⟨sn_iret rfl dX12_holds_62, ?_⟩
  exact List.forall_mem_nil _
theorem sX12_begins : ∀ q ∈ tX12_begins, mSnd mInf iX12_begins q.1 q.2 := by
  unfold tX12_begins
  refine List.forall_mem_cons.mpr ⟨sn_aload_n dX12_begins_0 rfl rfl, ?_⟩
  refine List.forall_mem_cons.mpr ⟨sn_iconst dX12_begins_1 rfl ⟨by decide, by decide⟩, ?_⟩
  refine List.forall_mem_cons.mpr ⟨sn_puti mCl_12 (by decide) rfl (Or.inl rfl) kt_1113 dX12_begins_2 rfl, ?_⟩
  refine List.forall_mem_cons.mpr ⟨sn_aload_n dX12_begins_5 rfl rfl, ?_⟩
  refine List.forall_mem_cons.mpr ⟨sn_geti mCl_12 (by decide) rfl kt_1097 dX12_begins_6 rfl, ?_⟩
  refine List.forall_mem_cons.mpr ⟨sn_iconst dX12_begins_9 rfl ⟨by decide, by decide⟩, ?_⟩
  refine List.forall_mem_cons.mpr ⟨sn_icmpne dX12_begins_10 (by decide) rfl, ?_⟩
  refine List.forall_mem_cons.mpr ⟨sn_vret rfl dX12_begins_13, ?_⟩
  refine List.forall_mem_cons.mpr ⟨sn_iconst dX12_begins_14 rfl ⟨by decide, by decide⟩, ?_⟩
  refine List.forall_mem_cons.mpr ⟨sn_istore_n dX12_begins_15 rfl rfl, ?_⟩
  refine List.forall_mem_cons.mpr ⟨sn_iload_n dX12_begins_16 rfl rfl, ?_⟩
  refine List.forall_mem_cons.mpr ⟨sn_aload_n dX12_begins_17 rfl rfl, ?_⟩
  refine List.forall_mem_cons.mpr ⟨sn_geti mCl_12 (by decide) rfl kt_1098 dX12_begins_18 rfl, ?_⟩
  refine List.forall_mem_cons.mpr ⟨sn_icmpge dX12_begins_21 (by decide) rfl, ?_⟩
  refine List.forall_mem_cons.mpr ⟨sn_aload_n dX12_begins_24 rfl rfl, ?_⟩
  refine List.forall_mem_cons.mpr ⟨sn_geti mCl_12 (by decide) rfl kt_1099 dX12_begins_25 rfl, ?_⟩
  refine List.forall_mem_cons.mpr ⟨sn_iload_n dX12_begins_28 rfl rfl, ?_⟩
  refine List.forall_mem_cons.mpr ⟨sn_ishr dX12_begins_29 rfl, ?_⟩
  refine List.forall_mem_cons.mpr ⟨sn_iconst dX12_begins_30 rfl ⟨by decide, by decide⟩, ?_⟩
  refine List.forall_mem_cons.mpr ⟨sn_iand dX12_begins_31 rfl, ?_⟩
  refine List.forall_mem_cons.mpr ⟨sn_ifeq dX12_begins_32 (by decide) rfl, ?_⟩
  refine List.forall_mem_cons.mpr ⟨sn_aload_n dX12_begins_35 rfl rfl, ?_⟩
  refine List.forall_mem_cons.mpr ⟨sn_getr mCl_12 (by decide) rfl kt_1103 dX12_begins_36 rfl, ?_⟩
  refine List.forall_mem_cons.mpr ⟨sn_iload_n dX12_begins_39 rfl rfl, ?_⟩
  refine List.forall_mem_cons.mpr ⟨sn_iald dX12_begins_40 rfl, ?_⟩
  refine List.forall_mem_cons.mpr ⟨sn_aload_n dX12_begins_41 rfl rfl, ?_⟩
  refine List.forall_mem_cons.mpr ⟨sn_geti mCl_12 (by decide) rfl kt_1086 dX12_begins_42 rfl, ?_⟩
  refine List.forall_mem_cons.mpr ⟨sn_icmplt dX12_begins_45 (by decide) rfl, ?_⟩
  refine List.forall_mem_cons.mpr ⟨sn_goto dX12_begins_48 (by decide), ?_⟩
  refine List.forall_mem_cons.mpr ⟨sn_aload_n dX12_begins_51 rfl rfl, ?_⟩
  refine List.forall_mem_cons.mpr ⟨sn_getr mCl_12 (by decide) rfl kt_1114 dX12_begins_52 rfl, ?_⟩
  refine List.forall_mem_cons.mpr ⟨sn_aload_n dX12_begins_55 rfl rfl, ?_⟩
  refine List.forall_mem_cons.mpr ⟨sn_geti mCl_12 (by decide) rfl kt_1113 dX12_begins_56 rfl, ?_⟩
  refine List.forall_mem_cons.mpr ⟨sn_aload_n dX12_begins_59 rfl rfl, ?_⟩
  refine List.forall_mem_cons.mpr ⟨sn_getr mCl_12 (by decide) rfl kt_1106 dX12_begins_60 rfl, ?_⟩
  refine List.forall_mem_cons.mpr ⟨sn_iload_n dX12_begins_63 rfl rfl, ?_⟩
  refine List.forall_mem_cons.mpr ⟨sn_iald dX12_begins_64 rfl, ?_⟩
  refine List.forall_mem_cons.mpr ⟨sn_iast dX12_begins_65 rfl, ?_⟩
  refine List.forall_mem_cons.mpr ⟨sn_aload_n dX12_begins_66 rfl rfl, ?_⟩
  refine List.forall_mem_cons.mpr ⟨sn_getr mCl_12 (by decide) rfl kt_1115 dX12_begins_67 rfl, ?_⟩
  refine List.forall_mem_cons.mpr ⟨sn_aload_n dX12_begins_70 rfl rfl, ?_⟩
  refine List.forall_mem_cons.mpr ⟨sn_geti mCl_12 (by decide) rfl kt_1113 dX12_begins_71 rfl, ?_⟩
  refine List.forall_mem_cons.mpr ⟨sn_aload_n dX12_begins_74 rfl rfl, ?_⟩
  refine List.forall_mem_cons.mpr ⟨sn_getr mCl_12 (by decide) rfl kt_1107 dX12_begins_75 rfl, ?_⟩
  refine List.forall_mem_cons.mpr ⟨sn_iload_n dX12_begins_78 rfl rfl, ?_⟩
  refine List.forall_mem_cons.mpr ⟨sn_iald dX12_begins_79 rfl, ?_⟩
  refine List.forall_mem_cons.mpr ⟨sn_iast dX12_begins_80 rfl, ?_⟩
  refine List.forall_mem_cons.mpr ⟨sn_aload_n dX12_begins_81 rfl rfl, ?_⟩
  refine List.forall_mem_cons.mpr ⟨sn_getr mCl_12 (by decide) rfl kt_1116 dX12_begins_82 rfl, ?_⟩
  refine List.forall_mem_cons.mpr ⟨sn_aload_n dX12_begins_85 rfl rfl, ?_⟩
  refine List.forall_mem_cons.mpr ⟨sn_geti mCl_12 (by decide) rfl kt_1113 dX12_begins_86 rfl, ?_⟩
  refine List.forall_mem_cons.mpr ⟨sn_aload_n dX12_begins_89 rfl rfl, ?_⟩
  refine List.forall_mem_cons.mpr ⟨sn_getr mCl_12 (by decide) rfl kt_1108 dX12_begins_90 rfl, ?_⟩
  refine List.forall_mem_cons.mpr ⟨sn_iload_n dX12_begins_93 rfl rfl, ?_⟩
  refine List.forall_mem_cons.mpr ⟨sn_iald dX12_begins_94 rfl, ?_⟩
  refine List.forall_mem_cons.mpr ⟨sn_iast dX12_begins_95 rfl, ?_⟩
  refine List.forall_mem_cons.mpr ⟨sn_aload_n dX12_begins_96 rfl rfl, ?_⟩
  refine List.forall_mem_cons.mpr ⟨sn_getr mCl_12 (by decide) rfl kt_1117 dX12_begins_97 rfl, ?_⟩
  refine List.forall_mem_cons.mpr ⟨sn_aload_n dX12_begins_100 rfl rfl, ?_⟩
  refine List.forall_mem_cons.mpr ⟨sn_geti mCl_12 (by decide) rfl kt_1113 dX12_begins_101 rfl, ?_⟩
  refine List.forall_mem_cons.mpr ⟨sn_aload_n dX12_begins_104 rfl rfl, ?_⟩
  refine List.forall_mem_cons.mpr ⟨sn_getr mCl_12 (by decide) rfl kt_1105 dX12_begins_105 rfl, ?_⟩
  refine List.forall_mem_cons.mpr ⟨sn_iload_n dX12_begins_108 rfl rfl, ?_⟩
  refine List.forall_mem_cons.mpr ⟨sn_iald dX12_begins_109 rfl, ?_⟩
  refine List.forall_mem_cons.mpr ⟨sn_iast dX12_begins_110 rfl, ?_⟩
  refine List.forall_mem_cons.mpr ⟨sn_aload_n dX12_begins_111 rfl rfl, ?_⟩
  refine List.forall_mem_cons.mpr ⟨sn_dup dX12_begins_112 rfl, ?_⟩
  refine List.forall_mem_cons.mpr ⟨sn_geti mCl_12 (by decide) rfl kt_1113 dX12_begins_113 rfl, ?_⟩
  refine List.forall_mem_cons.mpr ⟨sn_iconst dX12_begins_116 rfl ⟨by decide, by decide⟩, ?_⟩
  refine List.forall_mem_cons.mpr ⟨sn_iadd dX12_begins_117 rfl, ?_⟩
  refine List.forall_mem_cons.mpr ⟨sn_puti mCl_12 (by decide) rfl (Or.inl rfl) kt_1113 dX12_begins_118 rfl, ?_⟩
  refine List.forall_mem_cons.mpr ⟨sn_iinc dX12_begins_121 rfl, ?_⟩
  refine List.forall_mem_cons.mpr ⟨sn_goto dX12_begins_124 (by decide), ?_⟩
  refine List.forall_mem_cons.mpr ⟨sn_vret rfl dX12_begins_127, ?_⟩
  exact List.forall_mem_nil _
theorem sX12_meet : ∀ q ∈ tX12_meet, mSnd mInf iX12_meet q.1 q.2 := by
  unfold tX12_meet
  refine List.forall_mem_cons.mpr ⟨sn_aload_n dX12_meet_0 rfl rfl, ?_⟩
  refine List.forall_mem_cons.mpr ⟨sn_getr mCl_12 (by decide) rfl kt_1103 dX12_meet_1 rfl, ?_⟩
  refine List.forall_mem_cons.mpr ⟨sn_iload_n dX12_meet_4 rfl rfl, ?_⟩
  refine List.forall_mem_cons.mpr ⟨sn_iald dX12_meet_5 rfl, ?_⟩
  refine List.forall_mem_cons.mpr ⟨sn_aload_n dX12_meet_6 rfl rfl, ?_⟩
  refine List.forall_mem_cons.mpr ⟨sn_getr mCl_12 (by decide) rfl kt_1104 dX12_meet_7 rfl, ?_⟩
  refine List.forall_mem_cons.mpr ⟨sn_iload_n dX12_meet_10 rfl rfl, ?_⟩
  refine List.forall_mem_cons.mpr ⟨sn_iald dX12_meet_11 rfl, ?_⟩
  refine List.forall_mem_cons.mpr ⟨sn_icmpge dX12_meet_12 (by decide) rfl, ?_⟩
  refine List.forall_mem_cons.mpr ⟨sn_aload_n dX12_meet_15 rfl rfl, ?_⟩
  refine List.forall_mem_cons.mpr ⟨sn_getr mCl_12 (by decide) rfl kt_1103 dX12_meet_16 rfl, ?_⟩
  refine List.forall_mem_cons.mpr ⟨sn_iload_n dX12_meet_19 rfl rfl, ?_⟩
  refine List.forall_mem_cons.mpr ⟨sn_iald dX12_meet_20 rfl, ?_⟩
  refine List.forall_mem_cons.mpr ⟨sn_aload_n dX12_meet_21 rfl rfl, ?_⟩
  refine List.forall_mem_cons.mpr ⟨sn_getr mCl_12 (by decide) rfl kt_1104 dX12_meet_22 rfl, ?_⟩
  refine List.forall_mem_cons.mpr ⟨sn_iload_n dX12_meet_25 rfl rfl, ?_⟩
  refine List.forall_mem_cons.mpr ⟨sn_iald dX12_meet_26 rfl, ?_⟩
  refine List.forall_mem_cons.mpr ⟨sn_icmpge dX12_meet_27 (by decide) rfl, ?_⟩
  refine List.forall_mem_cons.mpr ⟨sn_iconst dX12_meet_30 rfl ⟨by decide, by decide⟩, ?_⟩
  refine List.forall_mem_cons.mpr ⟨sn_goto dX12_meet_31 (by decide), ?_⟩
  refine List.forall_mem_cons.mpr ⟨sn_iconst dX12_meet_34 rfl ⟨by decide, by decide⟩, ?_⟩
  refine List.forall_mem_cons.mpr ⟨sn_zret rfl dX12_meet_35, ?_⟩
  exact List.forall_mem_nil _
theorem sX12_areAlike : ∀ q ∈ tX12_areAlike, mSnd mInf iX12_areAlike q.1 q.2 := by
  unfold tX12_areAlike
  refine List.forall_mem_cons.mpr ⟨sn_aload_n dX12_areAlike_0 rfl rfl, ?_⟩
  refine List.forall_mem_cons.mpr ⟨sn_getr mCl_12 (by decide) rfl kt_1107 dX12_areAlike_1 rfl, ?_⟩
  refine List.forall_mem_cons.mpr ⟨sn_iload_n dX12_areAlike_4 rfl rfl, ?_⟩
  refine List.forall_mem_cons.mpr ⟨sn_iald dX12_areAlike_5 rfl, ?_⟩
  refine List.forall_mem_cons.mpr ⟨sn_aload_n dX12_areAlike_6 rfl rfl, ?_⟩
  refine List.forall_mem_cons.mpr ⟨sn_getr mCl_12 (by decide) rfl kt_1107 dX12_areAlike_7 rfl, ?_⟩
  refine List.forall_mem_cons.mpr ⟨sn_iload_n dX12_areAlike_10 rfl rfl, ?_⟩
  refine List.forall_mem_cons.mpr ⟨sn_iald dX12_areAlike_11 rfl, ?_⟩
  refine List.forall_mem_cons.mpr ⟨sn_icmpne dX12_areAlike_12 (by decide) rfl, ?_⟩
  refine List.forall_mem_cons.mpr ⟨sn_aload_n dX12_areAlike_15 rfl rfl, ?_⟩
  refine List.forall_mem_cons.mpr ⟨sn_getr mCl_12 (by decide) rfl kt_1108 dX12_areAlike_16 rfl, ?_⟩
  refine List.forall_mem_cons.mpr ⟨sn_iload_n dX12_areAlike_19 rfl rfl, ?_⟩
  refine List.forall_mem_cons.mpr ⟨sn_iald dX12_areAlike_20 rfl, ?_⟩
  refine List.forall_mem_cons.mpr ⟨sn_aload_n dX12_areAlike_21 rfl rfl, ?_⟩
  refine List.forall_mem_cons.mpr ⟨sn_getr mCl_12 (by decide) rfl kt_1108 dX12_areAlike_22 rfl, ?_⟩
  refine List.forall_mem_cons.mpr ⟨sn_iload_n dX12_areAlike_25 rfl rfl, ?_⟩
  refine List.forall_mem_cons.mpr ⟨sn_iald dX12_areAlike_26 rfl, ?_⟩
  refine List.forall_mem_cons.mpr ⟨sn_icmpne dX12_areAlike_27 (by decide) rfl, ?_⟩
  refine List.forall_mem_cons.mpr ⟨sn_aload_n dX12_areAlike_30 rfl rfl, ?_⟩
  refine List.forall_mem_cons.mpr ⟨sn_getr mCl_12 (by decide) rfl kt_1108 dX12_areAlike_31 rfl, ?_⟩
  refine List.forall_mem_cons.mpr ⟨sn_iload_n dX12_areAlike_34 rfl rfl, ?_⟩
  refine List.forall_mem_cons.mpr ⟨sn_iald dX12_areAlike_35 rfl, ?_⟩
  refine List.forall_mem_cons.mpr ⟨sn_ifeq dX12_areAlike_36 (by decide) rfl, ?_⟩
  refine List.forall_mem_cons.mpr ⟨sn_iconst dX12_areAlike_39 rfl ⟨by decide, by decide⟩, ?_⟩
  refine List.forall_mem_cons.mpr ⟨sn_goto dX12_areAlike_40 (by decide), ?_⟩
  refine List.forall_mem_cons.mpr ⟨sn_iconst dX12_areAlike_43 rfl ⟨by decide, by decide⟩, ?_⟩
  refine List.forall_mem_cons.mpr ⟨sn_zret rfl dX12_areAlike_44, ?_⟩
  exact List.forall_mem_nil _
theorem sX12_roomOf : ∀ q ∈ tX12_roomOf, mSnd mInf iX12_roomOf q.1 q.2 := by
  unfold tX12_roomOf
  refine List.forall_mem_cons.mpr ⟨sn_iconst dX12_roomOf_0 rfl ⟨by decide, by decide⟩, ?_⟩
  refine List.forall_mem_cons.mpr ⟨sn_istore_n dX12_roomOf_1 rfl rfl, ?_⟩
  refine List.forall_mem_cons.mpr ⟨sn_iconst dX12_roomOf_2 rfl ⟨by decide, by decide⟩, ?_⟩
  refine List.forall_mem_cons.mpr ⟨sn_istore_n dX12_roomOf_3 rfl rfl, ?_⟩
  refine List.forall_mem_cons.mpr ⟨sn_iload_n dX12_roomOf_4 rfl rfl, ?_⟩
  refine List.forall_mem_cons.mpr ⟨sn_aload_n dX12_roomOf_5 rfl rfl, ?_⟩
  refine List.forall_mem_cons.mpr ⟨sn_geti mCl_12 (by decide) rfl kt_1098 dX12_roomOf_6 rfl, ?_⟩
  refine List.forall_mem_cons.mpr ⟨sn_icmpge dX12_roomOf_9 (by decide) rfl, ?_⟩
  refine List.forall_mem_cons.mpr ⟨sn_iload_n dX12_roomOf_12 rfl rfl, ?_⟩
  refine List.forall_mem_cons.mpr ⟨sn_iload_n dX12_roomOf_13 rfl rfl, ?_⟩
  refine List.forall_mem_cons.mpr ⟨sn_ishr dX12_roomOf_14 rfl, ?_⟩
  refine List.forall_mem_cons.mpr ⟨sn_iconst dX12_roomOf_15 rfl ⟨by decide, by decide⟩, ?_⟩
  refine List.forall_mem_cons.mpr ⟨sn_iand dX12_roomOf_16 rfl, ?_⟩
  refine List.forall_mem_cons.mpr ⟨sn_iconst dX12_roomOf_17 rfl ⟨by decide, by decide⟩, ?_⟩
  refine List.forall_mem_cons.mpr ⟨sn_icmpne dX12_roomOf_18 (by decide) rfl, ?_⟩
  refine List.forall_mem_cons.mpr ⟨sn_iload_n dX12_roomOf_21 rfl rfl, ?_⟩
  refine List.forall_mem_cons.mpr ⟨sn_aload_n dX12_roomOf_22 rfl rfl, ?_⟩
  refine List.forall_mem_cons.mpr ⟨sn_getr mCl_12 (by decide) rfl kt_1104 dX12_roomOf_23 rfl, ?_⟩
  refine List.forall_mem_cons.mpr ⟨sn_iload_n dX12_roomOf_26 rfl rfl, ?_⟩
  refine List.forall_mem_cons.mpr ⟨sn_iald dX12_roomOf_27 rfl, ?_⟩
  refine List.forall_mem_cons.mpr ⟨sn_aload_n dX12_roomOf_28 rfl rfl, ?_⟩
  refine List.forall_mem_cons.mpr ⟨sn_getr mCl_12 (by decide) rfl kt_1103 dX12_roomOf_29 rfl, ?_⟩
  refine List.forall_mem_cons.mpr ⟨sn_iload_n dX12_roomOf_32 rfl rfl, ?_⟩
  refine List.forall_mem_cons.mpr ⟨sn_iald dX12_roomOf_33 rfl, ?_⟩
  refine List.forall_mem_cons.mpr ⟨sn_isub dX12_roomOf_34 rfl, ?_⟩
  refine List.forall_mem_cons.mpr ⟨sn_iadd dX12_roomOf_35 rfl, ?_⟩
  refine List.forall_mem_cons.mpr ⟨sn_istore_n dX12_roomOf_36 rfl rfl, ?_⟩
  refine List.forall_mem_cons.mpr ⟨sn_iinc dX12_roomOf_37 rfl, ?_⟩
  refine List.forall_mem_cons.mpr ⟨sn_goto dX12_roomOf_40 (by decide), ?_⟩
  refine List.forall_mem_cons.mpr ⟨sn_iload_n dX12_roomOf_43 rfl rfl, ?_⟩
  refine List.forall_mem_cons.mpr ⟨sn_iret rfl dX12_roomOf_44, ?_⟩
  exact List.forall_mem_nil _
theorem sX12_isThin : ∀ q ∈ tX12_isThin, mSnd mInf iX12_isThin q.1 q.2 := by
  unfold tX12_isThin
  refine List.forall_mem_cons.mpr ⟨sn_iconst dX12_isThin_0 rfl ⟨by decide, by decide⟩, ?_⟩
  refine List.forall_mem_cons.mpr ⟨sn_istore_n dX12_isThin_1 rfl rfl, ?_⟩
  refine List.forall_mem_cons.mpr ⟨sn_iload_n dX12_isThin_2 rfl rfl, ?_⟩
  refine List.forall_mem_cons.mpr ⟨sn_aload_n dX12_isThin_3 rfl rfl, ?_⟩
  refine List.forall_mem_cons.mpr ⟨sn_geti mCl_12 (by decide) rfl kt_1098 dX12_isThin_4 rfl, ?_⟩
  refine List.forall_mem_cons.mpr ⟨sn_icmpge dX12_isThin_7 (by decide) rfl, ?_⟩
  refine List.forall_mem_cons.mpr ⟨sn_iload_n dX12_isThin_10 rfl rfl, ?_⟩
  refine List.forall_mem_cons.mpr ⟨sn_iload_n dX12_isThin_11 rfl rfl, ?_⟩
  refine List.forall_mem_cons.mpr ⟨sn_ishr dX12_isThin_12 rfl, ?_⟩
  refine List.forall_mem_cons.mpr ⟨sn_iconst dX12_isThin_13 rfl ⟨by decide, by decide⟩, ?_⟩
  refine List.forall_mem_cons.mpr ⟨sn_iand dX12_isThin_14 rfl, ?_⟩
  refine List.forall_mem_cons.mpr ⟨sn_ifne dX12_isThin_15 (by decide) rfl, ?_⟩
  refine List.forall_mem_cons.mpr ⟨sn_goto dX12_isThin_18 (by decide), ?_⟩
  refine List.forall_mem_cons.mpr ⟨sn_iconst dX12_isThin_21 rfl ⟨by decide, by decide⟩, ?_⟩
  refine List.forall_mem_cons.mpr ⟨sn_istore_n dX12_isThin_22 rfl rfl, ?_⟩
  refine List.forall_mem_cons.mpr ⟨sn_iconst dX12_isThin_23 rfl ⟨by decide, by decide⟩, ?_⟩
  refine List.forall_mem_cons.mpr ⟨sn_istore dX12_isThin_24 rfl, ?_⟩
  refine List.forall_mem_cons.mpr ⟨sn_iload dX12_isThin_26 rfl, ?_⟩
  refine List.forall_mem_cons.mpr ⟨sn_aload_n dX12_isThin_28 rfl rfl, ?_⟩
  refine List.forall_mem_cons.mpr ⟨sn_geti mCl_12 (by decide) rfl kt_1098 dX12_isThin_29 rfl, ?_⟩
  refine List.forall_mem_cons.mpr ⟨sn_icmpge dX12_isThin_32 (by decide) rfl, ?_⟩
  refine List.forall_mem_cons.mpr ⟨sn_iload_n dX12_isThin_35 rfl rfl, ?_⟩
  refine List.forall_mem_cons.mpr ⟨sn_iload dX12_isThin_36 rfl, ?_⟩
  refine List.forall_mem_cons.mpr ⟨sn_ishr dX12_isThin_38 rfl, ?_⟩
  refine List.forall_mem_cons.mpr ⟨sn_iconst dX12_isThin_39 rfl ⟨by decide, by decide⟩, ?_⟩
  refine List.forall_mem_cons.mpr ⟨sn_iand dX12_isThin_40 rfl, ?_⟩
  refine List.forall_mem_cons.mpr ⟨sn_iconst dX12_isThin_41 rfl ⟨by decide, by decide⟩, ?_⟩
  refine List.forall_mem_cons.mpr ⟨sn_icmpne dX12_isThin_42 (by decide) rfl, ?_⟩
  refine List.forall_mem_cons.mpr ⟨sn_aload_n dX12_isThin_45 rfl rfl, ?_⟩
  refine List.forall_mem_cons.mpr ⟨sn_getr mCl_12 (by decide) rfl kt_1103 dX12_isThin_46 rfl, ?_⟩
  refine List.forall_mem_cons.mpr ⟨sn_iload dX12_isThin_49 rfl, ?_⟩
  refine List.forall_mem_cons.mpr ⟨sn_iald dX12_isThin_51 rfl, ?_⟩
  refine List.forall_mem_cons.mpr ⟨sn_aload_n dX12_isThin_52 rfl rfl, ?_⟩
  refine List.forall_mem_cons.mpr ⟨sn_getr mCl_12 (by decide) rfl kt_1103 dX12_isThin_53 rfl, ?_⟩
  refine List.forall_mem_cons.mpr ⟨sn_iload_n dX12_isThin_56 rfl rfl, ?_⟩
  refine List.forall_mem_cons.mpr ⟨sn_iald dX12_isThin_57 rfl, ?_⟩
  refine List.forall_mem_cons.mpr ⟨sn_icmpgt dX12_isThin_58 (by decide) rfl, ?_⟩
  refine List.forall_mem_cons.mpr ⟨sn_aload_n dX12_isThin_61 rfl rfl, ?_⟩
  refine List.forall_mem_cons.mpr ⟨sn_getr mCl_12 (by decide) rfl kt_1103 dX12_isThin_62 rfl, ?_⟩
  refine List.forall_mem_cons.mpr ⟨sn_iload_n dX12_isThin_65 rfl rfl, ?_⟩
  refine List.forall_mem_cons.mpr ⟨sn_iald dX12_isThin_66 rfl, ?_⟩
  refine List.forall_mem_cons.mpr ⟨sn_aload_n dX12_isThin_67 rfl rfl, ?_⟩
  refine List.forall_mem_cons.mpr ⟨sn_getr mCl_12 (by decide) rfl kt_1104 dX12_isThin_68 rfl, ?_⟩
  refine List.forall_mem_cons.mpr ⟨sn_iload dX12_isThin_71 rfl, ?_⟩
  refine List.forall_mem_cons.mpr ⟨sn_iald dX12_isThin_73 rfl, ?_⟩
  refine List.forall_mem_cons.mpr ⟨sn_icmpge dX12_isThin_74 (by decide) rfl, ?_⟩
  refine List.forall_mem_cons.mpr ⟨sn_iinc dX12_isThin_77 rfl, ?_⟩
  refine List.forall_mem_cons.mpr ⟨sn_iinc dX12_isThin_80 rfl, ?_⟩
  refine List.forall_mem_cons.mpr ⟨sn_goto dX12_isThin_83 (by decide), ?_⟩
  refine List.forall_mem_cons.mpr ⟨sn_iload_n dX12_isThin_86 rfl rfl, ?_⟩
  refine List.forall_mem_cons.mpr ⟨sn_aload_n dX12_isThin_87 rfl rfl, ?_⟩
  refine List.forall_mem_cons.mpr ⟨sn_geti mCl_12 (by decide) rfl kt_1082 dX12_isThin_88 rfl, ?_⟩
  refine List.forall_mem_cons.mpr ⟨sn_icmple dX12_isThin_91 (by decide) rfl, ?_⟩
  refine List.forall_mem_cons.mpr ⟨sn_iconst dX12_isThin_94 rfl ⟨by decide, by decide⟩, ?_⟩
  refine List.forall_mem_cons.mpr ⟨sn_zret rfl dX12_isThin_95, ?_⟩
  refine List.forall_mem_cons.mpr ⟨sn_iinc dX12_isThin_96 rfl, ?_⟩
  refine List.forall_mem_cons.mpr ⟨sn_goto dX12_isThin_99 (by decide), ?_⟩
  refine List.forall_mem_cons.mpr ⟨sn_iconst dX12_isThin_102 rfl ⟨by decide, by decide⟩, ?_⟩
  refine List.forall_mem_cons.mpr ⟨sn_zret rfl dX12_isThin_103, ?_⟩
  exact List.forall_mem_nil _
theorem sX12_isPlan : ∀ q ∈ tX12_isPlan, mSnd mInf iX12_isPlan q.1 q.2 := by
  unfold tX12_isPlan
  refine List.forall_mem_cons.mpr ⟨sn_iconst dX12_isPlan_0 rfl ⟨by decide, by decide⟩, ?_⟩
  refine List.forall_mem_cons.mpr ⟨sn_istore_n dX12_isPlan_1 rfl rfl, ?_⟩
  refine List.forall_mem_cons.mpr ⟨sn_iload_n dX12_isPlan_2 rfl rfl, ?_⟩
  refine List.forall_mem_cons.mpr ⟨sn_aload_n dX12_isPlan_3 rfl rfl, ?_⟩
  refine List.forall_mem_cons.mpr ⟨sn_geti mCl_12 (by decide) rfl kt_1098 dX12_isPlan_4 rfl, ?_⟩
  refine List.forall_mem_cons.mpr ⟨sn_icmpge dX12_isPlan_7 (by decide) rfl, ?_⟩
  refine List.forall_mem_cons.mpr ⟨sn_iload_n dX12_isPlan_10 rfl rfl, ?_⟩
  refine List.forall_mem_cons.mpr ⟨sn_iload_n dX12_isPlan_11 rfl rfl, ?_⟩
  refine List.forall_mem_cons.mpr ⟨sn_ishr dX12_isPlan_12 rfl, ?_⟩
  refine List.forall_mem_cons.mpr ⟨sn_iconst dX12_isPlan_13 rfl ⟨by decide, by decide⟩, ?_⟩
  refine List.forall_mem_cons.mpr ⟨sn_iand dX12_isPlan_14 rfl, ?_⟩
  refine List.forall_mem_cons.mpr ⟨sn_ifne dX12_isPlan_15 (by decide) rfl, ?_⟩
  refine List.forall_mem_cons.mpr ⟨sn_goto dX12_isPlan_18 (by decide), ?_⟩
  refine List.forall_mem_cons.mpr ⟨sn_aload_n dX12_isPlan_21 rfl rfl, ?_⟩
  refine List.forall_mem_cons.mpr ⟨sn_getr mCl_12 (by decide) rfl kt_1110 dX12_isPlan_22 rfl, ?_⟩
  refine List.forall_mem_cons.mpr ⟨sn_iload_n dX12_isPlan_25 rfl rfl, ?_⟩
  refine List.forall_mem_cons.mpr ⟨sn_zald dX12_isPlan_26 rfl, ?_⟩
  refine List.forall_mem_cons.mpr ⟨sn_ifeq dX12_isPlan_27 (by decide) rfl, ?_⟩
  refine List.forall_mem_cons.mpr ⟨sn_iconst dX12_isPlan_30 rfl ⟨by decide, by decide⟩, ?_⟩
  refine List.forall_mem_cons.mpr ⟨sn_zret rfl dX12_isPlan_31, ?_⟩
  refine List.forall_mem_cons.mpr ⟨sn_iconst dX12_isPlan_32 rfl ⟨by decide, by decide⟩, ?_⟩
  refine List.forall_mem_cons.mpr ⟨sn_istore_n dX12_isPlan_33 rfl rfl, ?_⟩
  refine List.forall_mem_cons.mpr ⟨sn_iload_n dX12_isPlan_34 rfl rfl, ?_⟩
  refine List.forall_mem_cons.mpr ⟨sn_iload_n dX12_isPlan_35 rfl rfl, ?_⟩
  refine List.forall_mem_cons.mpr ⟨sn_icmpge dX12_isPlan_36 (by decide) rfl, ?_⟩
  refine List.forall_mem_cons.mpr ⟨sn_iload_n dX12_isPlan_39 rfl rfl, ?_⟩
  refine List.forall_mem_cons.mpr ⟨sn_iload_n dX12_isPlan_40 rfl rfl, ?_⟩
  refine List.forall_mem_cons.mpr ⟨sn_ishr dX12_isPlan_41 rfl, ?_⟩
  refine List.forall_mem_cons.mpr ⟨sn_iconst dX12_isPlan_42 rfl ⟨by decide, by decide⟩, ?_⟩
  refine List.forall_mem_cons.mpr ⟨sn_iand dX12_isPlan_43 rfl, ?_⟩
  refine List.forall_mem_cons.mpr ⟨sn_iconst dX12_isPlan_44 rfl ⟨by decide, by decide⟩, ?_⟩
  refine List.forall_mem_cons.mpr ⟨sn_icmpne dX12_isPlan_45 (by decide) rfl, ?_⟩
  refine List.forall_mem_cons.mpr ⟨sn_aload_n dX12_isPlan_48 rfl rfl, ?_⟩
  refine List.forall_mem_cons.mpr ⟨sn_iload_n dX12_isPlan_49 rfl rfl, ?_⟩
  refine List.forall_mem_cons.mpr ⟨sn_iload_n dX12_isPlan_50 rfl rfl, ?_⟩
  refine List.forall_mem_cons.mpr ⟨sn_callV mCl_12 mt_173 rfl kt_1486 kt_1488 kp_71 dX12_isPlan_51 rfl, ?_⟩
  refine List.forall_mem_cons.mpr ⟨sn_ifeq dX12_isPlan_54 (by decide) rfl, ?_⟩
  refine List.forall_mem_cons.mpr ⟨sn_iconst dX12_isPlan_57 rfl ⟨by decide, by decide⟩, ?_⟩
  refine List.forall_mem_cons.mpr ⟨sn_zret rfl dX12_isPlan_58, ?_⟩
  refine List.forall_mem_cons.mpr ⟨sn_iinc dX12_isPlan_59 rfl, ?_⟩
  refine List.forall_mem_cons.mpr ⟨sn_goto dX12_isPlan_62 (by decide), ?_⟩
  refine List.forall_mem_cons.mpr ⟨sn_iinc dX12_isPlan_65 rfl, ?_⟩
  refine List.forall_mem_cons.mpr ⟨sn_goto dX12_isPlan_68 (by decide), ?_⟩
  refine List.forall_mem_cons.mpr ⟨sn_aload_n dX12_isPlan_71 rfl rfl, ?_⟩
  refine List.forall_mem_cons.mpr ⟨sn_iload_n dX12_isPlan_72 rfl rfl, ?_⟩
  refine List.forall_mem_cons.mpr ⟨sn_callV mCl_12 mt_174 rfl kt_1478 kt_1480 kp_69 dX12_isPlan_73 rfl, ?_⟩
  refine List.forall_mem_cons.mpr ⟨sn_aload_n dX12_isPlan_76 rfl rfl, ?_⟩
  refine List.forall_mem_cons.mpr ⟨sn_geti mCl_12 (by decide) rfl kt_1085 dX12_isPlan_77 rfl, ?_⟩
  refine List.forall_mem_cons.mpr ⟨sn_icmpgt dX12_isPlan_80 (by decide) rfl, ?_⟩
  refine List.forall_mem_cons.mpr ⟨sn_aload_n dX12_isPlan_83 rfl rfl, ?_⟩
  refine List.forall_mem_cons.mpr ⟨sn_iload_n dX12_isPlan_84 rfl rfl, ?_⟩
  refine List.forall_mem_cons.mpr ⟨sn_callV mCl_12 mt_175 rfl kt_1490 kt_1492 kp_72 dX12_isPlan_85 rfl, ?_⟩
  refine List.forall_mem_cons.mpr ⟨sn_ifeq dX12_isPlan_88 (by decide) rfl, ?_⟩
  refine List.forall_mem_cons.mpr ⟨sn_iconst dX12_isPlan_91 rfl ⟨by decide, by decide⟩, ?_⟩
  refine List.forall_mem_cons.mpr ⟨sn_goto dX12_isPlan_92 (by decide), ?_⟩
  refine List.forall_mem_cons.mpr ⟨sn_iconst dX12_isPlan_95 rfl ⟨by decide, by decide⟩, ?_⟩
  refine List.forall_mem_cons.mpr ⟨sn_zret rfl dX12_isPlan_96, ?_⟩
  exact List.forall_mem_nil _
theorem sX12_plan : ∀ q ∈ tX12_plan, mSnd mInf iX12_plan q.1 q.2 := by
  unfold tX12_plan
  refine List.forall_mem_cons.mpr ⟨sn_aload_n dX12_plan_0 rfl rfl, ?_⟩
  refine List.forall_mem_cons.mpr ⟨sn_iload_n dX12_plan_1 rfl rfl, ?_⟩
  refine List.forall_mem_cons.mpr ⟨sn_callV mCl_12 mt_148 rfl kt_1402 kt_1404 kp_55 dX12_plan_2 rfl, ?_⟩
  refine List.forall_mem_cons.mpr ⟨sn_ifne dX12_plan_5 (by decide) rfl, ?_⟩
  refine List.forall_mem_cons.mpr ⟨sn_iconst dX12_plan_8 rfl ⟨by decide, by decide⟩, ?_⟩
  refine List.forall_mem_cons.mpr ⟨sn_iret rfl dX12_plan_9, ?_⟩
  refine List.forall_mem_cons.mpr ⟨sn_aload_n dX12_plan_10 rfl rfl, ?_⟩
  refine List.forall_mem_cons.mpr ⟨sn_iload_n dX12_plan_11 rfl rfl, ?_⟩
  refine List.forall_mem_cons.mpr ⟨sn_callV mCl_12 mt_156 rfl kt_1406 kt_1408 kp_56 dX12_plan_12 rfl, ?_⟩
  refine List.forall_mem_cons.mpr ⟨sn_iconst dX12_plan_15 rfl ⟨by decide, by decide⟩, ?_⟩
  refine List.forall_mem_cons.mpr ⟨sn_istore_n dX12_plan_16 rfl rfl, ?_⟩
  refine List.forall_mem_cons.mpr ⟨sn_iconst dX12_plan_17 rfl ⟨by decide, by decide⟩, ?_⟩
  refine List.forall_mem_cons.mpr ⟨sn_istore_n dX12_plan_18 rfl rfl, ?_⟩
  refine List.forall_mem_cons.mpr ⟨sn_iload_n dX12_plan_19 rfl rfl, ?_⟩
  refine List.forall_mem_cons.mpr ⟨sn_aload_n dX12_plan_20 rfl rfl, ?_⟩
  refine List.forall_mem_cons.mpr ⟨sn_geti mCl_12 (by decide) rfl kt_1091 dX12_plan_21 rfl, ?_⟩
  refine List.forall_mem_cons.mpr ⟨sn_icmpge dX12_plan_24 (by decide) rfl, ?_⟩
  refine List.forall_mem_cons.mpr ⟨sn_aload_n dX12_plan_27 rfl rfl, ?_⟩
  refine List.forall_mem_cons.mpr ⟨sn_iload_n dX12_plan_28 rfl rfl, ?_⟩
  refine List.forall_mem_cons.mpr ⟨sn_callV mCl_12 mt_167 rfl kt_1434 kt_1436 kp_60 dX12_plan_29 rfl, ?_⟩
  refine List.forall_mem_cons.mpr ⟨sn_ifle dX12_plan_32 (by decide) rfl, ?_⟩
  refine List.forall_mem_cons.mpr ⟨sn_iinc dX12_plan_35 rfl, ?_⟩
  refine List.forall_mem_cons.mpr ⟨sn_iinc dX12_plan_38 rfl, ?_⟩
  refine List.forall_mem_cons.mpr ⟨sn_goto dX12_plan_41 (by decide), ?_⟩
  refine List.forall_mem_cons.mpr ⟨sn_iload_n dX12_plan_44 rfl rfl, ?_⟩
  refine List.forall_mem_cons.mpr ⟨sn_bipush dX12_plan_45 rfl (by decide) ⟨by decide, by decide⟩, ?_⟩
  refine List.forall_mem_cons.mpr ⟨sn_icmple dX12_plan_47 (by decide) rfl, ?_⟩
  refine List.forall_mem_cons.mpr ⟨sn_bipush dX12_plan_50 rfl (by decide) ⟨by decide, by decide⟩, ?_⟩
  refine List.forall_mem_cons.mpr ⟨sn_iret rfl dX12_plan_52, ?_⟩
  refine List.forall_mem_cons.mpr ⟨sn_aload_n dX12_plan_53 rfl rfl, ?_⟩
  refine List.forall_mem_cons.mpr ⟨sn_callV mCl_12 mt_171 rfl kt_1470 kt_1472 kp_67 dX12_plan_54 rfl, ?_⟩
  refine List.forall_mem_cons.mpr ⟨sn_aload_n dX12_plan_57 rfl rfl, ?_⟩
  refine List.forall_mem_cons.mpr ⟨sn_iconst dX12_plan_58 rfl ⟨by decide, by decide⟩, ?_⟩
  refine List.forall_mem_cons.mpr ⟨sn_puti mCl_12 (by decide) rfl (Or.inl rfl) kt_1098 dX12_plan_59 rfl, ?_⟩
  refine List.forall_mem_cons.mpr ⟨sn_iconst dX12_plan_62 rfl ⟨by decide, by decide⟩, ?_⟩
  refine List.forall_mem_cons.mpr ⟨sn_istore_n dX12_plan_63 rfl rfl, ?_⟩
  refine List.forall_mem_cons.mpr ⟨sn_iload_n dX12_plan_64 rfl rfl, ?_⟩
  refine List.forall_mem_cons.mpr ⟨sn_aload_n dX12_plan_65 rfl rfl, ?_⟩
  refine List.forall_mem_cons.mpr ⟨sn_geti mCl_12 (by decide) rfl kt_1091 dX12_plan_66 rfl, ?_⟩
  refine List.forall_mem_cons.mpr ⟨sn_icmpge dX12_plan_69 (by decide) rfl, ?_⟩
  refine List.forall_mem_cons.mpr ⟨sn_aload_n dX12_plan_72 rfl rfl, ?_⟩
  refine List.forall_mem_cons.mpr ⟨sn_iload_n dX12_plan_73 rfl rfl, ?_⟩
  refine List.forall_mem_cons.mpr ⟨sn_callV mCl_12 mt_167 rfl kt_1434 kt_1436 kp_60 dX12_plan_74 rfl, ?_⟩
  refine List.forall_mem_cons.mpr ⟨sn_istore dX12_plan_77 rfl, ?_⟩
  refine List.forall_mem_cons.mpr ⟨sn_iload dX12_plan_79 rfl, ?_⟩
  refine List.forall_mem_cons.mpr ⟨sn_ifne dX12_plan_81 (by decide) rfl, ?_⟩
  refine List.forall_mem_cons.mpr ⟨sn_goto dX12_plan_84 (by decide), ?_⟩
  refine List.forall_mem_cons.mpr ⟨sn_aload_n dX12_plan_87 rfl rfl, ?_⟩
  refine List.forall_mem_cons.mpr ⟨sn_geti mCl_12 (by decide) rfl kt_1098 dX12_plan_88 rfl, ?_⟩
  refine List.forall_mem_cons.mpr ⟨sn_istore dX12_plan_91 rfl, ?_⟩
  refine List.forall_mem_cons.mpr ⟨sn_aload_n dX12_plan_93 rfl rfl, ?_⟩
  refine List.forall_mem_cons.mpr ⟨sn_getr mCl_12 (by decide) rfl kt_1101 dX12_plan_94 rfl, ?_⟩
  refine List.forall_mem_cons.mpr ⟨sn_iload dX12_plan_97 rfl, ?_⟩
  refine List.forall_mem_cons.mpr ⟨sn_iload_n dX12_plan_99 rfl rfl, ?_⟩
  refine List.forall_mem_cons.mpr ⟨sn_iast dX12_plan_100 rfl, ?_⟩
  refine List.forall_mem_cons.mpr ⟨sn_aload_n dX12_plan_101 rfl rfl, ?_⟩
  refine List.forall_mem_cons.mpr ⟨sn_getr mCl_12 (by decide) rfl kt_1102 dX12_plan_102 rfl, ?_⟩
  refine List.forall_mem_cons.mpr ⟨sn_iload dX12_plan_105 rfl, ?_⟩
  refine List.forall_mem_cons.mpr ⟨sn_iload dX12_plan_107 rfl, ?_⟩
  refine List.forall_mem_cons.mpr ⟨sn_iast dX12_plan_109 rfl, ?_⟩
  refine List.forall_mem_cons.mpr ⟨sn_aload_n dX12_plan_110 rfl rfl, ?_⟩
  refine List.forall_mem_cons.mpr ⟨sn_getr mCl_12 (by decide) rfl kt_1103 dX12_plan_111 rfl, ?_⟩
  refine List.forall_mem_cons.mpr ⟨sn_iload dX12_plan_114 rfl, ?_⟩
  refine List.forall_mem_cons.mpr ⟨sn_aload_n dX12_plan_116 rfl rfl, ?_⟩
  refine List.forall_mem_cons.mpr ⟨sn_getr mCl_12 (by decide) rfl kt_1094 dX12_plan_117 rfl, ?_⟩
  refine List.forall_mem_cons.mpr ⟨sn_iload_n dX12_plan_120 rfl rfl, ?_⟩
  refine List.forall_mem_cons.mpr ⟨sn_iald dX12_plan_121 rfl, ?_⟩
  refine List.forall_mem_cons.mpr ⟨sn_aload_n dX12_plan_122 rfl rfl, ?_⟩
  refine List.forall_mem_cons.mpr ⟨sn_geti mCl_12 (by decide) rfl kt_1083 dX12_plan_123 rfl, ?_⟩
  refine List.forall_mem_cons.mpr ⟨sn_icmpge dX12_plan_126 (by decide) rfl, ?_⟩
  refine List.forall_mem_cons.mpr ⟨sn_iconst dX12_plan_129 rfl ⟨by decide, by decide⟩, ?_⟩
  refine List.forall_mem_cons.mpr ⟨sn_goto dX12_plan_130 (by decide), ?_⟩
  refine List.forall_mem_cons.mpr ⟨sn_aload_n dX12_plan_133 rfl rfl, ?_⟩
  refine List.forall_mem_cons.mpr ⟨sn_getr mCl_12 (by decide) rfl kt_1094 dX12_plan_134 rfl, ?_⟩
  refine List.forall_mem_cons.mpr ⟨sn_iload_n dX12_plan_137 rfl rfl, ?_⟩
  refine List.forall_mem_cons.mpr ⟨sn_iald dX12_plan_138 rfl, ?_⟩
  refine List.forall_mem_cons.mpr ⟨sn_aload_n dX12_plan_139 rfl rfl, ?_⟩
  refine List.forall_mem_cons.mpr ⟨sn_geti mCl_12 (by decide) rfl kt_1083 dX12_plan_140 rfl, ?_⟩
  refine List.forall_mem_cons.mpr ⟨sn_isub dX12_plan_143 rfl, ?_⟩
  refine List.forall_mem_cons.mpr ⟨sn_iast dX12_plan_144 rfl, ?_⟩
  refine List.forall_mem_cons.mpr ⟨sn_aload_n dX12_plan_145 rfl rfl, ?_⟩
  refine List.forall_mem_cons.mpr ⟨sn_getr mCl_12 (by decide) rfl kt_1104 dX12_plan_146 rfl, ?_⟩
  refine List.forall_mem_cons.mpr ⟨sn_iload dX12_plan_149 rfl, ?_⟩
  refine List.forall_mem_cons.mpr ⟨sn_aload_n dX12_plan_151 rfl rfl, ?_⟩
  refine List.forall_mem_cons.mpr ⟨sn_getr mCl_12 (by decide) rfl kt_1095 dX12_plan_152 rfl, ?_⟩
  refine List.forall_mem_cons.mpr ⟨sn_iload_n dX12_plan_155 rfl rfl, ?_⟩
  refine List.forall_mem_cons.mpr ⟨sn_iald dX12_plan_156 rfl, ?_⟩
  refine List.forall_mem_cons.mpr ⟨sn_aload_n dX12_plan_157 rfl rfl, ?_⟩
  refine List.forall_mem_cons.mpr ⟨sn_geti mCl_12 (by decide) rfl kt_1084 dX12_plan_158 rfl, ?_⟩
  refine List.forall_mem_cons.mpr ⟨sn_iadd dX12_plan_161 rfl, ?_⟩
  refine List.forall_mem_cons.mpr ⟨sn_sipush dX12_plan_162 rfl (by decide) ⟨by decide, by decide⟩, ?_⟩
  refine List.forall_mem_cons.mpr ⟨sn_icmple dX12_plan_165 (by decide) rfl, ?_⟩
  refine List.forall_mem_cons.mpr ⟨sn_sipush dX12_plan_168 rfl (by decide) ⟨by decide, by decide⟩, ?_⟩
  refine List.forall_mem_cons.mpr ⟨sn_goto dX12_plan_171 (by decide), ?_⟩
  refine List.forall_mem_cons.mpr ⟨sn_aload_n dX12_plan_174 rfl rfl, ?_⟩
  refine List.forall_mem_cons.mpr ⟨sn_getr mCl_12 (by decide) rfl kt_1095 dX12_plan_175 rfl, ?_⟩
  refine List.forall_mem_cons.mpr ⟨sn_iload_n dX12_plan_178 rfl rfl, ?_⟩
  refine List.forall_mem_cons.mpr ⟨sn_iald dX12_plan_179 rfl, ?_⟩
  refine List.forall_mem_cons.mpr ⟨sn_aload_n dX12_plan_180 rfl rfl, ?_⟩
  refine List.forall_mem_cons.mpr ⟨sn_geti mCl_12 (by decide) rfl kt_1084 dX12_plan_181 rfl, ?_⟩
  refine List.forall_mem_cons.mpr ⟨sn_iadd dX12_plan_184 rfl, ?_⟩
  refine List.forall_mem_cons.mpr ⟨sn_iast dX12_plan_185 rfl, ?_⟩
  refine List.forall_mem_cons.mpr ⟨sn_aload_n dX12_plan_186 rfl rfl, ?_⟩
  refine List.forall_mem_cons.mpr ⟨sn_getr mCl_12 (by decide) rfl kt_1105 dX12_plan_187 rfl, ?_⟩
  refine List.forall_mem_cons.mpr ⟨sn_iload dX12_plan_190 rfl, ?_⟩
  refine List.forall_mem_cons.mpr ⟨sn_aload_n dX12_plan_192 rfl rfl, ?_⟩
  refine List.forall_mem_cons.mpr ⟨sn_getr mCl_12 (by decide) rfl kt_1094 dX12_plan_193 rfl, ?_⟩
  refine List.forall_mem_cons.mpr ⟨sn_iload_n dX12_plan_196 rfl rfl, ?_⟩
  refine List.forall_mem_cons.mpr ⟨sn_iald dX12_plan_197 rfl, ?_⟩
  refine List.forall_mem_cons.mpr ⟨sn_iast dX12_plan_198 rfl, ?_⟩
  refine List.forall_mem_cons.mpr ⟨sn_aload_n dX12_plan_199 rfl rfl, ?_⟩
  refine List.forall_mem_cons.mpr ⟨sn_getr mCl_12 (by decide) rfl kt_1106 dX12_plan_200 rfl, ?_⟩
  refine List.forall_mem_cons.mpr ⟨sn_iload dX12_plan_203 rfl, ?_⟩
  refine List.forall_mem_cons.mpr ⟨sn_aload_n dX12_plan_205 rfl rfl, ?_⟩
  refine List.forall_mem_cons.mpr ⟨sn_getr mCl_12 (by decide) rfl kt_1093 dX12_plan_206 rfl, ?_⟩
  refine List.forall_mem_cons.mpr ⟨sn_iload_n dX12_plan_209 rfl rfl, ?_⟩
  refine List.forall_mem_cons.mpr ⟨sn_iald dX12_plan_210 rfl, ?_⟩
  refine List.forall_mem_cons.mpr ⟨sn_iast dX12_plan_211 rfl, ?_⟩
  refine List.forall_mem_cons.mpr ⟨sn_aload_n dX12_plan_212 rfl rfl, ?_⟩
  refine List.forall_mem_cons.mpr ⟨sn_getr mCl_12 (by decide) rfl kt_1107 dX12_plan_213 rfl, ?_⟩
  refine List.forall_mem_cons.mpr ⟨sn_iload dX12_plan_216 rfl, ?_⟩
  refine List.forall_mem_cons.mpr ⟨sn_aload_n dX12_plan_218 rfl rfl, ?_⟩
  refine List.forall_mem_cons.mpr ⟨sn_getr mCl_12 (by decide) rfl kt_1079 dX12_plan_219 rfl, ?_⟩
  refine List.forall_mem_cons.mpr ⟨sn_aload_n dX12_plan_222 rfl rfl, ?_⟩
  refine List.forall_mem_cons.mpr ⟨sn_getr mCl_12 (by decide) rfl kt_1092 dX12_plan_223 rfl, ?_⟩
  refine List.forall_mem_cons.mpr ⟨sn_iload_n dX12_plan_226 rfl rfl, ?_⟩
  refine List.forall_mem_cons.mpr ⟨sn_iald dX12_plan_227 rfl, ?_⟩
  refine List.forall_mem_cons.mpr ⟨sn_iald dX12_plan_228 rfl, ?_⟩
  refine List.forall_mem_cons.mpr ⟨sn_iast dX12_plan_229 rfl, ?_⟩
  refine List.forall_mem_cons.mpr ⟨sn_aload_n dX12_plan_230 rfl rfl, ?_⟩
  refine List.forall_mem_cons.mpr ⟨sn_getr mCl_12 (by decide) rfl kt_1108 dX12_plan_231 rfl, ?_⟩
  refine List.forall_mem_cons.mpr ⟨sn_iload dX12_plan_234 rfl, ?_⟩
  refine List.forall_mem_cons.mpr ⟨sn_aload_n dX12_plan_236 rfl rfl, ?_⟩
  refine List.forall_mem_cons.mpr ⟨sn_getr mCl_12 (by decide) rfl kt_1080 dX12_plan_237 rfl, ?_⟩
  refine List.forall_mem_cons.mpr ⟨sn_aload_n dX12_plan_240 rfl rfl, ?_⟩
  refine List.forall_mem_cons.mpr ⟨sn_getr mCl_12 (by decide) rfl kt_1092 dX12_plan_241 rfl, ?_⟩
  refine List.forall_mem_cons.mpr ⟨sn_iload_n dX12_plan_244 rfl rfl, ?_⟩
  refine List.forall_mem_cons.mpr ⟨sn_iald dX12_plan_245 rfl, ?_⟩
  refine List.forall_mem_cons.mpr ⟨sn_iald dX12_plan_246 rfl, ?_⟩
  refine List.forall_mem_cons.mpr ⟨sn_iast dX12_plan_247 rfl, ?_⟩
  refine List.forall_mem_cons.mpr ⟨sn_aload_n dX12_plan_248 rfl rfl, ?_⟩
  refine List.forall_mem_cons.mpr ⟨sn_getr mCl_12 (by decide) rfl kt_1109 dX12_plan_249 rfl, ?_⟩
  refine List.forall_mem_cons.mpr ⟨sn_iload dX12_plan_252 rfl, ?_⟩
  refine List.forall_mem_cons.mpr ⟨sn_iconst dX12_plan_254 rfl ⟨by decide, by decide⟩, ?_⟩
  refine List.forall_mem_cons.mpr ⟨sn_zast dX12_plan_255 rfl, ?_⟩
  refine List.forall_mem_cons.mpr ⟨sn_iconst dX12_plan_256 rfl ⟨by decide, by decide⟩, ?_⟩
  refine List.forall_mem_cons.mpr ⟨sn_istore dX12_plan_257 rfl, ?_⟩
  refine List.forall_mem_cons.mpr ⟨sn_iload dX12_plan_259 rfl, ?_⟩
  refine List.forall_mem_cons.mpr ⟨sn_aload_n dX12_plan_261 rfl rfl, ?_⟩
  refine List.forall_mem_cons.mpr ⟨sn_geti mCl_12 (by decide) rfl kt_1113 dX12_plan_262 rfl, ?_⟩
  refine List.forall_mem_cons.mpr ⟨sn_icmpge dX12_plan_265 (by decide) rfl, ?_⟩
  refine List.forall_mem_cons.mpr ⟨sn_aload_n dX12_plan_268 rfl rfl, ?_⟩
  refine List.forall_mem_cons.mpr ⟨sn_getr mCl_12 (by decide) rfl kt_1114 dX12_plan_269 rfl, ?_⟩
  refine List.forall_mem_cons.mpr ⟨sn_iload dX12_plan_272 rfl, ?_⟩
  refine List.forall_mem_cons.mpr ⟨sn_iald dX12_plan_274 rfl, ?_⟩
  refine List.forall_mem_cons.mpr ⟨sn_aload_n dX12_plan_275 rfl rfl, ?_⟩
  refine List.forall_mem_cons.mpr ⟨sn_getr mCl_12 (by decide) rfl kt_1106 dX12_plan_276 rfl, ?_⟩
  refine List.forall_mem_cons.mpr ⟨sn_iload dX12_plan_279 rfl, ?_⟩
  refine List.forall_mem_cons.mpr ⟨sn_iald dX12_plan_281 rfl, ?_⟩
  refine List.forall_mem_cons.mpr ⟨sn_icmpne dX12_plan_282 (by decide) rfl, ?_⟩
  refine List.forall_mem_cons.mpr ⟨sn_aload_n dX12_plan_285 rfl rfl, ?_⟩
  refine List.forall_mem_cons.mpr ⟨sn_getr mCl_12 (by decide) rfl kt_1115 dX12_plan_286 rfl, ?_⟩
  refine List.forall_mem_cons.mpr ⟨sn_iload dX12_plan_289 rfl, ?_⟩
  refine List.forall_mem_cons.mpr ⟨sn_iald dX12_plan_291 rfl, ?_⟩
  refine List.forall_mem_cons.mpr ⟨sn_aload_n dX12_plan_292 rfl rfl, ?_⟩
  refine List.forall_mem_cons.mpr ⟨sn_getr mCl_12 (by decide) rfl kt_1107 dX12_plan_293 rfl, ?_⟩
  refine List.forall_mem_cons.mpr ⟨sn_iload dX12_plan_296 rfl, ?_⟩
  refine List.forall_mem_cons.mpr ⟨sn_iald dX12_plan_298 rfl, ?_⟩
  refine List.forall_mem_cons.mpr ⟨sn_icmpne dX12_plan_299 (by decide) rfl, ?_⟩
  refine List.forall_mem_cons.mpr ⟨sn_aload_n dX12_plan_302 rfl rfl, ?_⟩
  refine List.forall_mem_cons.mpr ⟨sn_getr mCl_12 (by decide) rfl kt_1116 dX12_plan_303 rfl, ?_⟩
  refine List.forall_mem_cons.mpr ⟨sn_iload dX12_plan_306 rfl, ?_⟩
  refine List.forall_mem_cons.mpr ⟨sn_iald dX12_plan_308 rfl, ?_⟩
  refine List.forall_mem_cons.mpr ⟨sn_aload_n dX12_plan_309 rfl rfl, ?_⟩
  refine List.forall_mem_cons.mpr ⟨sn_getr mCl_12 (by decide) rfl kt_1108 dX12_plan_310 rfl, ?_⟩
  refine List.forall_mem_cons.mpr ⟨sn_iload dX12_plan_313 rfl, ?_⟩
  refine List.forall_mem_cons.mpr ⟨sn_iald dX12_plan_315 rfl, ?_⟩
  refine List.forall_mem_cons.mpr ⟨sn_icmpne dX12_plan_316 (by decide) rfl, ?_⟩
  refine List.forall_mem_cons.mpr ⟨sn_aload_n dX12_plan_319 rfl rfl, ?_⟩
  refine List.forall_mem_cons.mpr ⟨sn_getr mCl_12 (by decide) rfl kt_1117 dX12_plan_320 rfl, ?_⟩
  refine List.forall_mem_cons.mpr ⟨sn_iload dX12_plan_323 rfl, ?_⟩
  refine List.forall_mem_cons.mpr ⟨sn_iald dX12_plan_325 rfl, ?_⟩
  refine List.forall_mem_cons.mpr ⟨sn_aload_n dX12_plan_326 rfl rfl, ?_⟩
  refine List.forall_mem_cons.mpr ⟨sn_getr mCl_12 (by decide) rfl kt_1105 dX12_plan_327 rfl, ?_⟩
  refine List.forall_mem_cons.mpr ⟨sn_iload dX12_plan_330 rfl, ?_⟩
  refine List.forall_mem_cons.mpr ⟨sn_iald dX12_plan_332 rfl, ?_⟩
  refine List.forall_mem_cons.mpr ⟨sn_icmpne dX12_plan_333 (by decide) rfl, ?_⟩
  refine List.forall_mem_cons.mpr ⟨sn_aload_n dX12_plan_336 rfl rfl, ?_⟩
  refine List.forall_mem_cons.mpr ⟨sn_getr mCl_12 (by decide) rfl kt_1109 dX12_plan_337 rfl, ?_⟩
  refine List.forall_mem_cons.mpr ⟨sn_iload dX12_plan_340 rfl, ?_⟩
  refine List.forall_mem_cons.mpr ⟨sn_iconst dX12_plan_342 rfl ⟨by decide, by decide⟩, ?_⟩
  refine List.forall_mem_cons.mpr ⟨sn_zast dX12_plan_343 rfl, ?_⟩
  refine List.forall_mem_cons.mpr ⟨sn_iinc dX12_plan_344 rfl, ?_⟩
  refine List.forall_mem_cons.mpr ⟨sn_goto dX12_plan_347 (by decide), ?_⟩
  refine List.forall_mem_cons.mpr ⟨sn_aload_n dX12_plan_350 rfl rfl, ?_⟩
  refine List.forall_mem_cons.mpr ⟨sn_getr mCl_12 (by decide) rfl kt_1110 dX12_plan_351 rfl, ?_⟩
  refine List.forall_mem_cons.mpr ⟨sn_iload dX12_plan_354 rfl, ?_⟩
  refine List.forall_mem_cons.mpr ⟨sn_aload_n dX12_plan_356 rfl rfl, ?_⟩
  refine List.forall_mem_cons.mpr ⟨sn_getr mCl_12 (by decide) rfl kt_1103 dX12_plan_357 rfl, ?_⟩
  refine List.forall_mem_cons.mpr ⟨sn_iload dX12_plan_360 rfl, ?_⟩
  refine List.forall_mem_cons.mpr ⟨sn_iald dX12_plan_362 rfl, ?_⟩
  refine List.forall_mem_cons.mpr ⟨sn_aload_n dX12_plan_363 rfl rfl, ?_⟩
  refine List.forall_mem_cons.mpr ⟨sn_geti mCl_12 (by decide) rfl kt_1086 dX12_plan_364 rfl, ?_⟩
  refine List.forall_mem_cons.mpr ⟨sn_icmpge dX12_plan_367 (by decide) rfl, ?_⟩
  refine List.forall_mem_cons.mpr ⟨sn_aload_n dX12_plan_370 rfl rfl, ?_⟩
  refine List.forall_mem_cons.mpr ⟨sn_getr mCl_12 (by decide) rfl kt_1109 dX12_plan_371 rfl, ?_⟩
  refine List.forall_mem_cons.mpr ⟨sn_iload dX12_plan_374 rfl, ?_⟩
  refine List.forall_mem_cons.mpr ⟨sn_zald dX12_plan_376 rfl, ?_⟩
  refine List.forall_mem_cons.mpr ⟨sn_ifne dX12_plan_377 (by decide) rfl, ?_⟩
  refine List.forall_mem_cons.mpr ⟨sn_iconst dX12_plan_380 rfl ⟨by decide, by decide⟩, ?_⟩
  refine List.forall_mem_cons.mpr ⟨sn_goto dX12_plan_381 (by decide), ?_⟩
  refine List.forall_mem_cons.mpr ⟨sn_iconst dX12_plan_384 rfl ⟨by decide, by decide⟩, ?_⟩
  refine List.forall_mem_cons.mpr ⟨sn_zast dX12_plan_385 rfl, ?_⟩
  refine List.forall_mem_cons.mpr ⟨sn_aload_n dX12_plan_386 rfl rfl, ?_⟩
  refine List.forall_mem_cons.mpr ⟨sn_dup dX12_plan_387 rfl, ?_⟩
  refine List.forall_mem_cons.mpr ⟨sn_geti mCl_12 (by decide) rfl kt_1098 dX12_plan_388 rfl, ?_⟩
  refine List.forall_mem_cons.mpr ⟨sn_iconst dX12_plan_391 rfl ⟨by decide, by decide⟩, ?_⟩
  refine List.forall_mem_cons.mpr ⟨sn_iadd dX12_plan_392 rfl, ?_⟩
  refine List.forall_mem_cons.mpr ⟨sn_puti mCl_12 (by decide) rfl (Or.inl rfl) kt_1098 dX12_plan_393 rfl, ?_⟩
  refine List.forall_mem_cons.mpr ⟨sn_iinc dX12_plan_396 rfl, ?_⟩
  refine List.forall_mem_cons.mpr ⟨sn_goto dX12_plan_399 (by decide), ?_⟩
  refine List.forall_mem_cons.mpr ⟨sn_aload_n dX12_plan_402 rfl rfl, ?_⟩
  refine List.forall_mem_cons.mpr ⟨sn_iload_n dX12_plan_403 rfl rfl, ?_⟩
  refine List.forall_mem_cons.mpr ⟨sn_puti mCl_12 (by decide) rfl (Or.inl rfl) kt_1097 dX12_plan_404 rfl, ?_⟩
  refine List.forall_mem_cons.mpr ⟨sn_aload_n dX12_plan_407 rfl rfl, ?_⟩
  refine List.forall_mem_cons.mpr ⟨sn_iconst dX12_plan_408 rfl ⟨by decide, by decide⟩, ?_⟩
  refine List.forall_mem_cons.mpr ⟨sn_puti mCl_12 (by decide) rfl (Or.inl rfl) kt_1099 dX12_plan_409 rfl, ?_⟩
  refine List.forall_mem_cons.mpr ⟨sn_aload_n dX12_plan_412 rfl rfl, ?_⟩
  refine List.forall_mem_cons.mpr ⟨sn_callV mCl_12 mt_178 rfl kt_1474 kt_1476 kp_68 dX12_plan_413 rfl, ?_⟩
  refine List.forall_mem_cons.mpr ⟨sn_istore_n dX12_plan_416 rfl rfl, ?_⟩
  refine List.forall_mem_cons.mpr ⟨sn_aload_n dX12_plan_417 rfl rfl, ?_⟩
  refine List.forall_mem_cons.mpr ⟨sn_aload_n dX12_plan_418 rfl rfl, ?_⟩
  refine List.forall_mem_cons.mpr ⟨sn_aload_n dX12_plan_419 rfl rfl, ?_⟩
  refine List.forall_mem_cons.mpr ⟨sn_geti mCl_12 (by decide) rfl kt_1099 dX12_plan_420 rfl, ?_⟩
  refine List.forall_mem_cons.mpr ⟨sn_callV mCl_12 mt_174 rfl kt_1478 kt_1480 kp_69 dX12_plan_423 rfl, ?_⟩
  refine List.forall_mem_cons.mpr ⟨sn_puti mCl_12 (by decide) rfl (Or.inl rfl) kt_1100 dX12_plan_426 rfl, ?_⟩
  refine List.forall_mem_cons.mpr ⟨sn_iconst dX12_plan_429 rfl ⟨by decide, by decide⟩, ?_⟩
  refine List.forall_mem_cons.mpr ⟨sn_istore dX12_plan_430 rfl, ?_⟩
  refine List.forall_mem_cons.mpr ⟨sn_iload dX12_plan_432 rfl, ?_⟩
  refine List.forall_mem_cons.mpr ⟨sn_aload_n dX12_plan_434 rfl rfl, ?_⟩
  refine List.forall_mem_cons.mpr ⟨sn_geti mCl_12 (by decide) rfl kt_1098 dX12_plan_435 rfl, ?_⟩
  refine List.forall_mem_cons.mpr ⟨sn_icmpge dX12_plan_438 (by decide) rfl, ?_⟩
  refine List.forall_mem_cons.mpr ⟨sn_aload_n dX12_plan_441 rfl rfl, ?_⟩
  refine List.forall_mem_cons.mpr ⟨sn_iload dX12_plan_442 rfl, ?_⟩
  refine List.forall_mem_cons.mpr ⟨sn_callV mCl_12 mt_179 rfl kt_1494 kt_1496 kp_73 dX12_plan_444 rfl, ?_⟩
  refine List.forall_mem_cons.mpr ⟨sn_iinc dX12_plan_447 rfl, ?_⟩
  refine List.forall_mem_cons.mpr ⟨sn_goto dX12_plan_450 (by decide), ?_⟩
  refine List.forall_mem_cons.mpr ⟨sn_iload_n dX12_plan_453 rfl rfl, ?_⟩
  refine List.forall_mem_cons.mpr ⟨sn_iret rfl dX12_plan_454, ?_⟩
  exact List.forall_mem_nil _
theorem sX12_finds : ∀ q ∈ tX12_finds, mSnd mInf iX12_finds q.1 q.2 := by
  unfold tX12_finds
  refine List.forall_mem_cons.mpr ⟨sn_iconst dX12_finds_0 rfl ⟨by decide, by decide⟩, ?_⟩
  refine List.forall_mem_cons.mpr ⟨sn_istore_n dX12_finds_1 rfl rfl, ?_⟩
  refine List.forall_mem_cons.mpr ⟨sn_iconst dX12_finds_2 rfl ⟨by decide, by decide⟩, ?_⟩
  refine List.forall_mem_cons.mpr ⟨sn_istore_n dX12_finds_3 rfl rfl, ?_⟩
  refine List.forall_mem_cons.mpr ⟨sn_iconst dX12_finds_4 rfl ⟨by decide, by decide⟩, ?_⟩
  refine List.forall_mem_cons.mpr ⟨sn_istore_n dX12_finds_5 rfl rfl, ?_⟩
  refine List.forall_mem_cons.mpr ⟨sn_iconst dX12_finds_6 rfl ⟨by decide, by decide⟩, ?_⟩
  refine List.forall_mem_cons.mpr ⟨sn_istore dX12_finds_7 rfl, ?_⟩
  refine List.forall_mem_cons.mpr ⟨sn_iload dX12_finds_9 rfl, ?_⟩
  refine List.forall_mem_cons.mpr ⟨sn_iconst dX12_finds_11 rfl ⟨by decide, by decide⟩, ?_⟩
  refine List.forall_mem_cons.mpr ⟨sn_aload_n dX12_finds_12 rfl rfl, ?_⟩
  refine List.forall_mem_cons.mpr ⟨sn_geti mCl_12 (by decide) rfl kt_1098 dX12_finds_13 rfl, ?_⟩
  refine List.forall_mem_cons.mpr ⟨sn_ishl dX12_finds_16 rfl, ?_⟩
  refine List.forall_mem_cons.mpr ⟨sn_icmpge dX12_finds_17 (by decide) rfl, ?_⟩
  refine List.forall_mem_cons.mpr ⟨sn_iconst dX12_finds_20 rfl ⟨by decide, by decide⟩, ?_⟩
  refine List.forall_mem_cons.mpr ⟨sn_istore dX12_finds_21 rfl, ?_⟩
  refine List.forall_mem_cons.mpr ⟨sn_iconst dX12_finds_23 rfl ⟨by decide, by decide⟩, ?_⟩
  refine List.forall_mem_cons.mpr ⟨sn_istore dX12_finds_24 rfl, ?_⟩
  refine List.forall_mem_cons.mpr ⟨sn_iconst dX12_finds_26 rfl ⟨by decide, by decide⟩, ?_⟩
  refine List.forall_mem_cons.mpr ⟨sn_istore dX12_finds_27 rfl, ?_⟩
  refine List.forall_mem_cons.mpr ⟨sn_iload dX12_finds_29 rfl, ?_⟩
  refine List.forall_mem_cons.mpr ⟨sn_aload_n dX12_finds_31 rfl rfl, ?_⟩
  refine List.forall_mem_cons.mpr ⟨sn_geti mCl_12 (by decide) rfl kt_1098 dX12_finds_32 rfl, ?_⟩
  refine List.forall_mem_cons.mpr ⟨sn_icmpge dX12_finds_35 (by decide) rfl, ?_⟩
  refine List.forall_mem_cons.mpr ⟨sn_iload dX12_finds_38 rfl, ?_⟩
  refine List.forall_mem_cons.mpr ⟨sn_iload dX12_finds_40 rfl, ?_⟩
  refine List.forall_mem_cons.mpr ⟨sn_ishr dX12_finds_42 rfl, ?_⟩
  refine List.forall_mem_cons.mpr ⟨sn_iconst dX12_finds_43 rfl ⟨by decide, by decide⟩, ?_⟩
  refine List.forall_mem_cons.mpr ⟨sn_iand dX12_finds_44 rfl, ?_⟩
  refine List.forall_mem_cons.mpr ⟨sn_ifne dX12_finds_45 (by decide) rfl, ?_⟩
  refine List.forall_mem_cons.mpr ⟨sn_goto dX12_finds_48 (by decide), ?_⟩
  refine List.forall_mem_cons.mpr ⟨sn_iload dX12_finds_51 rfl, ?_⟩
  refine List.forall_mem_cons.mpr ⟨sn_aload_n dX12_finds_53 rfl rfl, ?_⟩
  refine List.forall_mem_cons.mpr ⟨sn_getr mCl_12 (by decide) rfl kt_1102 dX12_finds_54 rfl, ?_⟩
  refine List.forall_mem_cons.mpr ⟨sn_iload dX12_finds_57 rfl, ?_⟩
  refine List.forall_mem_cons.mpr ⟨sn_iald dX12_finds_59 rfl, ?_⟩
  refine List.forall_mem_cons.mpr ⟨sn_iadd dX12_finds_60 rfl, ?_⟩
  refine List.forall_mem_cons.mpr ⟨sn_istore dX12_finds_61 rfl, ?_⟩
  refine List.forall_mem_cons.mpr ⟨sn_aload_n dX12_finds_63 rfl rfl, ?_⟩
  refine List.forall_mem_cons.mpr ⟨sn_getr mCl_12 (by decide) rfl kt_1109 dX12_finds_64 rfl, ?_⟩
  refine List.forall_mem_cons.mpr ⟨sn_iload dX12_finds_67 rfl, ?_⟩
  refine List.forall_mem_cons.mpr ⟨sn_zald dX12_finds_69 rfl, ?_⟩
  refine List.forall_mem_cons.mpr ⟨sn_ifeq dX12_finds_70 (by decide) rfl, ?_⟩
  refine List.forall_mem_cons.mpr ⟨sn_iinc dX12_finds_73 rfl, ?_⟩
  refine List.forall_mem_cons.mpr ⟨sn_iinc dX12_finds_76 rfl, ?_⟩
  refine List.forall_mem_cons.mpr ⟨sn_goto dX12_finds_79 (by decide), ?_⟩
  refine List.forall_mem_cons.mpr ⟨sn_iload dX12_finds_82 rfl, ?_⟩
  refine List.forall_mem_cons.mpr ⟨sn_iload_n dX12_finds_84 rfl rfl, ?_⟩
  refine List.forall_mem_cons.mpr ⟨sn_icmplt dX12_finds_85 (by decide) rfl, ?_⟩
  refine List.forall_mem_cons.mpr ⟨sn_iload dX12_finds_88 rfl, ?_⟩
  refine List.forall_mem_cons.mpr ⟨sn_iload_n dX12_finds_90 rfl rfl, ?_⟩
  refine List.forall_mem_cons.mpr ⟨sn_icmpne dX12_finds_91 (by decide) rfl, ?_⟩
  refine List.forall_mem_cons.mpr ⟨sn_iload dX12_finds_94 rfl, ?_⟩
  refine List.forall_mem_cons.mpr ⟨sn_iload_n dX12_finds_96 rfl rfl, ?_⟩
  refine List.forall_mem_cons.mpr ⟨sn_icmpge dX12_finds_97 (by decide) rfl, ?_⟩
  refine List.forall_mem_cons.mpr ⟨sn_goto dX12_finds_100 (by decide), ?_⟩
  refine List.forall_mem_cons.mpr ⟨sn_aload_n dX12_finds_103 rfl rfl, ?_⟩
  refine List.forall_mem_cons.mpr ⟨sn_iload dX12_finds_104 rfl, ?_⟩
  refine List.forall_mem_cons.mpr ⟨sn_callV mCl_12 mt_174 rfl kt_1478 kt_1480 kp_69 dX12_finds_106 rfl, ?_⟩
  refine List.forall_mem_cons.mpr ⟨sn_istore dX12_finds_109 rfl, ?_⟩
  refine List.forall_mem_cons.mpr ⟨sn_iload dX12_finds_111 rfl, ?_⟩
  refine List.forall_mem_cons.mpr ⟨sn_iload_n dX12_finds_113 rfl rfl, ?_⟩
  refine List.forall_mem_cons.mpr ⟨sn_icmpne dX12_finds_114 (by decide) rfl, ?_⟩
  refine List.forall_mem_cons.mpr ⟨sn_iload dX12_finds_117 rfl, ?_⟩
  refine List.forall_mem_cons.mpr ⟨sn_iload_n dX12_finds_119 rfl rfl, ?_⟩
  refine List.forall_mem_cons.mpr ⟨sn_icmpne dX12_finds_120 (by decide) rfl, ?_⟩
  refine List.forall_mem_cons.mpr ⟨sn_iload dX12_finds_123 rfl, ?_⟩
  refine List.forall_mem_cons.mpr ⟨sn_iload_n dX12_finds_125 rfl rfl, ?_⟩
  refine List.forall_mem_cons.mpr ⟨sn_icmple dX12_finds_126 (by decide) rfl, ?_⟩
  refine List.forall_mem_cons.mpr ⟨sn_goto dX12_finds_129 (by decide), ?_⟩
  refine List.forall_mem_cons.mpr ⟨sn_iload dX12_finds_132 rfl, ?_⟩
  refine List.forall_mem_cons.mpr ⟨sn_aload_n dX12_finds_134 rfl rfl, ?_⟩
  refine List.forall_mem_cons.mpr ⟨sn_geti mCl_12 (by decide) rfl kt_1099 dX12_finds_135 rfl, ?_⟩
  refine List.forall_mem_cons.mpr ⟨sn_ixor dX12_finds_138 rfl, ?_⟩
  refine List.forall_mem_cons.mpr ⟨sn_istore dX12_finds_139 rfl, ?_⟩
  refine List.forall_mem_cons.mpr ⟨sn_iload dX12_finds_141 rfl, ?_⟩
  refine List.forall_mem_cons.mpr ⟨sn_iload_n dX12_finds_143 rfl rfl, ?_⟩
  refine List.forall_mem_cons.mpr ⟨sn_icmpne dX12_finds_144 (by decide) rfl, ?_⟩
  refine List.forall_mem_cons.mpr ⟨sn_aload_n dX12_finds_147 rfl rfl, ?_⟩
  refine List.forall_mem_cons.mpr ⟨sn_geti mCl_12 (by decide) rfl kt_1099 dX12_finds_148 rfl, ?_⟩
  refine List.forall_mem_cons.mpr ⟨sn_iload dX12_finds_151 rfl, ?_⟩
  refine List.forall_mem_cons.mpr ⟨sn_iand dX12_finds_153 rfl, ?_⟩
  refine List.forall_mem_cons.mpr ⟨sn_iload dX12_finds_154 rfl, ?_⟩
  refine List.forall_mem_cons.mpr ⟨sn_ineg dX12_finds_156 rfl, ?_⟩
  refine List.forall_mem_cons.mpr ⟨sn_iand dX12_finds_157 rfl, ?_⟩
  refine List.forall_mem_cons.mpr ⟨sn_ifeq dX12_finds_158 (by decide) rfl, ?_⟩
  refine List.forall_mem_cons.mpr ⟨sn_goto dX12_finds_161 (by decide), ?_⟩
  refine List.forall_mem_cons.mpr ⟨sn_aload_n dX12_finds_164 rfl rfl, ?_⟩
  refine List.forall_mem_cons.mpr ⟨sn_iload dX12_finds_165 rfl, ?_⟩
  refine List.forall_mem_cons.mpr ⟨sn_callV mCl_12 mt_176 rfl kt_1482 kt_1484 kp_70 dX12_finds_167 rfl, ?_⟩
  refine List.forall_mem_cons.mpr ⟨sn_ifne dX12_finds_170 (by decide) rfl, ?_⟩
  refine List.forall_mem_cons.mpr ⟨sn_goto dX12_finds_173 (by decide), ?_⟩
  refine List.forall_mem_cons.mpr ⟨sn_iload dX12_finds_176 rfl, ?_⟩
  refine List.forall_mem_cons.mpr ⟨sn_istore_n dX12_finds_178 rfl rfl, ?_⟩
  refine List.forall_mem_cons.mpr ⟨sn_iload dX12_finds_179 rfl, ?_⟩
  refine List.forall_mem_cons.mpr ⟨sn_istore_n dX12_finds_181 rfl rfl, ?_⟩
  refine List.forall_mem_cons.mpr ⟨sn_iload dX12_finds_182 rfl, ?_⟩
  refine List.forall_mem_cons.mpr ⟨sn_istore_n dX12_finds_184 rfl rfl, ?_⟩
  refine List.forall_mem_cons.mpr ⟨sn_aload_n dX12_finds_185 rfl rfl, ?_⟩
  refine List.forall_mem_cons.mpr ⟨sn_iload dX12_finds_186 rfl, ?_⟩
  refine List.forall_mem_cons.mpr ⟨sn_puti mCl_12 (by decide) rfl (Or.inl rfl) kt_1099 dX12_finds_188 rfl, ?_⟩
  refine List.forall_mem_cons.mpr ⟨sn_iinc dX12_finds_191 rfl, ?_⟩
  refine List.forall_mem_cons.mpr ⟨sn_goto dX12_finds_194 (by decide), ?_⟩
  refine List.forall_mem_cons.mpr ⟨sn_iload_n dX12_finds_197 rfl rfl, ?_⟩
  refine List.forall_mem_cons.mpr ⟨sn_iret rfl dX12_finds_198, ?_⟩
  exact List.forall_mem_nil _
theorem sX12_reasons : ∀ q ∈ tX12_reasons, mSnd mInf iX12_reasons q.1 q.2 := by
  unfold tX12_reasons
  refine List.forall_mem_cons.mpr ⟨sn_aload_n dX12_reasons_0 rfl rfl, ?_⟩
  refine List.forall_mem_cons.mpr ⟨sn_getr mCl_12 (by decide) rfl kt_1111 dX12_reasons_1 rfl, ?_⟩
  refine List.forall_mem_cons.mpr ⟨sn_iload_n dX12_reasons_4 rfl rfl, ?_⟩
  refine List.forall_mem_cons.mpr ⟨sn_iconst dX12_reasons_5 rfl ⟨by decide, by decide⟩, ?_⟩
  refine List.forall_mem_cons.mpr ⟨sn_iast dX12_reasons_6 rfl, ?_⟩
  refine List.forall_mem_cons.mpr ⟨sn_aload_n dX12_reasons_7 rfl rfl, ?_⟩
  refine List.forall_mem_cons.mpr ⟨sn_getr mCl_12 (by decide) rfl kt_1112 dX12_reasons_8 rfl, ?_⟩
  refine List.forall_mem_cons.mpr ⟨sn_iload_n dX12_reasons_11 rfl rfl, ?_⟩
  refine List.forall_mem_cons.mpr ⟨sn_iconst dX12_reasons_12 rfl ⟨by decide, by decide⟩, ?_⟩
  refine List.forall_mem_cons.mpr ⟨sn_iast dX12_reasons_13 rfl, ?_⟩
  refine List.forall_mem_cons.mpr ⟨sn_aload_n dX12_reasons_14 rfl rfl, ?_⟩
  refine List.forall_mem_cons.mpr ⟨sn_geti mCl_12 (by decide) rfl kt_1099 dX12_reasons_15 rfl, ?_⟩
  refine List.forall_mem_cons.mpr ⟨sn_iload_n dX12_reasons_18 rfl rfl, ?_⟩
  refine List.forall_mem_cons.mpr ⟨sn_ishr dX12_reasons_19 rfl, ?_⟩
  refine List.forall_mem_cons.mpr ⟨sn_iconst dX12_reasons_20 rfl ⟨by decide, by decide⟩, ?_⟩
  refine List.forall_mem_cons.mpr ⟨sn_iand dX12_reasons_21 rfl, ?_⟩
  refine List.forall_mem_cons.mpr ⟨sn_iconst dX12_reasons_22 rfl ⟨by decide, by decide⟩, ?_⟩
  refine List.forall_mem_cons.mpr ⟨sn_icmpne dX12_reasons_23 (by decide) rfl, ?_⟩
  refine List.forall_mem_cons.mpr ⟨sn_vret rfl dX12_reasons_26, ?_⟩
  refine List.forall_mem_cons.mpr ⟨sn_aload_n dX12_reasons_27 rfl rfl, ?_⟩
  refine List.forall_mem_cons.mpr ⟨sn_getr mCl_12 (by decide) rfl kt_1111 dX12_reasons_28 rfl, ?_⟩
  refine List.forall_mem_cons.mpr ⟨sn_iload_n dX12_reasons_31 rfl rfl, ?_⟩
  refine List.forall_mem_cons.mpr ⟨sn_iconst dX12_reasons_32 rfl ⟨by decide, by decide⟩, ?_⟩
  refine List.forall_mem_cons.mpr ⟨sn_iast dX12_reasons_33 rfl, ?_⟩
  refine List.forall_mem_cons.mpr ⟨sn_aload_n dX12_reasons_34 rfl rfl, ?_⟩
  refine List.forall_mem_cons.mpr ⟨sn_getr mCl_12 (by decide) rfl kt_1110 dX12_reasons_35 rfl, ?_⟩
  refine List.forall_mem_cons.mpr ⟨sn_iload_n dX12_reasons_38 rfl rfl, ?_⟩
  refine List.forall_mem_cons.mpr ⟨sn_zald dX12_reasons_39 rfl, ?_⟩
  refine List.forall_mem_cons.mpr ⟨sn_ifeq dX12_reasons_40 (by decide) rfl, ?_⟩
  refine List.forall_mem_cons.mpr ⟨sn_vret rfl dX12_reasons_43, ?_⟩
  refine List.forall_mem_cons.mpr ⟨sn_aload_n dX12_reasons_44 rfl rfl, ?_⟩
  refine List.forall_mem_cons.mpr ⟨sn_getr mCl_12 (by decide) rfl kt_1111 dX12_reasons_45 rfl, ?_⟩
  refine List.forall_mem_cons.mpr ⟨sn_iload_n dX12_reasons_48 rfl rfl, ?_⟩
  refine List.forall_mem_cons.mpr ⟨sn_iconst dX12_reasons_49 rfl ⟨by decide, by decide⟩, ?_⟩
  refine List.forall_mem_cons.mpr ⟨sn_iast dX12_reasons_50 rfl, ?_⟩
  refine List.forall_mem_cons.mpr ⟨sn_iconst dX12_reasons_51 rfl ⟨by decide, by decide⟩, ?_⟩
  refine List.forall_mem_cons.mpr ⟨sn_istore_n dX12_reasons_52 rfl rfl, ?_⟩
  refine List.forall_mem_cons.mpr ⟨sn_iload_n dX12_reasons_53 rfl rfl, ?_⟩
  refine List.forall_mem_cons.mpr ⟨sn_aload_n dX12_reasons_54 rfl rfl, ?_⟩
  refine List.forall_mem_cons.mpr ⟨sn_geti mCl_12 (by decide) rfl kt_1098 dX12_reasons_55 rfl, ?_⟩
  refine List.forall_mem_cons.mpr ⟨sn_icmpge dX12_reasons_58 (by decide) rfl, ?_⟩
  refine List.forall_mem_cons.mpr ⟨sn_aload_n dX12_reasons_61 rfl rfl, ?_⟩
  refine List.forall_mem_cons.mpr ⟨sn_getr mCl_12 (by decide) rfl kt_1112 dX12_reasons_62 rfl, ?_⟩
  refine List.forall_mem_cons.mpr ⟨sn_iload_n dX12_reasons_65 rfl rfl, ?_⟩
  refine List.forall_mem_cons.mpr ⟨sn_iald dX12_reasons_66 rfl, ?_⟩
  refine List.forall_mem_cons.mpr ⟨sn_iconst dX12_reasons_67 rfl ⟨by decide, by decide⟩, ?_⟩
  refine List.forall_mem_cons.mpr ⟨sn_icmpne dX12_reasons_68 (by decide) rfl, ?_⟩
  refine List.forall_mem_cons.mpr ⟨sn_aload_n dX12_reasons_71 rfl rfl, ?_⟩
  refine List.forall_mem_cons.mpr ⟨sn_geti mCl_12 (by decide) rfl kt_1099 dX12_reasons_72 rfl, ?_⟩
  refine List.forall_mem_cons.mpr ⟨sn_iload_n dX12_reasons_75 rfl rfl, ?_⟩
  refine List.forall_mem_cons.mpr ⟨sn_ishr dX12_reasons_76 rfl, ?_⟩
  refine List.forall_mem_cons.mpr ⟨sn_iconst dX12_reasons_77 rfl ⟨by decide, by decide⟩, ?_⟩
  refine List.forall_mem_cons.mpr ⟨sn_iand dX12_reasons_78 rfl, ?_⟩
  refine List.forall_mem_cons.mpr ⟨sn_iconst dX12_reasons_79 rfl ⟨by decide, by decide⟩, ?_⟩
  refine List.forall_mem_cons.mpr ⟨sn_icmpne dX12_reasons_80 (by decide) rfl, ?_⟩
  refine List.forall_mem_cons.mpr ⟨sn_aload_n dX12_reasons_83 rfl rfl, ?_⟩
  refine List.forall_mem_cons.mpr ⟨sn_iload_n dX12_reasons_84 rfl rfl, ?_⟩
  refine List.forall_mem_cons.mpr ⟨sn_iload_n dX12_reasons_85 rfl rfl, ?_⟩
  refine List.forall_mem_cons.mpr ⟨sn_callV mCl_12 mt_173 rfl kt_1486 kt_1488 kp_71 dX12_reasons_86 rfl, ?_⟩
  refine List.forall_mem_cons.mpr ⟨sn_ifeq dX12_reasons_89 (by decide) rfl, ?_⟩
  refine List.forall_mem_cons.mpr ⟨sn_aload_n dX12_reasons_92 rfl rfl, ?_⟩
  refine List.forall_mem_cons.mpr ⟨sn_getr mCl_12 (by decide) rfl kt_1112 dX12_reasons_93 rfl, ?_⟩
  refine List.forall_mem_cons.mpr ⟨sn_iload_n dX12_reasons_96 rfl rfl, ?_⟩
  refine List.forall_mem_cons.mpr ⟨sn_iload_n dX12_reasons_97 rfl rfl, ?_⟩
  refine List.forall_mem_cons.mpr ⟨sn_iast dX12_reasons_98 rfl, ?_⟩
  refine List.forall_mem_cons.mpr ⟨sn_iinc dX12_reasons_99 rfl, ?_⟩
  refine List.forall_mem_cons.mpr ⟨sn_goto dX12_reasons_102 (by decide), ?_⟩
  refine List.forall_mem_cons.mpr ⟨sn_aload_n dX12_reasons_105 rfl rfl, ?_⟩
  refine List.forall_mem_cons.mpr ⟨sn_getr mCl_12 (by decide) rfl kt_1112 dX12_reasons_106 rfl, ?_⟩
  refine List.forall_mem_cons.mpr ⟨sn_iload_n dX12_reasons_109 rfl rfl, ?_⟩
  refine List.forall_mem_cons.mpr ⟨sn_iald dX12_reasons_110 rfl, ?_⟩
  refine List.forall_mem_cons.mpr ⟨sn_iconst dX12_reasons_111 rfl ⟨by decide, by decide⟩, ?_⟩
  refine List.forall_mem_cons.mpr ⟨sn_icmpeq dX12_reasons_112 (by decide) rfl, ?_⟩
  refine List.forall_mem_cons.mpr ⟨sn_vret rfl dX12_reasons_115, ?_⟩
  refine List.forall_mem_cons.mpr ⟨sn_aload_n dX12_reasons_116 rfl rfl, ?_⟩
  refine List.forall_mem_cons.mpr ⟨sn_aload_n dX12_reasons_117 rfl rfl, ?_⟩
  refine List.forall_mem_cons.mpr ⟨sn_geti mCl_12 (by decide) rfl kt_1099 dX12_reasons_118 rfl, ?_⟩
  refine List.forall_mem_cons.mpr ⟨sn_iconst dX12_reasons_121 rfl ⟨by decide, by decide⟩, ?_⟩
  refine List.forall_mem_cons.mpr ⟨sn_iload_n dX12_reasons_122 rfl rfl, ?_⟩
  refine List.forall_mem_cons.mpr ⟨sn_ishl dX12_reasons_123 rfl, ?_⟩
  refine List.forall_mem_cons.mpr ⟨sn_ior dX12_reasons_124 rfl, ?_⟩
  refine List.forall_mem_cons.mpr ⟨sn_callV mCl_12 mt_175 rfl kt_1490 kt_1492 kp_72 dX12_reasons_125 rfl, ?_⟩
  refine List.forall_mem_cons.mpr ⟨sn_ifne dX12_reasons_128 (by decide) rfl, ?_⟩
  refine List.forall_mem_cons.mpr ⟨sn_aload_n dX12_reasons_131 rfl rfl, ?_⟩
  refine List.forall_mem_cons.mpr ⟨sn_getr mCl_12 (by decide) rfl kt_1111 dX12_reasons_132 rfl, ?_⟩
  refine List.forall_mem_cons.mpr ⟨sn_iload_n dX12_reasons_135 rfl rfl, ?_⟩
  refine List.forall_mem_cons.mpr ⟨sn_iconst dX12_reasons_136 rfl ⟨by decide, by decide⟩, ?_⟩
  refine List.forall_mem_cons.mpr ⟨sn_iast dX12_reasons_137 rfl, ?_⟩
  refine List.forall_mem_cons.mpr ⟨sn_iconst dX12_reasons_138 rfl ⟨by decide, by decide⟩, ?_⟩
  refine List.forall_mem_cons.mpr ⟨sn_istore_n dX12_reasons_139 rfl rfl, ?_⟩
  refine List.forall_mem_cons.mpr ⟨sn_iload_n dX12_reasons_140 rfl rfl, ?_⟩
  refine List.forall_mem_cons.mpr ⟨sn_aload_n dX12_reasons_141 rfl rfl, ?_⟩
  refine List.forall_mem_cons.mpr ⟨sn_geti mCl_12 (by decide) rfl kt_1098 dX12_reasons_142 rfl, ?_⟩
  refine List.forall_mem_cons.mpr ⟨sn_icmpge dX12_reasons_145 (by decide) rfl, ?_⟩
  refine List.forall_mem_cons.mpr ⟨sn_aload_n dX12_reasons_148 rfl rfl, ?_⟩
  refine List.forall_mem_cons.mpr ⟨sn_geti mCl_12 (by decide) rfl kt_1099 dX12_reasons_149 rfl, ?_⟩
  refine List.forall_mem_cons.mpr ⟨sn_iload_n dX12_reasons_152 rfl rfl, ?_⟩
  refine List.forall_mem_cons.mpr ⟨sn_ishr dX12_reasons_153 rfl, ?_⟩
  refine List.forall_mem_cons.mpr ⟨sn_iconst dX12_reasons_154 rfl ⟨by decide, by decide⟩, ?_⟩
  refine List.forall_mem_cons.mpr ⟨sn_iand dX12_reasons_155 rfl, ?_⟩
  refine List.forall_mem_cons.mpr ⟨sn_iconst dX12_reasons_156 rfl ⟨by decide, by decide⟩, ?_⟩
  refine List.forall_mem_cons.mpr ⟨sn_icmpne dX12_reasons_157 (by decide) rfl, ?_⟩
  refine List.forall_mem_cons.mpr ⟨sn_aload_n dX12_reasons_160 rfl rfl, ?_⟩
  refine List.forall_mem_cons.mpr ⟨sn_iload_n dX12_reasons_161 rfl rfl, ?_⟩
  refine List.forall_mem_cons.mpr ⟨sn_iload_n dX12_reasons_162 rfl rfl, ?_⟩
  refine List.forall_mem_cons.mpr ⟨sn_callV mCl_12 mt_172 rfl kt_1498 kt_1500 kp_74 dX12_reasons_163 rfl, ?_⟩
  refine List.forall_mem_cons.mpr ⟨sn_ifeq dX12_reasons_166 (by decide) rfl, ?_⟩
  refine List.forall_mem_cons.mpr ⟨sn_aload_n dX12_reasons_169 rfl rfl, ?_⟩
  refine List.forall_mem_cons.mpr ⟨sn_getr mCl_12 (by decide) rfl kt_1112 dX12_reasons_170 rfl, ?_⟩
  refine List.forall_mem_cons.mpr ⟨sn_iload_n dX12_reasons_173 rfl rfl, ?_⟩
  refine List.forall_mem_cons.mpr ⟨sn_iald dX12_reasons_174 rfl, ?_⟩
  refine List.forall_mem_cons.mpr ⟨sn_iconst dX12_reasons_175 rfl ⟨by decide, by decide⟩, ?_⟩
  refine List.forall_mem_cons.mpr ⟨sn_icmpeq dX12_reasons_176 (by decide) rfl, ?_⟩
  refine List.forall_mem_cons.mpr ⟨sn_aload_n dX12_reasons_179 rfl rfl, ?_⟩
  refine List.forall_mem_cons.mpr ⟨sn_getr mCl_12 (by decide) rfl kt_1102 dX12_reasons_180 rfl, ?_⟩
  refine List.forall_mem_cons.mpr ⟨sn_iload_n dX12_reasons_183 rfl rfl, ?_⟩
  refine List.forall_mem_cons.mpr ⟨sn_iald dX12_reasons_184 rfl, ?_⟩
  refine List.forall_mem_cons.mpr ⟨sn_aload_n dX12_reasons_185 rfl rfl, ?_⟩
  refine List.forall_mem_cons.mpr ⟨sn_getr mCl_12 (by decide) rfl kt_1102 dX12_reasons_186 rfl, ?_⟩
  refine List.forall_mem_cons.mpr ⟨sn_aload_n dX12_reasons_189 rfl rfl, ?_⟩
  refine List.forall_mem_cons.mpr ⟨sn_getr mCl_12 (by decide) rfl kt_1112 dX12_reasons_190 rfl, ?_⟩
  refine List.forall_mem_cons.mpr ⟨sn_iload_n dX12_reasons_193 rfl rfl, ?_⟩
  refine List.forall_mem_cons.mpr ⟨sn_iald dX12_reasons_194 rfl, ?_⟩
  refine List.forall_mem_cons.mpr ⟨sn_iald dX12_reasons_195 rfl, ?_⟩
  refine List.forall_mem_cons.mpr ⟨sn_icmpge dX12_reasons_196 (by decide) rfl, ?_⟩
  refine List.forall_mem_cons.mpr ⟨sn_aload_n dX12_reasons_199 rfl rfl, ?_⟩
  refine List.forall_mem_cons.mpr ⟨sn_getr mCl_12 (by decide) rfl kt_1112 dX12_reasons_200 rfl, ?_⟩
  refine List.forall_mem_cons.mpr ⟨sn_iload_n dX12_reasons_203 rfl rfl, ?_⟩
  refine List.forall_mem_cons.mpr ⟨sn_iload_n dX12_reasons_204 rfl rfl, ?_⟩
  refine List.forall_mem_cons.mpr ⟨sn_iast dX12_reasons_205 rfl, ?_⟩
  refine List.forall_mem_cons.mpr ⟨sn_iinc dX12_reasons_206 rfl, ?_⟩
  refine List.forall_mem_cons.mpr ⟨sn_goto dX12_reasons_209 (by decide), ?_⟩
  refine List.forall_mem_cons.mpr ⟨sn_vret rfl dX12_reasons_212, ?_⟩
  refine List.forall_mem_cons.mpr ⟨sn_aload_n dX12_reasons_213 rfl rfl, ?_⟩
  refine List.forall_mem_cons.mpr ⟨sn_getr mCl_12 (by decide) rfl kt_1111 dX12_reasons_214 rfl, ?_⟩
  refine List.forall_mem_cons.mpr ⟨sn_iload_n dX12_reasons_217 rfl rfl, ?_⟩
  refine List.forall_mem_cons.mpr ⟨sn_aload_n dX12_reasons_218 rfl rfl, ?_⟩
  refine List.forall_mem_cons.mpr ⟨sn_geti mCl_12 (by decide) rfl kt_1100 dX12_reasons_219 rfl, ?_⟩
  refine List.forall_mem_cons.mpr ⟨sn_aload_n dX12_reasons_222 rfl rfl, ?_⟩
  refine List.forall_mem_cons.mpr ⟨sn_getr mCl_12 (by decide) rfl kt_1104 dX12_reasons_223 rfl, ?_⟩
  refine List.forall_mem_cons.mpr ⟨sn_iload_n dX12_reasons_226 rfl rfl, ?_⟩
  refine List.forall_mem_cons.mpr ⟨sn_iald dX12_reasons_227 rfl, ?_⟩
  refine List.forall_mem_cons.mpr ⟨sn_iadd dX12_reasons_228 rfl, ?_⟩
  refine List.forall_mem_cons.mpr ⟨sn_aload_n dX12_reasons_229 rfl rfl, ?_⟩
  refine List.forall_mem_cons.mpr ⟨sn_getr mCl_12 (by decide) rfl kt_1103 dX12_reasons_230 rfl, ?_⟩
  refine List.forall_mem_cons.mpr ⟨sn_iload_n dX12_reasons_233 rfl rfl, ?_⟩
  refine List.forall_mem_cons.mpr ⟨sn_iald dX12_reasons_234 rfl, ?_⟩
  refine List.forall_mem_cons.mpr ⟨sn_isub dX12_reasons_235 rfl, ?_⟩
  refine List.forall_mem_cons.mpr ⟨sn_aload_n dX12_reasons_236 rfl rfl, ?_⟩
  refine List.forall_mem_cons.mpr ⟨sn_geti mCl_12 (by decide) rfl kt_1085 dX12_reasons_237 rfl, ?_⟩
  refine List.forall_mem_cons.mpr ⟨sn_icmple dX12_reasons_240 (by decide) rfl, ?_⟩
  refine List.forall_mem_cons.mpr ⟨sn_iconst dX12_reasons_243 rfl ⟨by decide, by decide⟩, ?_⟩
  refine List.forall_mem_cons.mpr ⟨sn_goto dX12_reasons_244 (by decide), ?_⟩
  refine List.forall_mem_cons.mpr ⟨sn_iconst dX12_reasons_247 rfl ⟨by decide, by decide⟩, ?_⟩
  refine List.forall_mem_cons.mpr ⟨sn_iast dX12_reasons_248 rfl, ?_⟩
  refine List.forall_mem_cons.mpr ⟨sn_vret rfl dX12_reasons_249, ?_⟩
  exact List.forall_mem_nil _
theorem sX12_candidate : ∀ q ∈ tX12_candidate, mSnd mInf iX12_candidate q.1 q.2 := by
  unfold tX12_candidate
  refine List.forall_mem_cons.mpr ⟨sn_aload_n dX12_candidate_0 rfl rfl, ?_⟩
  refine List.forall_mem_cons.mpr ⟨sn_geti mCl_12 (by decide) rfl kt_1097 dX12_candidate_1 rfl, ?_⟩
  refine List.forall_mem_cons.mpr ⟨sn_iconst dX12_candidate_4 rfl ⟨by decide, by decide⟩, ?_⟩
  refine List.forall_mem_cons.mpr ⟨sn_icmpeq dX12_candidate_5 (by decide) rfl, ?_⟩
  refine List.forall_mem_cons.mpr ⟨sn_iload_n dX12_candidate_8 rfl rfl, ?_⟩
  refine List.forall_mem_cons.mpr ⟨sn_iflt dX12_candidate_9 (by decide) rfl, ?_⟩
  refine List.forall_mem_cons.mpr ⟨sn_iload_n dX12_candidate_12 rfl rfl, ?_⟩
  refine List.forall_mem_cons.mpr ⟨sn_aload_n dX12_candidate_13 rfl rfl, ?_⟩
  refine List.forall_mem_cons.mpr ⟨sn_geti mCl_12 (by decide) rfl kt_1098 dX12_candidate_14 rfl, ?_⟩
  refine List.forall_mem_cons.mpr ⟨sn_icmplt dX12_candidate_17 (by decide) rfl, ?_⟩
  refine List.forall_mem_cons.mpr ⟨sn_iconst dX12_candidate_20 rfl ⟨by decide, by decide⟩, ?_⟩
  refine List.forall_mem_cons.mpr ⟨sn_iret rfl dX12_candidate_21, ?_⟩
  refine List.forall_mem_cons.mpr ⟨sn_iload_n dX12_candidate_22 rfl rfl, ?_⟩
  refine List.forall_mem_cons.mpr ⟨sn_tsw dX12_candidate_23 (by decide) (by decide) rfl, ?_⟩
  refine List.forall_mem_cons.mpr ⟨sn_aload_n dX12_candidate_56 rfl rfl, ?_⟩
  refine List.forall_mem_cons.mpr ⟨sn_getr mCl_12 (by decide) rfl kt_1101 dX12_candidate_57 rfl, ?_⟩
  refine List.forall_mem_cons.mpr ⟨sn_iload_n dX12_candidate_60 rfl rfl, ?_⟩
  refine List.forall_mem_cons.mpr ⟨sn_iald dX12_candidate_61 rfl, ?_⟩
  refine List.forall_mem_cons.mpr ⟨sn_iret rfl dX12_candidate_62, ?_⟩
  refine List.forall_mem_cons.mpr ⟨sn_aload_n dX12_candidate_63 rfl rfl, ?_⟩
  refine List.forall_mem_cons.mpr ⟨sn_geti mCl_12 (by decide) rfl kt_1099 dX12_candidate_64 rfl, ?_⟩
  refine List.forall_mem_cons.mpr ⟨sn_iload_n dX12_candidate_67 rfl rfl, ?_⟩
  refine List.forall_mem_cons.mpr ⟨sn_ishr dX12_candidate_68 rfl, ?_⟩
  refine List.forall_mem_cons.mpr ⟨sn_iconst dX12_candidate_69 rfl ⟨by decide, by decide⟩, ?_⟩
  refine List.forall_mem_cons.mpr ⟨sn_iand dX12_candidate_70 rfl, ?_⟩
  refine List.forall_mem_cons.mpr ⟨sn_iret rfl dX12_candidate_71, ?_⟩
  refine List.forall_mem_cons.mpr ⟨sn_aload_n dX12_candidate_72 rfl rfl, ?_⟩
  refine List.forall_mem_cons.mpr ⟨sn_getr mCl_12 (by decide) rfl kt_1111 dX12_candidate_73 rfl, ?_⟩
  refine List.forall_mem_cons.mpr ⟨sn_iload_n dX12_candidate_76 rfl rfl, ?_⟩
  refine List.forall_mem_cons.mpr ⟨sn_iald dX12_candidate_77 rfl, ?_⟩
  refine List.forall_mem_cons.mpr ⟨sn_iret rfl dX12_candidate_78, ?_⟩
  refine List.forall_mem_cons.mpr ⟨sn_aload_n dX12_candidate_79 rfl rfl, ?_⟩
  refine List.forall_mem_cons.mpr ⟨sn_getr mCl_12 (by decide) rfl kt_1112 dX12_candidate_80 rfl, ?_⟩
  refine List.forall_mem_cons.mpr ⟨sn_iload_n dX12_candidate_83 rfl rfl, ?_⟩
  refine List.forall_mem_cons.mpr ⟨sn_iald dX12_candidate_84 rfl, ?_⟩
  refine List.forall_mem_cons.mpr ⟨sn_iret rfl dX12_candidate_85, ?_⟩
  refine List.forall_mem_cons.mpr ⟨sn_aload_n dX12_candidate_86 rfl rfl, ?_⟩
  refine List.forall_mem_cons.mpr ⟨sn_getr mCl_12 (by decide) rfl kt_1109 dX12_candidate_87 rfl, ?_⟩
  refine List.forall_mem_cons.mpr ⟨sn_iload_n dX12_candidate_90 rfl rfl, ?_⟩
  refine List.forall_mem_cons.mpr ⟨sn_zald dX12_candidate_91 rfl, ?_⟩
  refine List.forall_mem_cons.mpr ⟨sn_ifeq dX12_candidate_92 (by decide) rfl, ?_⟩
  refine List.forall_mem_cons.mpr ⟨sn_iconst dX12_candidate_95 rfl ⟨by decide, by decide⟩, ?_⟩
  refine List.forall_mem_cons.mpr ⟨sn_goto dX12_candidate_96 (by decide), ?_⟩
  refine List.forall_mem_cons.mpr ⟨sn_iconst dX12_candidate_99 rfl ⟨by decide, by decide⟩, ?_⟩
  refine List.forall_mem_cons.mpr ⟨sn_iret rfl dX12_candidate_100, ?_⟩
  refine List.forall_mem_cons.mpr ⟨sn_iconst dX12_candidate_101 rfl ⟨by decide, by decide⟩, ?_⟩
  refine List.forall_mem_cons.mpr ⟨sn_iret rfl dX12_candidate_102, ?_⟩
  exact List.forall_mem_nil _
theorem sX12_count : ∀ q ∈ tX12_count, mSnd mInf iX12_count q.1 q.2 := by
  unfold tX12_count
  refine List.forall_mem_cons.mpr ⟨sn_iload_n dX12_count_0 rfl rfl, ?_⟩
  refine List.forall_mem_cons.mpr ⟨sn_tsw dX12_count_1 (by decide) (by decide) rfl, ?_⟩
  refine List.forall_mem_cons.mpr ⟨sn_aload_n dX12_count_56 rfl rfl, ?_⟩
  refine List.forall_mem_cons.mpr ⟨sn_geti mCl_12 (by decide) rfl kt_1070 dX12_count_57 rfl, ?_⟩
  refine List.forall_mem_cons.mpr ⟨sn_iret rfl dX12_count_60, ?_⟩
  refine List.forall_mem_cons.mpr ⟨sn_aload_n dX12_count_61 rfl rfl, ?_⟩
  refine List.forall_mem_cons.mpr ⟨sn_geti mCl_12 (by decide) rfl kt_1071 dX12_count_62 rfl, ?_⟩
  refine List.forall_mem_cons.mpr ⟨sn_iret rfl dX12_count_65, ?_⟩
  refine List.forall_mem_cons.mpr ⟨sn_aload_n dX12_count_66 rfl rfl, ?_⟩
  refine List.forall_mem_cons.mpr ⟨sn_geti mCl_12 (by decide) rfl kt_1073 dX12_count_67 rfl, ?_⟩
  refine List.forall_mem_cons.mpr ⟨sn_iret rfl dX12_count_70, ?_⟩
  refine List.forall_mem_cons.mpr ⟨sn_aload_n dX12_count_71 rfl rfl, ?_⟩
  refine List.forall_mem_cons.mpr ⟨sn_getr mCl_12 (by decide) rfl kt_1056 dX12_count_72 rfl, ?_⟩
  refine List.forall_mem_cons.mpr ⟨sn_aload_n dX12_count_75 rfl rfl, ?_⟩
  refine List.forall_mem_cons.mpr ⟨sn_geti mCl_12 (by decide) rfl kt_1054 dX12_count_76 rfl, ?_⟩
  refine List.forall_mem_cons.mpr ⟨sn_iald dX12_count_79 rfl, ?_⟩
  refine List.forall_mem_cons.mpr ⟨sn_iret rfl dX12_count_80, ?_⟩
  refine List.forall_mem_cons.mpr ⟨sn_aload_n dX12_count_81 rfl rfl, ?_⟩
  refine List.forall_mem_cons.mpr ⟨sn_geti mCl_12 (by decide) rfl kt_1086 dX12_count_82 rfl, ?_⟩
  refine List.forall_mem_cons.mpr ⟨sn_iret rfl dX12_count_85, ?_⟩
  refine List.forall_mem_cons.mpr ⟨sn_aload_n dX12_count_86 rfl rfl, ?_⟩
  refine List.forall_mem_cons.mpr ⟨sn_geti mCl_12 (by decide) rfl kt_1038 dX12_count_87 rfl, ?_⟩
  refine List.forall_mem_cons.mpr ⟨sn_iret rfl dX12_count_90, ?_⟩
  refine List.forall_mem_cons.mpr ⟨sn_aload_n dX12_count_91 rfl rfl, ?_⟩
  refine List.forall_mem_cons.mpr ⟨sn_geti mCl_12 (by decide) rfl kt_1097 dX12_count_92 rfl, ?_⟩
  refine List.forall_mem_cons.mpr ⟨sn_iconst dX12_count_95 rfl ⟨by decide, by decide⟩, ?_⟩
  refine List.forall_mem_cons.mpr ⟨sn_icmpeq dX12_count_96 (by decide) rfl, ?_⟩
  refine List.forall_mem_cons.mpr ⟨sn_iload_n dX12_count_99 rfl rfl, ?_⟩
  refine List.forall_mem_cons.mpr ⟨sn_iconst dX12_count_100 rfl ⟨by decide, by decide⟩, ?_⟩
  refine List.forall_mem_cons.mpr ⟨sn_icmplt dX12_count_101 (by decide) rfl, ?_⟩
  refine List.forall_mem_cons.mpr ⟨sn_iload_n dX12_count_104 rfl rfl, ?_⟩
  refine List.forall_mem_cons.mpr ⟨sn_bipush dX12_count_105 rfl (by decide) ⟨by decide, by decide⟩, ?_⟩
  refine List.forall_mem_cons.mpr ⟨sn_icmple dX12_count_107 (by decide) rfl, ?_⟩
  refine List.forall_mem_cons.mpr ⟨sn_iconst dX12_count_110 rfl ⟨by decide, by decide⟩, ?_⟩
  refine List.forall_mem_cons.mpr ⟨sn_iret rfl dX12_count_111, ?_⟩
  refine List.forall_mem_cons.mpr ⟨sn_iload_n dX12_count_112 rfl rfl, ?_⟩
  refine List.forall_mem_cons.mpr ⟨sn_iconst dX12_count_113 rfl ⟨by decide, by decide⟩, ?_⟩
  refine List.forall_mem_cons.mpr ⟨sn_icmpne dX12_count_114 (by decide) rfl, ?_⟩
  refine List.forall_mem_cons.mpr ⟨sn_aload_n dX12_count_117 rfl rfl, ?_⟩
  refine List.forall_mem_cons.mpr ⟨sn_geti mCl_12 (by decide) rfl kt_1098 dX12_count_118 rfl, ?_⟩
  refine List.forall_mem_cons.mpr ⟨sn_iret rfl dX12_count_121, ?_⟩
  refine List.forall_mem_cons.mpr ⟨sn_iload_n dX12_count_122 rfl rfl, ?_⟩
  refine List.forall_mem_cons.mpr ⟨sn_bipush dX12_count_123 rfl (by decide) ⟨by decide, by decide⟩, ?_⟩
  refine List.forall_mem_cons.mpr ⟨sn_icmpne dX12_count_125 (by decide) rfl, ?_⟩
  refine List.forall_mem_cons.mpr ⟨sn_aload_n dX12_count_128 rfl rfl, ?_⟩
  refine List.forall_mem_cons.mpr ⟨sn_geti mCl_12 (by decide) rfl kt_1100 dX12_count_129 rfl, ?_⟩
  refine List.forall_mem_cons.mpr ⟨sn_iret rfl dX12_count_132, ?_⟩
  refine List.forall_mem_cons.mpr ⟨sn_iload_n dX12_count_133 rfl rfl, ?_⟩
  refine List.forall_mem_cons.mpr ⟨sn_bipush dX12_count_134 rfl (by decide) ⟨by decide, by decide⟩, ?_⟩
  refine List.forall_mem_cons.mpr ⟨sn_icmpne dX12_count_136 (by decide) rfl, ?_⟩
  refine List.forall_mem_cons.mpr ⟨sn_aload_n dX12_count_139 rfl rfl, ?_⟩
  refine List.forall_mem_cons.mpr ⟨sn_geti mCl_12 (by decide) rfl kt_1097 dX12_count_140 rfl, ?_⟩
  refine List.forall_mem_cons.mpr ⟨sn_iret rfl dX12_count_143, ?_⟩
  refine List.forall_mem_cons.mpr ⟨sn_iconst dX12_count_144 rfl ⟨by decide, by decide⟩, ?_⟩
  refine List.forall_mem_cons.mpr ⟨sn_istore_n dX12_count_145 rfl rfl, ?_⟩
  refine List.forall_mem_cons.mpr ⟨sn_iconst dX12_count_146 rfl ⟨by decide, by decide⟩, ?_⟩
  refine List.forall_mem_cons.mpr ⟨sn_istore_n dX12_count_147 rfl rfl, ?_⟩
  refine List.forall_mem_cons.mpr ⟨sn_iload_n dX12_count_148 rfl rfl, ?_⟩
  refine List.forall_mem_cons.mpr ⟨sn_aload_n dX12_count_149 rfl rfl, ?_⟩
  refine List.forall_mem_cons.mpr ⟨sn_geti mCl_12 (by decide) rfl kt_1098 dX12_count_150 rfl, ?_⟩
  refine List.forall_mem_cons.mpr ⟨sn_icmpge dX12_count_153 (by decide) rfl, ?_⟩
  refine List.forall_mem_cons.mpr ⟨sn_iload_n dX12_count_156 rfl rfl, ?_⟩
  refine List.forall_mem_cons.mpr ⟨sn_aload_n dX12_count_157 rfl rfl, ?_⟩
  refine List.forall_mem_cons.mpr ⟨sn_geti mCl_12 (by decide) rfl kt_1099 dX12_count_158 rfl, ?_⟩
  refine List.forall_mem_cons.mpr ⟨sn_iload_n dX12_count_161 rfl rfl, ?_⟩
  refine List.forall_mem_cons.mpr ⟨sn_ishr dX12_count_162 rfl, ?_⟩
  refine List.forall_mem_cons.mpr ⟨sn_iconst dX12_count_163 rfl ⟨by decide, by decide⟩, ?_⟩
  refine List.forall_mem_cons.mpr ⟨sn_iand dX12_count_164 rfl, ?_⟩
  refine List.forall_mem_cons.mpr ⟨sn_iadd dX12_count_165 rfl, ?_⟩
  refine List.forall_mem_cons.mpr ⟨sn_istore_n dX12_count_166 rfl rfl, ?_⟩
  refine List.forall_mem_cons.mpr ⟨sn_iinc dX12_count_167 rfl, ?_⟩
  refine List.forall_mem_cons.mpr ⟨sn_goto dX12_count_170 (by decide), ?_⟩
  refine List.forall_mem_cons.mpr ⟨sn_iload_n dX12_count_173 rfl rfl, ?_⟩
  refine List.forall_mem_cons.mpr ⟨sn_iret rfl dX12_count_174, ?_⟩
  exact List.forall_mem_nil _
