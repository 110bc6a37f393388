theorem sX4_init : ∀ q ∈ tX4_init, mSnd mInf iX4_init q.1 q.2 := by
  unfold tX4_init
  refine List.forall_mem_cons.mpr ⟨sn_aload_n dX4_init_0 rfl rfl, ?_⟩
  refine List.forall_mem_cons.mpr ⟨sn_objinit kt_257 kt_28 kt_29 dX4_init_1 rfl, ?_⟩
  refine List.forall_mem_cons.mpr ⟨sn_aload_n dX4_init_4 rfl rfl, ?_⟩
  refine List.forall_mem_cons.mpr ⟨sn_iconst dX4_init_5 rfl ⟨by decide, by decide⟩, ?_⟩
  refine List.forall_mem_cons.mpr ⟨sn_puti mCl_4 (by decide) rfl (Or.inl rfl) kt_260 dX4_init_6 rfl, ?_⟩
  refine List.forall_mem_cons.mpr ⟨sn_aload_n dX4_init_9 rfl rfl, ?_⟩
  refine List.forall_mem_cons.mpr ⟨sn_iconst dX4_init_10 rfl ⟨by decide, by decide⟩, ?_⟩
  refine List.forall_mem_cons.mpr ⟨sn_puti mCl_4 (by decide) rfl (Or.inl rfl) kt_262 dX4_init_11 rfl, ?_⟩
  refine List.forall_mem_cons.mpr ⟨sn_aload_n dX4_init_14 rfl rfl, ?_⟩
  refine List.forall_mem_cons.mpr ⟨sn_iconst dX4_init_15 rfl ⟨by decide, by decide⟩, ?_⟩
  refine List.forall_mem_cons.mpr ⟨sn_puti mCl_4 (by decide) rfl (Or.inl rfl) kt_264 dX4_init_16 rfl, ?_⟩
  refine List.forall_mem_cons.mpr ⟨sn_aload_n dX4_init_19 rfl rfl, ?_⟩
  refine List.forall_mem_cons.mpr ⟨sn_iconst dX4_init_20 rfl ⟨by decide, by decide⟩, ?_⟩
  refine List.forall_mem_cons.mpr ⟨sn_puti mCl_4 (by decide) rfl (Or.inl rfl) kt_266 dX4_init_21 rfl, ?_⟩
  refine List.forall_mem_cons.mpr ⟨sn_aload_n dX4_init_24 rfl rfl, ?_⟩
  refine List.forall_mem_cons.mpr ⟨sn_iconst dX4_init_25 rfl ⟨by decide, by decide⟩, ?_⟩
  refine List.forall_mem_cons.mpr ⟨sn_puti mCl_4 (by decide) rfl (Or.inl rfl) kt_268 dX4_init_26 rfl, ?_⟩
  refine List.forall_mem_cons.mpr ⟨sn_aload_n dX4_init_29 rfl rfl, ?_⟩
  refine List.forall_mem_cons.mpr ⟨sn_bipush dX4_init_30 rfl (by decide) ⟨by decide, by decide⟩, ?_⟩
  refine List.forall_mem_cons.mpr ⟨sn_newr (t0 := 4) ⟨by decide, by decide⟩ (fun _ => rfl) (by decide) kt_258 dX4_init_32 rfl, ?_⟩
  refine List.forall_mem_cons.mpr ⟨sn_putr mCl_4 (by decide) rfl (Or.inr ⟨rfl, rfl, rfl⟩) kt_270 dX4_init_35 rfl, ?_⟩
  refine List.forall_mem_cons.mpr ⟨sn_vret rfl dX4_init_38, ?_⟩
  exact List.forall_mem_nil _
theorem sX4_at : ∀ q ∈ tX4_at, mSnd mInf iX4_at q.1 q.2 := by
  unfold tX4_at
  refine List.forall_mem_cons.mpr ⟨sn_iload_n dX4_at_0 rfl rfl, ?_⟩
  refine List.forall_mem_cons.mpr ⟨sn_iflt dX4_at_1 (by decide) rfl, ?_⟩
  refine List.forall_mem_cons.mpr ⟨sn_iload_n dX4_at_4 rfl rfl, ?_⟩
  refine List.forall_mem_cons.mpr ⟨sn_aload_n dX4_at_5 rfl rfl, ?_⟩
  refine List.forall_mem_cons.mpr ⟨sn_geti mCl_4 (by decide) rfl kt_260 dX4_at_6 rfl, ?_⟩
  refine List.forall_mem_cons.mpr ⟨sn_icmpge dX4_at_9 (by decide) rfl, ?_⟩
  refine List.forall_mem_cons.mpr ⟨sn_iload_n dX4_at_12 rfl rfl, ?_⟩
  refine List.forall_mem_cons.mpr ⟨sn_aload_n dX4_at_13 rfl rfl, ?_⟩
  refine List.forall_mem_cons.mpr ⟨sn_getr mCl_4 (by decide) rfl kt_270 dX4_at_14 rfl, ?_⟩
  refine List.forall_mem_cons.mpr ⟨sn_alen dX4_at_17 rfl, ?_⟩
  refine List.forall_mem_cons.mpr ⟨sn_icmpge dX4_at_18 (by decide) rfl, ?_⟩
  refine List.forall_mem_cons.mpr ⟨sn_aload_n dX4_at_21 rfl rfl, ?_⟩
  refine List.forall_mem_cons.mpr ⟨sn_getr mCl_4 (by decide) rfl kt_270 dX4_at_22 rfl, ?_⟩
  refine List.forall_mem_cons.mpr ⟨sn_iload_n dX4_at_25 rfl rfl, ?_⟩
  refine List.forall_mem_cons.mpr ⟨sn_rald (t0 := 4) ⟨by decide, by decide⟩ (fun _ => rfl) dX4_at_26 rfl, ?_⟩
  refine List.forall_mem_cons.mpr ⟨sn_goto dX4_at_27 (by decide), ?_⟩
  refine List.forall_mem_cons.mpr ⟨sn_null dX4_at_30 rfl, ?_⟩
  refine List.forall_mem_cons.mpr ⟨sn_aret rfl dX4_at_31, ?_⟩
  exact List.forall_mem_nil _
theorem sX4_gather : ∀ q ∈ tX4_gather, mSnd mInf iX4_gather q.1 q.2 := by
  unfold tX4_gather
  refine List.forall_mem_cons.mpr ⟨sn_aload_n dX4_gather_0 rfl rfl, ?_⟩
  refine List.forall_mem_cons.mpr ⟨sn_iconst dX4_gather_1 rfl ⟨by decide, by decide⟩, ?_⟩
  refine List.forall_mem_cons.mpr ⟨sn_puti mCl_4 (by decide) rfl (Or.inl rfl) kt_260 dX4_gather_2 rfl, ?_⟩
  refine List.forall_mem_cons.mpr ⟨sn_aload_n dX4_gather_5 rfl rfl, ?_⟩
  refine List.forall_mem_cons.mpr ⟨sn_aload_n dX4_gather_6 rfl rfl, ?_⟩
  refine List.forall_mem_cons.mpr ⟨sn_geti mCl_1 (by decide) rfl kt_78 dX4_gather_7 rfl, ?_⟩
  refine List.forall_mem_cons.mpr ⟨sn_puti mCl_4 (by decide) rfl (Or.inl rfl) kt_262 dX4_gather_10 rfl, ?_⟩
  refine List.forall_mem_cons.mpr ⟨sn_iconst dX4_gather_13 rfl ⟨by decide, by decide⟩, ?_⟩
  refine List.forall_mem_cons.mpr ⟨sn_istore dX4_gather_14 rfl, ?_⟩
  refine List.forall_mem_cons.mpr ⟨sn_iload dX4_gather_16 rfl, ?_⟩
  refine List.forall_mem_cons.mpr ⟨sn_aload_n dX4_gather_18 rfl rfl, ?_⟩
  refine List.forall_mem_cons.mpr ⟨sn_geti mCl_1 (by decide) rfl kt_75 dX4_gather_19 rfl, ?_⟩
  refine List.forall_mem_cons.mpr ⟨sn_icmpge dX4_gather_22 (by decide) rfl, ?_⟩
  refine List.forall_mem_cons.mpr ⟨sn_aload_n dX4_gather_25 rfl rfl, ?_⟩
  refine List.forall_mem_cons.mpr ⟨sn_iload dX4_gather_26 rfl, ?_⟩
  refine List.forall_mem_cons.mpr ⟨sn_callV mCl_1 mt_10 rfl kt_829 kt_784 kt_785 dX4_gather_28 rfl, ?_⟩
  refine List.forall_mem_cons.mpr ⟨sn_astore dX4_gather_31 rfl, ?_⟩
  refine List.forall_mem_cons.mpr ⟨sn_aload dX4_gather_33 rfl, ?_⟩
  refine List.forall_mem_cons.mpr ⟨sn_ifnonnull dX4_gather_35 (by decide) rfl, ?_⟩
  refine List.forall_mem_cons.mpr ⟨sn_iconst dX4_gather_38 rfl ⟨by decide, by decide⟩, ?_⟩
  refine List.forall_mem_cons.mpr ⟨sn_goto dX4_gather_39 (by decide), ?_⟩
  refine List.forall_mem_cons.mpr ⟨sn_aload_n dX4_gather_42 rfl rfl, ?_⟩
  refine List.forall_mem_cons.mpr ⟨sn_aload dX4_gather_43 rfl, ?_⟩
  refine List.forall_mem_cons.mpr ⟨sn_callV mCl_10 mt_97 rfl kt_830 kt_788 kt_789 dX4_gather_45 rfl, ?_⟩
  refine List.forall_mem_cons.mpr ⟨sn_istore dX4_gather_48 rfl, ?_⟩
  refine List.forall_mem_cons.mpr ⟨sn_iload dX4_gather_50 rfl, ?_⟩
  refine List.forall_mem_cons.mpr ⟨sn_ifle dX4_gather_52 (by decide) rfl, ?_⟩
  refine List.forall_mem_cons.mpr ⟨sn_aload_n dX4_gather_55 rfl rfl, ?_⟩
  refine List.forall_mem_cons.mpr ⟨sn_geti mCl_4 (by decide) rfl kt_260 dX4_gather_56 rfl, ?_⟩
  refine List.forall_mem_cons.mpr ⟨sn_aload_n dX4_gather_59 rfl rfl, ?_⟩
  refine List.forall_mem_cons.mpr ⟨sn_getr mCl_4 (by decide) rfl kt_270 dX4_gather_60 rfl, ?_⟩
  refine List.forall_mem_cons.mpr ⟨sn_alen dX4_gather_63 rfl, ?_⟩
  refine List.forall_mem_cons.mpr ⟨sn_icmplt dX4_gather_64 (by decide) rfl, ?_⟩
  refine List.forall_mem_cons.mpr ⟨sn_iconst dX4_gather_67 rfl ⟨by decide, by decide⟩, ?_⟩
  refine List.forall_mem_cons.mpr ⟨sn_zret rfl dX4_gather_68, ?_⟩
  refine List.forall_mem_cons.mpr ⟨sn_aload_n dX4_gather_69 rfl rfl, ?_⟩
  refine List.forall_mem_cons.mpr ⟨sn_getr mCl_4 (by decide) rfl kt_270 dX4_gather_70 rfl, ?_⟩
  refine List.forall_mem_cons.mpr ⟨sn_aload_n dX4_gather_73 rfl rfl, ?_⟩
  refine List.forall_mem_cons.mpr ⟨sn_geti mCl_4 (by decide) rfl kt_260 dX4_gather_74 rfl, ?_⟩
  refine List.forall_mem_cons.mpr ⟨sn_rald (t0 := 4) ⟨by decide, by decide⟩ (fun _ => rfl) dX4_gather_77 rfl, ?_⟩
  refine List.forall_mem_cons.mpr ⟨sn_ifnonnull dX4_gather_78 (by decide) rfl, ?_⟩
  refine List.forall_mem_cons.mpr ⟨sn_aload_n dX4_gather_81 rfl rfl, ?_⟩
  refine List.forall_mem_cons.mpr ⟨sn_getr mCl_4 (by decide) rfl kt_270 dX4_gather_82 rfl, ?_⟩
  refine List.forall_mem_cons.mpr ⟨sn_aload_n dX4_gather_85 rfl rfl, ?_⟩
  refine List.forall_mem_cons.mpr ⟨sn_geti mCl_4 (by decide) rfl kt_260 dX4_gather_86 rfl, ?_⟩
  refine List.forall_mem_cons.mpr ⟨sn_new mCl_0 mDf_0 kt_258 kt_831 kt_20 dX4_gather_89 rfl, ?_⟩
  refine List.forall_mem_cons.mpr ⟨sn_dup dX4_gather_92 rfl, ?_⟩
  refine List.forall_mem_cons.mpr ⟨sn_callIN mCl_0 mt_0 rfl rfl (by decide) kt_833 dX4_gather_93 rfl, ?_⟩
  refine List.forall_mem_cons.mpr ⟨sn_rast mCl_0 (t0 := 4) ⟨by decide, by decide⟩ (fun _ => rfl) dX4_gather_96 rfl, ?_⟩
  refine List.forall_mem_cons.mpr ⟨sn_aload_n dX4_gather_97 rfl rfl, ?_⟩
  refine List.forall_mem_cons.mpr ⟨sn_getr mCl_4 (by decide) rfl kt_270 dX4_gather_98 rfl, ?_⟩
  refine List.forall_mem_cons.mpr ⟨sn_aload_n dX4_gather_101 rfl rfl, ?_⟩
  refine List.forall_mem_cons.mpr ⟨sn_geti mCl_4 (by decide) rfl kt_260 dX4_gather_102 rfl, ?_⟩
  refine List.forall_mem_cons.mpr ⟨sn_rald (t0 := 4) ⟨by decide, by decide⟩ (fun _ => rfl) dX4_gather_105 rfl, ?_⟩
  refine List.forall_mem_cons.mpr ⟨sn_aload dX4_gather_106 rfl, ?_⟩
  refine List.forall_mem_cons.mpr ⟨sn_iload dX4_gather_108 rfl, ?_⟩
  refine List.forall_mem_cons.mpr ⟨sn_aload_n dX4_gather_110 rfl rfl, ?_⟩
  refine List.forall_mem_cons.mpr ⟨sn_callV mCl_0 mt_1 rfl kt_905 kt_906 kt_907 dX4_gather_111 rfl, ?_⟩
  refine List.forall_mem_cons.mpr ⟨sn_aload_n dX4_gather_114 rfl rfl, ?_⟩
  refine List.forall_mem_cons.mpr ⟨sn_dup dX4_gather_115 rfl, ?_⟩
  refine List.forall_mem_cons.mpr ⟨sn_geti mCl_4 (by decide) rfl kt_260 dX4_gather_116 rfl, ?_⟩
  refine List.forall_mem_cons.mpr ⟨sn_iconst dX4_gather_119 rfl ⟨by decide, by decide⟩, ?_⟩
  refine List.forall_mem_cons.mpr ⟨sn_iadd dX4_gather_120 rfl, ?_⟩
  refine List.forall_mem_cons.mpr ⟨sn_puti mCl_4 (by decide) rfl (Or.inl rfl) kt_260 dX4_gather_121 rfl, ?_⟩
  refine List.forall_mem_cons.mpr ⟨sn_iinc dX4_gather_124 rfl, ?_⟩
  refine List.forall_mem_cons.mpr ⟨sn_goto dX4_gather_127 (by decide), ?_⟩
  refine List.forall_mem_cons.mpr ⟨sn_iconst dX4_gather_130 rfl ⟨by decide, by decide⟩, ?_⟩
  refine List.forall_mem_cons.mpr ⟨sn_zret rfl dX4_gather_131, ?_⟩
  exact List.forall_mem_nil _
theorem sX4_prepare : ∀ q ∈ tX4_prepare, mSnd mInf iX4_prepare q.1 q.2 := by
  unfold tX4_prepare
  refine List.forall_mem_cons.mpr ⟨sn_iconst dX4_prepare_0 rfl ⟨by decide, by decide⟩, ?_⟩
  refine List.forall_mem_cons.mpr ⟨sn_istore_n dX4_prepare_1 rfl rfl, ?_⟩
  refine List.forall_mem_cons.mpr ⟨sn_iconst dX4_prepare_2 rfl ⟨by decide, by decide⟩, ?_⟩
  refine List.forall_mem_cons.mpr ⟨sn_istore dX4_prepare_3 rfl, ?_⟩
  refine List.forall_mem_cons.mpr ⟨sn_aload_n dX4_prepare_5 rfl rfl, ?_⟩
  refine List.forall_mem_cons.mpr ⟨sn_geti mCl_4 (by decide) rfl kt_260 dX4_prepare_6 rfl, ?_⟩
  refine List.forall_mem_cons.mpr ⟨sn_iconst dX4_prepare_9 rfl ⟨by decide, by decide⟩, ?_⟩
  refine List.forall_mem_cons.mpr ⟨sn_isub dX4_prepare_10 rfl, ?_⟩
  refine List.forall_mem_cons.mpr ⟨sn_istore dX4_prepare_11 rfl, ?_⟩
  refine List.forall_mem_cons.mpr ⟨sn_iload dX4_prepare_13 rfl, ?_⟩
  refine List.forall_mem_cons.mpr ⟨sn_iflt dX4_prepare_15 (by decide) rfl, ?_⟩
  refine List.forall_mem_cons.mpr ⟨sn_aload_n dX4_prepare_18 rfl rfl, ?_⟩
  refine List.forall_mem_cons.mpr ⟨sn_iload dX4_prepare_19 rfl, ?_⟩
  refine List.forall_mem_cons.mpr ⟨sn_callV mCl_4 mt_35 rfl kt_915 kt_916 kt_917 dX4_prepare_21 rfl, ?_⟩
  refine List.forall_mem_cons.mpr ⟨sn_astore dX4_prepare_24 rfl, ?_⟩
  refine List.forall_mem_cons.mpr ⟨sn_aload dX4_prepare_26 rfl, ?_⟩
  refine List.forall_mem_cons.mpr ⟨sn_ifnull dX4_prepare_28 (by decide) rfl, ?_⟩
  refine List.forall_mem_cons.mpr ⟨sn_aload dX4_prepare_31 rfl, ?_⟩
  refine List.forall_mem_cons.mpr ⟨sn_aload_n dX4_prepare_33 rfl rfl, ?_⟩
  refine List.forall_mem_cons.mpr ⟨sn_aload dX4_prepare_34 rfl, ?_⟩
  refine List.forall_mem_cons.mpr ⟨sn_iload_n dX4_prepare_36 rfl rfl, ?_⟩
  refine List.forall_mem_cons.mpr ⟨sn_callV mCl_4 mt_38 rfl kt_919 kt_921 kp_25 dX4_prepare_37 rfl, ?_⟩
  refine List.forall_mem_cons.mpr ⟨sn_putz mCl_0 (by decide) rfl (Or.inl rfl) kt_849 dX4_prepare_40 rfl, ?_⟩
  refine List.forall_mem_cons.mpr ⟨sn_aload dX4_prepare_43 rfl, ?_⟩
  refine List.forall_mem_cons.mpr ⟨sn_aload dX4_prepare_45 rfl, ?_⟩
  refine List.forall_mem_cons.mpr ⟨sn_geti mCl_0 (by decide) rfl kt_849 dX4_prepare_47 rfl, ?_⟩
  refine List.forall_mem_cons.mpr ⟨sn_ifne dX4_prepare_50 (by decide) rfl, ?_⟩
  refine List.forall_mem_cons.mpr ⟨sn_aload dX4_prepare_53 rfl, ?_⟩
  refine List.forall_mem_cons.mpr ⟨sn_geti mCl_0 (by decide) rfl kt_847 dX4_prepare_55 rfl, ?_⟩
  refine List.forall_mem_cons.mpr ⟨sn_iload_n dX4_prepare_58 rfl rfl, ?_⟩
  refine List.forall_mem_cons.mpr ⟨sn_icmplt dX4_prepare_59 (by decide) rfl, ?_⟩
  refine List.forall_mem_cons.mpr ⟨sn_iconst dX4_prepare_62 rfl ⟨by decide, by decide⟩, ?_⟩
  refine List.forall_mem_cons.mpr ⟨sn_goto dX4_prepare_63 (by decide), ?_⟩
  refine List.forall_mem_cons.mpr ⟨sn_iconst dX4_prepare_66 rfl ⟨by decide, by decide⟩, ?_⟩
  refine List.forall_mem_cons.mpr ⟨sn_putz mCl_0 (by decide) rfl (Or.inl rfl) kt_852 dX4_prepare_67 rfl, ?_⟩
  refine List.forall_mem_cons.mpr ⟨sn_iload_n dX4_prepare_70 rfl rfl, ?_⟩
  refine List.forall_mem_cons.mpr ⟨sn_aload dX4_prepare_71 rfl, ?_⟩
  refine List.forall_mem_cons.mpr ⟨sn_geti mCl_0 (by decide) rfl kt_849 dX4_prepare_73 rfl, ?_⟩
  refine List.forall_mem_cons.mpr ⟨sn_ifeq dX4_prepare_76 (by decide) rfl, ?_⟩
  refine List.forall_mem_cons.mpr ⟨sn_iconst dX4_prepare_79 rfl ⟨by decide, by decide⟩, ?_⟩
  refine List.forall_mem_cons.mpr ⟨sn_goto dX4_prepare_80 (by decide), ?_⟩
  refine List.forall_mem_cons.mpr ⟨sn_iconst dX4_prepare_83 rfl ⟨by decide, by decide⟩, ?_⟩
  refine List.forall_mem_cons.mpr ⟨sn_iadd dX4_prepare_84 rfl, ?_⟩
  refine List.forall_mem_cons.mpr ⟨sn_istore_n dX4_prepare_85 rfl rfl, ?_⟩
  refine List.forall_mem_cons.mpr ⟨sn_iload dX4_prepare_86 rfl, ?_⟩
  refine List.forall_mem_cons.mpr ⟨sn_aload dX4_prepare_88 rfl, ?_⟩
  refine List.forall_mem_cons.mpr ⟨sn_geti mCl_0 (by decide) rfl kt_852 dX4_prepare_90 rfl, ?_⟩
  refine List.forall_mem_cons.mpr ⟨sn_ifeq dX4_prepare_93 (by decide) rfl, ?_⟩
  refine List.forall_mem_cons.mpr ⟨sn_aload dX4_prepare_96 rfl, ?_⟩
  refine List.forall_mem_cons.mpr ⟨sn_geti mCl_0 (by decide) rfl kt_844 dX4_prepare_98 rfl, ?_⟩
  refine List.forall_mem_cons.mpr ⟨sn_goto dX4_prepare_101 (by decide), ?_⟩
  refine List.forall_mem_cons.mpr ⟨sn_iconst dX4_prepare_104 rfl ⟨by decide, by decide⟩, ?_⟩
  refine List.forall_mem_cons.mpr ⟨sn_iadd dX4_prepare_105 rfl, ?_⟩
  refine List.forall_mem_cons.mpr ⟨sn_istore dX4_prepare_106 rfl, ?_⟩
  refine List.forall_mem_cons.mpr ⟨sn_aload dX4_prepare_108 rfl, ?_⟩
  refine List.forall_mem_cons.mpr ⟨sn_iload_n dX4_prepare_110 rfl rfl, ?_⟩
  refine List.forall_mem_cons.mpr ⟨sn_puti mCl_0 (by decide) rfl (Or.inl rfl) kt_865 dX4_prepare_111 rfl, ?_⟩
  refine List.forall_mem_cons.mpr ⟨sn_aload dX4_prepare_114 rfl, ?_⟩
  refine List.forall_mem_cons.mpr ⟨sn_iload dX4_prepare_116 rfl, ?_⟩
  refine List.forall_mem_cons.mpr ⟨sn_puti mCl_0 (by decide) rfl (Or.inl rfl) kt_867 dX4_prepare_118 rfl, ?_⟩
  refine List.forall_mem_cons.mpr ⟨sn_aload_n dX4_prepare_121 rfl rfl, ?_⟩
  refine List.forall_mem_cons.mpr ⟨sn_aload dX4_prepare_122 rfl, ?_⟩
  refine List.forall_mem_cons.mpr ⟨sn_iload dX4_prepare_124 rfl, ?_⟩
  refine List.forall_mem_cons.mpr ⟨sn_callV mCl_4 mt_39 rfl kt_927 kt_929 kp_26 dX4_prepare_126 rfl, ?_⟩
  refine List.forall_mem_cons.mpr ⟨sn_iinc dX4_prepare_129 rfl, ?_⟩
  refine List.forall_mem_cons.mpr ⟨sn_goto dX4_prepare_132 (by decide), ?_⟩
  refine List.forall_mem_cons.mpr ⟨sn_vret rfl dX4_prepare_135, ?_⟩
  exact List.forall_mem_nil _
theorem sX4_hasUnderWay : ∀ q ∈ tX4_hasUnderWay, mSnd mInf iX4_hasUnderWay q.1 q.2 := by
  unfold tX4_hasUnderWay
  refine List.forall_mem_cons.mpr ⟨sn_iconst dX4_hasUnderWay_0 rfl ⟨by decide, by decide⟩, ?_⟩
  refine List.forall_mem_cons.mpr ⟨sn_istore_n dX4_hasUnderWay_1 rfl rfl, ?_⟩
  refine List.forall_mem_cons.mpr ⟨sn_iload_n dX4_hasUnderWay_2 rfl rfl, ?_⟩
  refine List.forall_mem_cons.mpr ⟨sn_aload_n dX4_hasUnderWay_3 rfl rfl, ?_⟩
  refine List.forall_mem_cons.mpr ⟨sn_geti mCl_4 (by decide) rfl kt_260 dX4_hasUnderWay_4 rfl, ?_⟩
  refine List.forall_mem_cons.mpr ⟨sn_icmpge dX4_hasUnderWay_7 (by decide) rfl, ?_⟩
  refine List.forall_mem_cons.mpr ⟨sn_aload_n dX4_hasUnderWay_10 rfl rfl, ?_⟩
  refine List.forall_mem_cons.mpr ⟨sn_iload_n dX4_hasUnderWay_11 rfl rfl, ?_⟩
  refine List.forall_mem_cons.mpr ⟨sn_callV mCl_4 mt_35 rfl kt_915 kt_916 kt_917 dX4_hasUnderWay_12 rfl, ?_⟩
  refine List.forall_mem_cons.mpr ⟨sn_astore dX4_hasUnderWay_15 rfl, ?_⟩
  refine List.forall_mem_cons.mpr ⟨sn_aload dX4_hasUnderWay_17 rfl, ?_⟩
  refine List.forall_mem_cons.mpr ⟨sn_ifnull dX4_hasUnderWay_19 (by decide) rfl, ?_⟩
  refine List.forall_mem_cons.mpr ⟨sn_aload dX4_hasUnderWay_22 rfl, ?_⟩
  refine List.forall_mem_cons.mpr ⟨sn_geti mCl_0 (by decide) rfl kt_854 dX4_hasUnderWay_24 rfl, ?_⟩
  refine List.forall_mem_cons.mpr ⟨sn_ifeq dX4_hasUnderWay_27 (by decide) rfl, ?_⟩
  refine List.forall_mem_cons.mpr ⟨sn_aload dX4_hasUnderWay_30 rfl, ?_⟩
  refine List.forall_mem_cons.mpr ⟨sn_geti mCl_0 (by decide) rfl kt_847 dX4_hasUnderWay_32 rfl, ?_⟩
  refine List.forall_mem_cons.mpr ⟨sn_iload_n dX4_hasUnderWay_35 rfl rfl, ?_⟩
  refine List.forall_mem_cons.mpr ⟨sn_icmpge dX4_hasUnderWay_36 (by decide) rfl, ?_⟩
  refine List.forall_mem_cons.mpr ⟨sn_aload dX4_hasUnderWay_39 rfl, ?_⟩
  refine List.forall_mem_cons.mpr ⟨sn_aload_n dX4_hasUnderWay_41 rfl rfl, ?_⟩
  refine List.forall_mem_cons.mpr ⟨sn_callV mCl_0 mt_6 rfl kt_923 kt_924 kt_925 dX4_hasUnderWay_42 rfl, ?_⟩
  refine List.forall_mem_cons.mpr ⟨sn_ifeq dX4_hasUnderWay_45 (by decide) rfl, ?_⟩
  refine List.forall_mem_cons.mpr ⟨sn_iconst dX4_hasUnderWay_48 rfl ⟨by decide, by decide⟩, ?_⟩
  refine List.forall_mem_cons.mpr ⟨sn_zret rfl dX4_hasUnderWay_49, ?_⟩
  refine List.forall_mem_cons.mpr ⟨sn_iinc dX4_hasUnderWay_50 rfl, ?_⟩
  refine List.forall_mem_cons.mpr ⟨sn_goto dX4_hasUnderWay_53 (by decide), ?_⟩
  refine List.forall_mem_cons.mpr ⟨sn_iconst dX4_hasUnderWay_56 rfl ⟨by decide, by decide⟩, ?_⟩
  refine List.forall_mem_cons.mpr ⟨sn_zret rfl dX4_hasUnderWay_57, ?_⟩
  exact List.forall_mem_nil _
theorem sX4_markEarlier : ∀ q ∈ tX4_markEarlier, mSnd mInf iX4_markEarlier q.1 q.2 := by
  unfold tX4_markEarlier
  refine List.forall_mem_cons.mpr ⟨sn_aload_n dX4_markEarlier_0 rfl rfl, ?_⟩
  refine List.forall_mem_cons.mpr ⟨sn_iconst dX4_markEarlier_1 rfl ⟨by decide, by decide⟩, ?_⟩
  refine List.forall_mem_cons.mpr ⟨sn_puti mCl_0 (by decide) rfl (Or.inl rfl) kt_860 dX4_markEarlier_2 rfl, ?_⟩
  refine List.forall_mem_cons.mpr ⟨sn_aload_n dX4_markEarlier_5 rfl rfl, ?_⟩
  refine List.forall_mem_cons.mpr ⟨sn_iconst dX4_markEarlier_6 rfl ⟨by decide, by decide⟩, ?_⟩
  refine List.forall_mem_cons.mpr ⟨sn_puti mCl_0 (by decide) rfl (Or.inl rfl) kt_862 dX4_markEarlier_7 rfl, ?_⟩
  refine List.forall_mem_cons.mpr ⟨sn_iconst dX4_markEarlier_10 rfl ⟨by decide, by decide⟩, ?_⟩
  refine List.forall_mem_cons.mpr ⟨sn_istore_n dX4_markEarlier_11 rfl rfl, ?_⟩
  refine List.forall_mem_cons.mpr ⟨sn_iload_n dX4_markEarlier_12 rfl rfl, ?_⟩
  refine List.forall_mem_cons.mpr ⟨sn_iload_n dX4_markEarlier_13 rfl rfl, ?_⟩
  refine List.forall_mem_cons.mpr ⟨sn_icmpge dX4_markEarlier_14 (by decide) rfl, ?_⟩
  refine List.forall_mem_cons.mpr ⟨sn_aload_n dX4_markEarlier_17 rfl rfl, ?_⟩
  refine List.forall_mem_cons.mpr ⟨sn_iload_n dX4_markEarlier_18 rfl rfl, ?_⟩
  refine List.forall_mem_cons.mpr ⟨sn_callV mCl_4 mt_35 rfl kt_915 kt_916 kt_917 dX4_markEarlier_19 rfl, ?_⟩
  refine List.forall_mem_cons.mpr ⟨sn_astore dX4_markEarlier_22 rfl, ?_⟩
  refine List.forall_mem_cons.mpr ⟨sn_aload dX4_markEarlier_24 rfl, ?_⟩
  refine List.forall_mem_cons.mpr ⟨sn_ifnull dX4_markEarlier_26 (by decide) rfl, ?_⟩
  refine List.forall_mem_cons.mpr ⟨sn_aload dX4_markEarlier_29 rfl, ?_⟩
  refine List.forall_mem_cons.mpr ⟨sn_aload_n dX4_markEarlier_31 rfl rfl, ?_⟩
  refine List.forall_mem_cons.mpr ⟨sn_geti mCl_0 (by decide) rfl kt_847 dX4_markEarlier_32 rfl, ?_⟩
  refine List.forall_mem_cons.mpr ⟨sn_callV mCl_0 mt_3 rfl kt_931 kt_932 kt_933 dX4_markEarlier_35 rfl, ?_⟩
  refine List.forall_mem_cons.mpr ⟨sn_ifeq dX4_markEarlier_38 (by decide) rfl, ?_⟩
  refine List.forall_mem_cons.mpr ⟨sn_aload_n dX4_markEarlier_41 rfl rfl, ?_⟩
  refine List.forall_mem_cons.mpr ⟨sn_dup dX4_markEarlier_42 rfl, ?_⟩
  refine List.forall_mem_cons.mpr ⟨sn_geti mCl_0 (by decide) rfl kt_860 dX4_markEarlier_43 rfl, ?_⟩
  refine List.forall_mem_cons.mpr ⟨sn_iconst dX4_markEarlier_46 rfl ⟨by decide, by decide⟩, ?_⟩
  refine List.forall_mem_cons.mpr ⟨sn_iload_n dX4_markEarlier_47 rfl rfl, ?_⟩
  refine List.forall_mem_cons.mpr ⟨sn_ishl dX4_markEarlier_48 rfl, ?_⟩
  refine List.forall_mem_cons.mpr ⟨sn_ior dX4_markEarlier_49 rfl, ?_⟩
  refine List.forall_mem_cons.mpr ⟨sn_puti mCl_0 (by decide) rfl (Or.inl rfl) kt_860 dX4_markEarlier_50 rfl, ?_⟩
  refine List.forall_mem_cons.mpr ⟨sn_aload dX4_markEarlier_53 rfl, ?_⟩
  refine List.forall_mem_cons.mpr ⟨sn_ifnull dX4_markEarlier_55 (by decide) rfl, ?_⟩
  refine List.forall_mem_cons.mpr ⟨sn_aload dX4_markEarlier_58 rfl, ?_⟩
  refine List.forall_mem_cons.mpr ⟨sn_aload_n dX4_markEarlier_60 rfl rfl, ?_⟩
  refine List.forall_mem_cons.mpr ⟨sn_callV mCl_0 mt_5 rfl kt_935 kt_936 kt_937 dX4_markEarlier_61 rfl, ?_⟩
  refine List.forall_mem_cons.mpr ⟨sn_ifeq dX4_markEarlier_64 (by decide) rfl, ?_⟩
  refine List.forall_mem_cons.mpr ⟨sn_aload_n dX4_markEarlier_67 rfl rfl, ?_⟩
  refine List.forall_mem_cons.mpr ⟨sn_dup dX4_markEarlier_68 rfl, ?_⟩
  refine List.forall_mem_cons.mpr ⟨sn_geti mCl_0 (by decide) rfl kt_862 dX4_markEarlier_69 rfl, ?_⟩
  refine List.forall_mem_cons.mpr ⟨sn_iconst dX4_markEarlier_72 rfl ⟨by decide, by decide⟩, ?_⟩
  refine List.forall_mem_cons.mpr ⟨sn_iload_n dX4_markEarlier_73 rfl rfl, ?_⟩
  refine List.forall_mem_cons.mpr ⟨sn_ishl dX4_markEarlier_74 rfl, ?_⟩
  refine List.forall_mem_cons.mpr ⟨sn_ior dX4_markEarlier_75 rfl, ?_⟩
  refine List.forall_mem_cons.mpr ⟨sn_puti mCl_0 (by decide) rfl (Or.inl rfl) kt_862 dX4_markEarlier_76 rfl, ?_⟩
  refine List.forall_mem_cons.mpr ⟨sn_iinc dX4_markEarlier_79 rfl, ?_⟩
  refine List.forall_mem_cons.mpr ⟨sn_goto dX4_markEarlier_82 (by decide), ?_⟩
  refine List.forall_mem_cons.mpr ⟨sn_vret rfl dX4_markEarlier_85, ?_⟩
  exact List.forall_mem_nil _
theorem sX4_settle : ∀ q ∈ tX4_settle, mSnd mInf iX4_settle q.1 q.2 := by
  unfold tX4_settle
  refine List.forall_mem_cons.mpr ⟨sn_aload_n dX4_settle_0 rfl rfl, ?_⟩
  refine List.forall_mem_cons.mpr ⟨sn_iconst dX4_settle_1 rfl ⟨by decide, by decide⟩, ?_⟩
  refine List.forall_mem_cons.mpr ⟨sn_puti mCl_4 (by decide) rfl (Or.inl rfl) kt_264 dX4_settle_2 rfl, ?_⟩
  refine List.forall_mem_cons.mpr ⟨sn_aload_n dX4_settle_5 rfl rfl, ?_⟩
  refine List.forall_mem_cons.mpr ⟨sn_iconst dX4_settle_6 rfl ⟨by decide, by decide⟩, ?_⟩
  refine List.forall_mem_cons.mpr ⟨sn_puti mCl_4 (by decide) rfl (Or.inl rfl) kt_266 dX4_settle_7 rfl, ?_⟩
  refine List.forall_mem_cons.mpr ⟨sn_aload_n dX4_settle_10 rfl rfl, ?_⟩
  refine List.forall_mem_cons.mpr ⟨sn_iconst dX4_settle_11 rfl ⟨by decide, by decide⟩, ?_⟩
  refine List.forall_mem_cons.mpr ⟨sn_puti mCl_4 (by decide) rfl (Or.inl rfl) kt_268 dX4_settle_12 rfl, ?_⟩
  refine List.forall_mem_cons.mpr ⟨sn_iconst dX4_settle_15 rfl ⟨by decide, by decide⟩, ?_⟩
  refine List.forall_mem_cons.mpr ⟨sn_istore_n dX4_settle_16 rfl rfl, ?_⟩
  refine List.forall_mem_cons.mpr ⟨sn_iload_n dX4_settle_17 rfl rfl, ?_⟩
  refine List.forall_mem_cons.mpr ⟨sn_aload_n dX4_settle_18 rfl rfl, ?_⟩
  refine List.forall_mem_cons.mpr ⟨sn_geti mCl_4 (by decide) rfl kt_260 dX4_settle_19 rfl, ?_⟩
  refine List.forall_mem_cons.mpr ⟨sn_icmpge dX4_settle_22 (by decide) rfl, ?_⟩
  refine List.forall_mem_cons.mpr ⟨sn_aload_n dX4_settle_25 rfl rfl, ?_⟩
  refine List.forall_mem_cons.mpr ⟨sn_iload_n dX4_settle_26 rfl rfl, ?_⟩
  refine List.forall_mem_cons.mpr ⟨sn_callV mCl_4 mt_35 rfl kt_915 kt_916 kt_917 dX4_settle_27 rfl, ?_⟩
  refine List.forall_mem_cons.mpr ⟨sn_astore_n dX4_settle_30 rfl rfl, ?_⟩
  refine List.forall_mem_cons.mpr ⟨sn_aload_n dX4_settle_31 rfl rfl, ?_⟩
  refine List.forall_mem_cons.mpr ⟨sn_ifnull dX4_settle_32 (by decide) rfl, ?_⟩
  refine List.forall_mem_cons.mpr ⟨sn_aload_n dX4_settle_35 rfl rfl, ?_⟩
  refine List.forall_mem_cons.mpr ⟨sn_iload_n dX4_settle_36 rfl rfl, ?_⟩
  refine List.forall_mem_cons.mpr ⟨sn_iload_n dX4_settle_37 rfl rfl, ?_⟩
  refine List.forall_mem_cons.mpr ⟨sn_ishr dX4_settle_38 rfl, ?_⟩
  refine List.forall_mem_cons.mpr ⟨sn_iconst dX4_settle_39 rfl ⟨by decide, by decide⟩, ?_⟩
  refine List.forall_mem_cons.mpr ⟨sn_iand dX4_settle_40 rfl, ?_⟩
  refine List.forall_mem_cons.mpr ⟨sn_iconst dX4_settle_41 rfl ⟨by decide, by decide⟩, ?_⟩
  refine List.forall_mem_cons.mpr ⟨sn_icmpne dX4_settle_42 (by decide) rfl, ?_⟩
  refine List.forall_mem_cons.mpr ⟨sn_iconst dX4_settle_45 rfl ⟨by decide, by decide⟩, ?_⟩
  refine List.forall_mem_cons.mpr ⟨sn_goto dX4_settle_46 (by decide), ?_⟩
  refine List.forall_mem_cons.mpr ⟨sn_iconst dX4_settle_49 rfl ⟨by decide, by decide⟩, ?_⟩
  refine List.forall_mem_cons.mpr ⟨sn_putz mCl_0 (by decide) rfl (Or.inl rfl) kt_854 dX4_settle_50 rfl, ?_⟩
  refine List.forall_mem_cons.mpr ⟨sn_aload_n dX4_settle_53 rfl rfl, ?_⟩
  refine List.forall_mem_cons.mpr ⟨sn_dup dX4_settle_54 rfl, ?_⟩
  refine List.forall_mem_cons.mpr ⟨sn_geti mCl_4 (by decide) rfl kt_264 dX4_settle_55 rfl, ?_⟩
  refine List.forall_mem_cons.mpr ⟨sn_aload_n dX4_settle_58 rfl rfl, ?_⟩
  refine List.forall_mem_cons.mpr ⟨sn_geti mCl_0 (by decide) rfl kt_854 dX4_settle_59 rfl, ?_⟩
  refine List.forall_mem_cons.mpr ⟨sn_ifeq dX4_settle_62 (by decide) rfl, ?_⟩
  refine List.forall_mem_cons.mpr ⟨sn_iconst dX4_settle_65 rfl ⟨by decide, by decide⟩, ?_⟩
  refine List.forall_mem_cons.mpr ⟨sn_goto dX4_settle_66 (by decide), ?_⟩
  refine List.forall_mem_cons.mpr ⟨sn_iconst dX4_settle_69 rfl ⟨by decide, by decide⟩, ?_⟩
  refine List.forall_mem_cons.mpr ⟨sn_iadd dX4_settle_70 rfl, ?_⟩
  refine List.forall_mem_cons.mpr ⟨sn_puti mCl_4 (by decide) rfl (Or.inl rfl) kt_264 dX4_settle_71 rfl, ?_⟩
  refine List.forall_mem_cons.mpr ⟨sn_aload_n dX4_settle_74 rfl rfl, ?_⟩
  refine List.forall_mem_cons.mpr ⟨sn_dup dX4_settle_75 rfl, ?_⟩
  refine List.forall_mem_cons.mpr ⟨sn_geti mCl_4 (by decide) rfl kt_266 dX4_settle_76 rfl, ?_⟩
  refine List.forall_mem_cons.mpr ⟨sn_aload_n dX4_settle_79 rfl rfl, ?_⟩
  refine List.forall_mem_cons.mpr ⟨sn_geti mCl_0 (by decide) rfl kt_854 dX4_settle_80 rfl, ?_⟩
  refine List.forall_mem_cons.mpr ⟨sn_ifeq dX4_settle_83 (by decide) rfl, ?_⟩
  refine List.forall_mem_cons.mpr ⟨sn_aload_n dX4_settle_86 rfl rfl, ?_⟩
  refine List.forall_mem_cons.mpr ⟨sn_geti mCl_0 (by decide) rfl kt_844 dX4_settle_87 rfl, ?_⟩
  refine List.forall_mem_cons.mpr ⟨sn_goto dX4_settle_90 (by decide), ?_⟩
  refine List.forall_mem_cons.mpr ⟨sn_iconst dX4_settle_93 rfl ⟨by decide, by decide⟩, ?_⟩
  refine List.forall_mem_cons.mpr ⟨sn_iadd dX4_settle_94 rfl, ?_⟩
  refine List.forall_mem_cons.mpr ⟨sn_puti mCl_4 (by decide) rfl (Or.inl rfl) kt_266 dX4_settle_95 rfl, ?_⟩
  refine List.forall_mem_cons.mpr ⟨sn_aload_n dX4_settle_98 rfl rfl, ?_⟩
  refine List.forall_mem_cons.mpr ⟨sn_dup dX4_settle_99 rfl, ?_⟩
  refine List.forall_mem_cons.mpr ⟨sn_geti mCl_4 (by decide) rfl kt_268 dX4_settle_100 rfl, ?_⟩
  refine List.forall_mem_cons.mpr ⟨sn_aload_n dX4_settle_103 rfl rfl, ?_⟩
  refine List.forall_mem_cons.mpr ⟨sn_geti mCl_0 (by decide) rfl kt_854 dX4_settle_104 rfl, ?_⟩
  refine List.forall_mem_cons.mpr ⟨sn_ifeq dX4_settle_107 (by decide) rfl, ?_⟩
  refine List.forall_mem_cons.mpr ⟨sn_aload_n dX4_settle_110 rfl rfl, ?_⟩
  refine List.forall_mem_cons.mpr ⟨sn_callV mCl_0 mt_2 rfl kt_978 kt_967 kt_968 dX4_settle_111 rfl, ?_⟩
  refine List.forall_mem_cons.mpr ⟨sn_goto dX4_settle_114 (by decide), ?_⟩
  refine List.forall_mem_cons.mpr ⟨sn_iconst dX4_settle_117 rfl ⟨by decide, by decide⟩, ?_⟩
  refine List.forall_mem_cons.mpr ⟨sn_iadd dX4_settle_118 rfl, ?_⟩
  refine List.forall_mem_cons.mpr ⟨sn_puti mCl_4 (by decide) rfl (Or.inl rfl) kt_268 dX4_settle_119 rfl, ?_⟩
  refine List.forall_mem_cons.mpr ⟨sn_iinc dX4_settle_122 rfl, ?_⟩
  refine List.forall_mem_cons.mpr ⟨sn_goto dX4_settle_125 (by decide), ?_⟩
  refine List.forall_mem_cons.mpr ⟨sn_vret rfl dX4_settle_128, ?_⟩
  exact List.forall_mem_nil _
theorem sX4_explain : ∀ q ∈ tX4_explain, mSnd mInf iX4_explain q.1 q.2 := by
  unfold tX4_explain
  refine List.forall_mem_cons.mpr ⟨sn_iconst dX4_explain_0 rfl ⟨by decide, by decide⟩, ?_⟩
  refine List.forall_mem_cons.mpr ⟨sn_istore_n dX4_explain_1 rfl rfl, ?_⟩
  refine List.forall_mem_cons.mpr ⟨sn_iload_n dX4_explain_2 rfl rfl, ?_⟩
  refine List.forall_mem_cons.mpr ⟨sn_aload_n dX4_explain_3 rfl rfl, ?_⟩
  refine List.forall_mem_cons.mpr ⟨sn_geti mCl_4 (by decide) rfl kt_260 dX4_explain_4 rfl, ?_⟩
  refine List.forall_mem_cons.mpr ⟨sn_icmpge dX4_explain_7 (by decide) rfl, ?_⟩
  refine List.forall_mem_cons.mpr ⟨sn_aload_n dX4_explain_10 rfl rfl, ?_⟩
  refine List.forall_mem_cons.mpr ⟨sn_iload_n dX4_explain_11 rfl rfl, ?_⟩
  refine List.forall_mem_cons.mpr ⟨sn_callV mCl_4 mt_35 rfl kt_915 kt_916 kt_917 dX4_explain_12 rfl, ?_⟩
  refine List.forall_mem_cons.mpr ⟨sn_astore_n dX4_explain_15 rfl rfl, ?_⟩
  refine List.forall_mem_cons.mpr ⟨sn_aload_n dX4_explain_16 rfl rfl, ?_⟩
  refine List.forall_mem_cons.mpr ⟨sn_ifnull dX4_explain_17 (by decide) rfl, ?_⟩
  refine List.forall_mem_cons.mpr ⟨sn_aload_n dX4_explain_20 rfl rfl, ?_⟩
  refine List.forall_mem_cons.mpr ⟨sn_aload_n dX4_explain_21 rfl rfl, ?_⟩
  refine List.forall_mem_cons.mpr ⟨sn_aload_n dX4_explain_22 rfl rfl, ?_⟩
  refine List.forall_mem_cons.mpr ⟨sn_aload_n dX4_explain_23 rfl rfl, ?_⟩
  refine List.forall_mem_cons.mpr ⟨sn_callV mCl_4 mt_42 rfl kt_983 kt_985 kp_32 dX4_explain_24 rfl, ?_⟩
  refine List.forall_mem_cons.mpr ⟨sn_puti mCl_0 (by decide) rfl (Or.inl rfl) kt_856 dX4_explain_27 rfl, ?_⟩
  refine List.forall_mem_cons.mpr ⟨sn_aload_n dX4_explain_30 rfl rfl, ?_⟩
  refine List.forall_mem_cons.mpr ⟨sn_aload_n dX4_explain_31 rfl rfl, ?_⟩
  refine List.forall_mem_cons.mpr ⟨sn_aload_n dX4_explain_32 rfl rfl, ?_⟩
  refine List.forall_mem_cons.mpr ⟨sn_callV mCl_4 mt_43 rfl kt_999 kt_1001 kp_36 dX4_explain_33 rfl, ?_⟩
  refine List.forall_mem_cons.mpr ⟨sn_puti mCl_0 (by decide) rfl (Or.inl rfl) kt_858 dX4_explain_36 rfl, ?_⟩
  refine List.forall_mem_cons.mpr ⟨sn_iinc dX4_explain_39 rfl, ?_⟩
  refine List.forall_mem_cons.mpr ⟨sn_goto dX4_explain_42 (by decide), ?_⟩
  refine List.forall_mem_cons.mpr ⟨sn_vret rfl dX4_explain_45, ?_⟩
  exact List.forall_mem_nil _
theorem sX4_whyNot : ∀ q ∈ tX4_whyNot, mSnd mInf iX4_whyNot q.1 q.2 := by
  unfold tX4_whyNot
  refine List.forall_mem_cons.mpr ⟨sn_aload_n dX4_whyNot_0 rfl rfl, ?_⟩
  refine List.forall_mem_cons.mpr ⟨sn_geti mCl_0 (by decide) rfl kt_854 dX4_whyNot_1 rfl, ?_⟩
  refine List.forall_mem_cons.mpr ⟨sn_ifeq dX4_whyNot_4 (by decide) rfl, ?_⟩
  refine List.forall_mem_cons.mpr ⟨sn_iconst dX4_whyNot_7 rfl ⟨by decide, by decide⟩, ?_⟩
  refine List.forall_mem_cons.mpr ⟨sn_iret rfl dX4_whyNot_8, ?_⟩
  refine List.forall_mem_cons.mpr ⟨sn_aload_n dX4_whyNot_9 rfl rfl, ?_⟩
  refine List.forall_mem_cons.mpr ⟨sn_geti mCl_0 (by decide) rfl kt_852 dX4_whyNot_10 rfl, ?_⟩
  refine List.forall_mem_cons.mpr ⟨sn_ifne dX4_whyNot_13 (by decide) rfl, ?_⟩
  refine List.forall_mem_cons.mpr ⟨sn_iconst dX4_whyNot_16 rfl ⟨by decide, by decide⟩, ?_⟩
  refine List.forall_mem_cons.mpr ⟨sn_iret rfl dX4_whyNot_17, ?_⟩
  refine List.forall_mem_cons.mpr ⟨sn_aload_n dX4_whyNot_18 rfl rfl, ?_⟩
  refine List.forall_mem_cons.mpr ⟨sn_aload_n dX4_whyNot_19 rfl rfl, ?_⟩
  refine List.forall_mem_cons.mpr ⟨sn_callV mCl_4 mt_44 rfl kt_987 kt_989 kp_33 dX4_whyNot_20 rfl, ?_⟩
  refine List.forall_mem_cons.mpr ⟨sn_iconst dX4_whyNot_23 rfl ⟨by decide, by decide⟩, ?_⟩
  refine List.forall_mem_cons.mpr ⟨sn_icmpeq dX4_whyNot_24 (by decide) rfl, ?_⟩
  refine List.forall_mem_cons.mpr ⟨sn_iconst dX4_whyNot_27 rfl ⟨by decide, by decide⟩, ?_⟩
  refine List.forall_mem_cons.mpr ⟨sn_iret rfl dX4_whyNot_28, ?_⟩
  refine List.forall_mem_cons.mpr ⟨sn_aload_n dX4_whyNot_29 rfl rfl, ?_⟩
  refine List.forall_mem_cons.mpr ⟨sn_aload_n dX4_whyNot_30 rfl rfl, ?_⟩
  refine List.forall_mem_cons.mpr ⟨sn_aload_n dX4_whyNot_31 rfl rfl, ?_⟩
  refine List.forall_mem_cons.mpr ⟨sn_geti mCl_5 (by decide) rfl kt_177 dX4_whyNot_32 rfl, ?_⟩
  refine List.forall_mem_cons.mpr ⟨sn_callV mCl_4 mt_45 rfl kt_991 kt_993 kp_34 dX4_whyNot_35 rfl, ?_⟩
  refine List.forall_mem_cons.mpr ⟨sn_ifeq dX4_whyNot_38 (by decide) rfl, ?_⟩
  refine List.forall_mem_cons.mpr ⟨sn_iconst dX4_whyNot_41 rfl ⟨by decide, by decide⟩, ?_⟩
  refine List.forall_mem_cons.mpr ⟨sn_iret rfl dX4_whyNot_42, ?_⟩
  refine List.forall_mem_cons.mpr ⟨sn_aload_n dX4_whyNot_43 rfl rfl, ?_⟩
  refine List.forall_mem_cons.mpr ⟨sn_geti mCl_4 (by decide) rfl kt_268 dX4_whyNot_44 rfl, ?_⟩
  refine List.forall_mem_cons.mpr ⟨sn_aload_n dX4_whyNot_47 rfl rfl, ?_⟩
  refine List.forall_mem_cons.mpr ⟨sn_callV mCl_0 mt_2 rfl kt_978 kt_967 kt_968 dX4_whyNot_48 rfl, ?_⟩
  refine List.forall_mem_cons.mpr ⟨sn_iadd dX4_whyNot_51 rfl, ?_⟩
  refine List.forall_mem_cons.mpr ⟨sn_aload_n dX4_whyNot_52 rfl rfl, ?_⟩
  refine List.forall_mem_cons.mpr ⟨sn_geti mCl_5 (by decide) rfl kt_186 dX4_whyNot_53 rfl, ?_⟩
  refine List.forall_mem_cons.mpr ⟨sn_icmple dX4_whyNot_56 (by decide) rfl, ?_⟩
  refine List.forall_mem_cons.mpr ⟨sn_iconst dX4_whyNot_59 rfl ⟨by decide, by decide⟩, ?_⟩
  refine List.forall_mem_cons.mpr ⟨sn_goto dX4_whyNot_60 (by decide), ?_⟩
  refine List.forall_mem_cons.mpr ⟨sn_iconst dX4_whyNot_63 rfl ⟨by decide, by decide⟩, ?_⟩
  refine List.forall_mem_cons.mpr ⟨sn_iret rfl dX4_whyNot_64, ?_⟩
  exact List.forall_mem_nil _
theorem sX4_rivalOf : ∀ q ∈ tX4_rivalOf, mSnd mInf iX4_rivalOf q.1 q.2 := by
  unfold tX4_rivalOf
  refine List.forall_mem_cons.mpr ⟨sn_aload_n dX4_rivalOf_0 rfl rfl, ?_⟩
  refine List.forall_mem_cons.mpr ⟨sn_geti mCl_0 (by decide) rfl kt_856 dX4_rivalOf_1 rfl, ?_⟩
  refine List.forall_mem_cons.mpr ⟨sn_lsw dX4_rivalOf_4 (by decide) rfl (by decide), ?_⟩
  refine List.forall_mem_cons.mpr ⟨sn_aload_n dX4_rivalOf_32 rfl rfl, ?_⟩
  refine List.forall_mem_cons.mpr ⟨sn_aload_n dX4_rivalOf_33 rfl rfl, ?_⟩
  refine List.forall_mem_cons.mpr ⟨sn_callV mCl_4 mt_44 rfl kt_987 kt_989 kp_33 dX4_rivalOf_34 rfl, ?_⟩
  refine List.forall_mem_cons.mpr ⟨sn_iret rfl dX4_rivalOf_37, ?_⟩
  refine List.forall_mem_cons.mpr ⟨sn_aload_n dX4_rivalOf_38 rfl rfl, ?_⟩
  refine List.forall_mem_cons.mpr ⟨sn_aload_n dX4_rivalOf_39 rfl rfl, ?_⟩
  refine List.forall_mem_cons.mpr ⟨sn_callV mCl_4 mt_47 rfl kt_1003 kt_1005 kp_37 dX4_rivalOf_40 rfl, ?_⟩
  refine List.forall_mem_cons.mpr ⟨sn_iret rfl dX4_rivalOf_43, ?_⟩
  refine List.forall_mem_cons.mpr ⟨sn_iconst dX4_rivalOf_44 rfl ⟨by decide, by decide⟩, ?_⟩
  refine List.forall_mem_cons.mpr ⟨sn_iret rfl dX4_rivalOf_45, ?_⟩
  exact List.forall_mem_nil _
theorem sX4_memberOneWith : ∀ q ∈ tX4_memberOneWith, mSnd mInf iX4_memberOneWith q.1 q.2 := by
  unfold tX4_memberOneWith
  refine List.forall_mem_cons.mpr ⟨sn_iconst dX4_memberOneWith_0 rfl ⟨by decide, by decide⟩, ?_⟩
  refine List.forall_mem_cons.mpr ⟨sn_istore_n dX4_memberOneWith_1 rfl rfl, ?_⟩
  refine List.forall_mem_cons.mpr ⟨sn_iload_n dX4_memberOneWith_2 rfl rfl, ?_⟩
  refine List.forall_mem_cons.mpr ⟨sn_aload_n dX4_memberOneWith_3 rfl rfl, ?_⟩
  refine List.forall_mem_cons.mpr ⟨sn_geti mCl_4 (by decide) rfl kt_260 dX4_memberOneWith_4 rfl, ?_⟩
  refine List.forall_mem_cons.mpr ⟨sn_icmpge dX4_memberOneWith_7 (by decide) rfl, ?_⟩
  refine List.forall_mem_cons.mpr ⟨sn_aload_n dX4_memberOneWith_10 rfl rfl, ?_⟩
  refine List.forall_mem_cons.mpr ⟨sn_iload_n dX4_memberOneWith_11 rfl rfl, ?_⟩
  refine List.forall_mem_cons.mpr ⟨sn_callV mCl_4 mt_35 rfl kt_915 kt_916 kt_917 dX4_memberOneWith_12 rfl, ?_⟩
  refine List.forall_mem_cons.mpr ⟨sn_astore_n dX4_memberOneWith_15 rfl rfl, ?_⟩
  refine List.forall_mem_cons.mpr ⟨sn_aload_n dX4_memberOneWith_16 rfl rfl, ?_⟩
  refine List.forall_mem_cons.mpr ⟨sn_ifnull dX4_memberOneWith_17 (by decide) rfl, ?_⟩
  refine List.forall_mem_cons.mpr ⟨sn_aload_n dX4_memberOneWith_20 rfl rfl, ?_⟩
  refine List.forall_mem_cons.mpr ⟨sn_geti mCl_0 (by decide) rfl kt_854 dX4_memberOneWith_21 rfl, ?_⟩
  refine List.forall_mem_cons.mpr ⟨sn_ifeq dX4_memberOneWith_24 (by decide) rfl, ?_⟩
  refine List.forall_mem_cons.mpr ⟨sn_aload_n dX4_memberOneWith_27 rfl rfl, ?_⟩
  refine List.forall_mem_cons.mpr ⟨sn_aload_n dX4_memberOneWith_28 rfl rfl, ?_⟩
  refine List.forall_mem_cons.mpr ⟨sn_callV mCl_0 mt_5 rfl kt_935 kt_936 kt_937 dX4_memberOneWith_29 rfl, ?_⟩
  refine List.forall_mem_cons.mpr ⟨sn_ifeq dX4_memberOneWith_32 (by decide) rfl, ?_⟩
  refine List.forall_mem_cons.mpr ⟨sn_iload_n dX4_memberOneWith_35 rfl rfl, ?_⟩
  refine List.forall_mem_cons.mpr ⟨sn_iret rfl dX4_memberOneWith_36, ?_⟩
  refine List.forall_mem_cons.mpr ⟨sn_iinc dX4_memberOneWith_37 rfl, ?_⟩
  refine List.forall_mem_cons.mpr ⟨sn_goto dX4_memberOneWith_40 (by decide), ?_⟩
  refine List.forall_mem_cons.mpr ⟨sn_iconst dX4_memberOneWith_43 rfl ⟨by decide, by decide⟩, ?_⟩
  refine List.forall_mem_cons.mpr ⟨sn_iret rfl dX4_memberOneWith_44, ?_⟩
  exact List.forall_mem_nil _
theorem sX4_isCrowdedWith : ∀ q ∈ tX4_isCrowdedWith, mSnd mInf iX4_isCrowdedWith q.1 q.2 := by
  unfold tX4_isCrowdedWith
  refine List.forall_mem_cons.mpr ⟨sn_aload_n dX4_isCrowdedWith_0 rfl rfl, ?_⟩
  refine List.forall_mem_cons.mpr ⟨sn_aload_n dX4_isCrowdedWith_1 rfl rfl, ?_⟩
  refine List.forall_mem_cons.mpr ⟨sn_geti mCl_0 (by decide) rfl kt_847 dX4_isCrowdedWith_2 rfl, ?_⟩
  refine List.forall_mem_cons.mpr ⟨sn_callV mCl_4 mt_46 rfl kt_995 kt_997 kp_35 dX4_isCrowdedWith_5 rfl, ?_⟩
  refine List.forall_mem_cons.mpr ⟨sn_iload_n dX4_isCrowdedWith_8 rfl rfl, ?_⟩
  refine List.forall_mem_cons.mpr ⟨sn_icmplt dX4_isCrowdedWith_9 (by decide) rfl, ?_⟩
  refine List.forall_mem_cons.mpr ⟨sn_iconst dX4_isCrowdedWith_12 rfl ⟨by decide, by decide⟩, ?_⟩
  refine List.forall_mem_cons.mpr ⟨sn_zret rfl dX4_isCrowdedWith_13, ?_⟩
  refine List.forall_mem_cons.mpr ⟨sn_iconst dX4_isCrowdedWith_14 rfl ⟨by decide, by decide⟩, ?_⟩
  refine List.forall_mem_cons.mpr ⟨sn_istore_n dX4_isCrowdedWith_15 rfl rfl, ?_⟩
  refine List.forall_mem_cons.mpr ⟨sn_iload_n dX4_isCrowdedWith_16 rfl rfl, ?_⟩
  refine List.forall_mem_cons.mpr ⟨sn_aload_n dX4_isCrowdedWith_17 rfl rfl, ?_⟩
  refine List.forall_mem_cons.mpr ⟨sn_geti mCl_4 (by decide) rfl kt_260 dX4_isCrowdedWith_18 rfl, ?_⟩
  refine List.forall_mem_cons.mpr ⟨sn_icmpge dX4_isCrowdedWith_21 (by decide) rfl, ?_⟩
  refine List.forall_mem_cons.mpr ⟨sn_aload_n dX4_isCrowdedWith_24 rfl rfl, ?_⟩
  refine List.forall_mem_cons.mpr ⟨sn_iload_n dX4_isCrowdedWith_25 rfl rfl, ?_⟩
  refine List.forall_mem_cons.mpr ⟨sn_callV mCl_4 mt_35 rfl kt_915 kt_916 kt_917 dX4_isCrowdedWith_26 rfl, ?_⟩
  refine List.forall_mem_cons.mpr ⟨sn_astore dX4_isCrowdedWith_29 rfl, ?_⟩
  refine List.forall_mem_cons.mpr ⟨sn_aload dX4_isCrowdedWith_31 rfl, ?_⟩
  refine List.forall_mem_cons.mpr ⟨sn_ifnull dX4_isCrowdedWith_33 (by decide) rfl, ?_⟩
  refine List.forall_mem_cons.mpr ⟨sn_aload dX4_isCrowdedWith_36 rfl, ?_⟩
  refine List.forall_mem_cons.mpr ⟨sn_geti mCl_0 (by decide) rfl kt_854 dX4_isCrowdedWith_38 rfl, ?_⟩
  refine List.forall_mem_cons.mpr ⟨sn_ifeq dX4_isCrowdedWith_41 (by decide) rfl, ?_⟩
  refine List.forall_mem_cons.mpr ⟨sn_aload_n dX4_isCrowdedWith_44 rfl rfl, ?_⟩
  refine List.forall_mem_cons.mpr ⟨sn_aload dX4_isCrowdedWith_45 rfl, ?_⟩
  refine List.forall_mem_cons.mpr ⟨sn_geti mCl_0 (by decide) rfl kt_847 dX4_isCrowdedWith_47 rfl, ?_⟩
  refine List.forall_mem_cons.mpr ⟨sn_callV mCl_0 mt_3 rfl kt_931 kt_932 kt_933 dX4_isCrowdedWith_50 rfl, ?_⟩
  refine List.forall_mem_cons.mpr ⟨sn_ifeq dX4_isCrowdedWith_53 (by decide) rfl, ?_⟩
  refine List.forall_mem_cons.mpr ⟨sn_aload_n dX4_isCrowdedWith_56 rfl rfl, ?_⟩
  refine List.forall_mem_cons.mpr ⟨sn_aload dX4_isCrowdedWith_57 rfl, ?_⟩
  refine List.forall_mem_cons.mpr ⟨sn_geti mCl_0 (by decide) rfl kt_847 dX4_isCrowdedWith_59 rfl, ?_⟩
  refine List.forall_mem_cons.mpr ⟨sn_callV mCl_4 mt_46 rfl kt_995 kt_997 kp_35 dX4_isCrowdedWith_62 rfl, ?_⟩
  refine List.forall_mem_cons.mpr ⟨sn_iload_n dX4_isCrowdedWith_65 rfl rfl, ?_⟩
  refine List.forall_mem_cons.mpr ⟨sn_icmplt dX4_isCrowdedWith_66 (by decide) rfl, ?_⟩
  refine List.forall_mem_cons.mpr ⟨sn_iconst dX4_isCrowdedWith_69 rfl ⟨by decide, by decide⟩, ?_⟩
  refine List.forall_mem_cons.mpr ⟨sn_zret rfl dX4_isCrowdedWith_70, ?_⟩
  refine List.forall_mem_cons.mpr ⟨sn_iinc dX4_isCrowdedWith_71 rfl, ?_⟩
  refine List.forall_mem_cons.mpr ⟨sn_goto dX4_isCrowdedWith_74 (by decide), ?_⟩
  refine List.forall_mem_cons.mpr ⟨sn_iconst dX4_isCrowdedWith_77 rfl ⟨by decide, by decide⟩, ?_⟩
  refine List.forall_mem_cons.mpr ⟨sn_zret rfl dX4_isCrowdedWith_78, ?_⟩
  exact List.forall_mem_nil _
theorem sX4_membersOn : ∀ q ∈ tX4_membersOn, mSnd mInf iX4_membersOn q.1 q.2 := by
  unfold tX4_membersOn
  refine List.forall_mem_cons.mpr ⟨sn_iconst dX4_membersOn_0 rfl ⟨by decide, by decide⟩, ?_⟩
  refine List.forall_mem_cons.mpr ⟨sn_istore_n dX4_membersOn_1 rfl rfl, ?_⟩
  refine List.forall_mem_cons.mpr ⟨sn_iconst dX4_membersOn_2 rfl ⟨by decide, by decide⟩, ?_⟩
  refine List.forall_mem_cons.mpr ⟨sn_istore_n dX4_membersOn_3 rfl rfl, ?_⟩
  refine List.forall_mem_cons.mpr ⟨sn_iload_n dX4_membersOn_4 rfl rfl, ?_⟩
  refine List.forall_mem_cons.mpr ⟨sn_aload_n dX4_membersOn_5 rfl rfl, ?_⟩
  refine List.forall_mem_cons.mpr ⟨sn_geti mCl_4 (by decide) rfl kt_260 dX4_membersOn_6 rfl, ?_⟩
  refine List.forall_mem_cons.mpr ⟨sn_icmpge dX4_membersOn_9 (by decide) rfl, ?_⟩
  refine List.forall_mem_cons.mpr ⟨sn_aload_n dX4_membersOn_12 rfl rfl, ?_⟩
  refine List.forall_mem_cons.mpr ⟨sn_iload_n dX4_membersOn_13 rfl rfl, ?_⟩
  refine List.forall_mem_cons.mpr ⟨sn_callV mCl_4 mt_35 rfl kt_915 kt_916 kt_917 dX4_membersOn_14 rfl, ?_⟩
  refine List.forall_mem_cons.mpr ⟨sn_astore dX4_membersOn_17 rfl, ?_⟩
  refine List.forall_mem_cons.mpr ⟨sn_aload dX4_membersOn_19 rfl, ?_⟩
  refine List.forall_mem_cons.mpr ⟨sn_ifnull dX4_membersOn_21 (by decide) rfl, ?_⟩
  refine List.forall_mem_cons.mpr ⟨sn_aload dX4_membersOn_24 rfl, ?_⟩
  refine List.forall_mem_cons.mpr ⟨sn_geti mCl_0 (by decide) rfl kt_854 dX4_membersOn_26 rfl, ?_⟩
  refine List.forall_mem_cons.mpr ⟨sn_ifeq dX4_membersOn_29 (by decide) rfl, ?_⟩
  refine List.forall_mem_cons.mpr ⟨sn_aload dX4_membersOn_32 rfl, ?_⟩
  refine List.forall_mem_cons.mpr ⟨sn_iload_n dX4_membersOn_34 rfl rfl, ?_⟩
  refine List.forall_mem_cons.mpr ⟨sn_callV mCl_0 mt_3 rfl kt_931 kt_932 kt_933 dX4_membersOn_35 rfl, ?_⟩
  refine List.forall_mem_cons.mpr ⟨sn_ifeq dX4_membersOn_38 (by decide) rfl, ?_⟩
  refine List.forall_mem_cons.mpr ⟨sn_iinc dX4_membersOn_41 rfl, ?_⟩
  refine List.forall_mem_cons.mpr ⟨sn_iinc dX4_membersOn_44 rfl, ?_⟩
  refine List.forall_mem_cons.mpr ⟨sn_goto dX4_membersOn_47 (by decide), ?_⟩
  refine List.forall_mem_cons.mpr ⟨sn_iload_n dX4_membersOn_50 rfl rfl, ?_⟩
  refine List.forall_mem_cons.mpr ⟨sn_iret rfl dX4_membersOn_51, ?_⟩
  exact List.forall_mem_nil _
theorem sX4_lightestMemberMeeting : ∀ q ∈ tX4_lightestMemberMeeting, mSnd mInf iX4_lightestMemberMeeting q.1 q.2 := by
  unfold tX4_lightestMemberMeeting
  refine List.forall_mem_cons.mpr ⟨sn_iconst dX4_lightestMemberMeeting_0 rfl ⟨by decide, by decide⟩, ?_⟩
  refine List.forall_mem_cons.mpr ⟨sn_istore_n dX4_lightestMemberMeeting_1 rfl rfl, ?_⟩
  refine List.forall_mem_cons.mpr ⟨sn_iconst dX4_lightestMemberMeeting_2 rfl ⟨by decide, by decide⟩, ?_⟩
  refine List.forall_mem_cons.mpr ⟨sn_istore_n dX4_lightestMemberMeeting_3 rfl rfl, ?_⟩
  refine List.forall_mem_cons.mpr ⟨sn_iconst dX4_lightestMemberMeeting_4 rfl ⟨by decide, by decide⟩, ?_⟩
  refine List.forall_mem_cons.mpr ⟨sn_istore dX4_lightestMemberMeeting_5 rfl, ?_⟩
  refine List.forall_mem_cons.mpr ⟨sn_iload dX4_lightestMemberMeeting_7 rfl, ?_⟩
  refine List.forall_mem_cons.mpr ⟨sn_aload_n dX4_lightestMemberMeeting_9 rfl rfl, ?_⟩
  refine List.forall_mem_cons.mpr ⟨sn_geti mCl_4 (by decide) rfl kt_260 dX4_lightestMemberMeeting_10 rfl, ?_⟩
  refine List.forall_mem_cons.mpr ⟨sn_icmpge dX4_lightestMemberMeeting_13 (by decide) rfl, ?_⟩
  refine List.forall_mem_cons.mpr ⟨sn_aload_n dX4_lightestMemberMeeting_16 rfl rfl, ?_⟩
  refine List.forall_mem_cons.mpr ⟨sn_iload dX4_lightestMemberMeeting_17 rfl, ?_⟩
  refine List.forall_mem_cons.mpr ⟨sn_callV mCl_4 mt_35 rfl kt_915 kt_916 kt_917 dX4_lightestMemberMeeting_19 rfl, ?_⟩
  refine List.forall_mem_cons.mpr ⟨sn_astore dX4_lightestMemberMeeting_22 rfl, ?_⟩
  refine List.forall_mem_cons.mpr ⟨sn_aload dX4_lightestMemberMeeting_24 rfl, ?_⟩
  refine List.forall_mem_cons.mpr ⟨sn_ifnull dX4_lightestMemberMeeting_26 (by decide) rfl, ?_⟩
  refine List.forall_mem_cons.mpr ⟨sn_aload dX4_lightestMemberMeeting_29 rfl, ?_⟩
  refine List.forall_mem_cons.mpr ⟨sn_geti mCl_0 (by decide) rfl kt_854 dX4_lightestMemberMeeting_31 rfl, ?_⟩
  refine List.forall_mem_cons.mpr ⟨sn_ifeq dX4_lightestMemberMeeting_34 (by decide) rfl, ?_⟩
  refine List.forall_mem_cons.mpr ⟨sn_aload dX4_lightestMemberMeeting_37 rfl, ?_⟩
  refine List.forall_mem_cons.mpr ⟨sn_aload_n dX4_lightestMemberMeeting_39 rfl rfl, ?_⟩
  refine List.forall_mem_cons.mpr ⟨sn_callV mCl_0 mt_4 rfl kt_1007 kt_1008 kt_1009 dX4_lightestMemberMeeting_40 rfl, ?_⟩
  refine List.forall_mem_cons.mpr ⟨sn_ifeq dX4_lightestMemberMeeting_43 (by decide) rfl, ?_⟩
  refine List.forall_mem_cons.mpr ⟨sn_iload_n dX4_lightestMemberMeeting_46 rfl rfl, ?_⟩
  refine List.forall_mem_cons.mpr ⟨sn_iconst dX4_lightestMemberMeeting_47 rfl ⟨by decide, by decide⟩, ?_⟩
  refine List.forall_mem_cons.mpr ⟨sn_icmpeq dX4_lightestMemberMeeting_48 (by decide) rfl, ?_⟩
  refine List.forall_mem_cons.mpr ⟨sn_aload dX4_lightestMemberMeeting_51 rfl, ?_⟩
  refine List.forall_mem_cons.mpr ⟨sn_geti mCl_0 (by decide) rfl kt_844 dX4_lightestMemberMeeting_53 rfl, ?_⟩
  refine List.forall_mem_cons.mpr ⟨sn_iload_n dX4_lightestMemberMeeting_56 rfl rfl, ?_⟩
  refine List.forall_mem_cons.mpr ⟨sn_icmpge dX4_lightestMemberMeeting_57 (by decide) rfl, ?_⟩
  refine List.forall_mem_cons.mpr ⟨sn_iload dX4_lightestMemberMeeting_60 rfl, ?_⟩
  refine List.forall_mem_cons.mpr ⟨sn_istore_n dX4_lightestMemberMeeting_62 rfl rfl, ?_⟩
  refine List.forall_mem_cons.mpr ⟨sn_aload dX4_lightestMemberMeeting_63 rfl, ?_⟩
  refine List.forall_mem_cons.mpr ⟨sn_geti mCl_0 (by decide) rfl kt_844 dX4_lightestMemberMeeting_65 rfl, ?_⟩
  refine List.forall_mem_cons.mpr ⟨sn_istore_n dX4_lightestMemberMeeting_68 rfl rfl, ?_⟩
  refine List.forall_mem_cons.mpr ⟨sn_iinc dX4_lightestMemberMeeting_69 rfl, ?_⟩
  refine List.forall_mem_cons.mpr ⟨sn_goto dX4_lightestMemberMeeting_72 (by decide), ?_⟩
  refine List.forall_mem_cons.mpr ⟨sn_iload_n dX4_lightestMemberMeeting_75 rfl rfl, ?_⟩
  refine List.forall_mem_cons.mpr ⟨sn_iret rfl dX4_lightestMemberMeeting_76, ?_⟩
  exact List.forall_mem_nil _
