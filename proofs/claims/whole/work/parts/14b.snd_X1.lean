theorem sX1_init (hmna : mSnd mInf iX1_init 25 (o_mna 29)) : ∀ q ∈ tX1_init, mSnd mInf iX1_init q.1 q.2 := by
  unfold tX1_init
  refine List.forall_mem_cons.mpr ⟨sn_aload_n dX1_init_0 rfl rfl, ?_⟩
  refine List.forall_mem_cons.mpr ⟨sn_objinit kt_69 kt_28 kt_29 dX1_init_1 rfl, ?_⟩
  refine List.forall_mem_cons.mpr ⟨sn_aload_n dX1_init_4 rfl rfl, ?_⟩
  refine List.forall_mem_cons.mpr ⟨sn_iconst dX1_init_5 rfl ⟨by decide, by decide⟩, ?_⟩
  refine List.forall_mem_cons.mpr ⟨sn_puti mCl_1 (by decide) rfl (Or.inl rfl) kt_74 dX1_init_6 rfl, ?_⟩
  refine List.forall_mem_cons.mpr ⟨sn_aload_n dX1_init_9 rfl rfl, ?_⟩
  refine List.forall_mem_cons.mpr ⟨sn_iconst dX1_init_10 rfl ⟨by decide, by decide⟩, ?_⟩
  refine List.forall_mem_cons.mpr ⟨sn_puti mCl_1 (by decide) rfl (Or.inl rfl) kt_77 dX1_init_11 rfl, ?_⟩
  refine List.forall_mem_cons.mpr ⟨sn_aload_n dX1_init_14 rfl rfl, ?_⟩
  refine List.forall_mem_cons.mpr ⟨sn_iconst dX1_init_15 rfl ⟨by decide, by decide⟩, ?_⟩
  refine List.forall_mem_cons.mpr ⟨sn_puti mCl_1 (by decide) rfl (Or.inl rfl) kt_79 dX1_init_16 rfl, ?_⟩
  refine List.forall_mem_cons.mpr ⟨sn_aload_n dX1_init_19 rfl rfl, ?_⟩
  refine List.forall_mem_cons.mpr ⟨sn_bipush dX1_init_20 rfl (by decide) ⟨by decide, by decide⟩, ?_⟩
  refine List.forall_mem_cons.mpr ⟨sn_sipush dX1_init_22 rfl (by decide) ⟨by decide, by decide⟩, ?_⟩
  refine List.forall_mem_cons.mpr ⟨hmna, ?_⟩
  refine List.forall_mem_cons.mpr ⟨sn_putr mCl_1 (by decide) rfl (Or.inr ⟨rfl, rfl, rfl⟩) kt_80 dX1_init_29 rfl, ?_⟩
  refine List.forall_mem_cons.mpr ⟨sn_aload_n dX1_init_32 rfl rfl, ?_⟩
  refine List.forall_mem_cons.mpr ⟨sn_sipush dX1_init_33 rfl (by decide) ⟨by decide, by decide⟩, ?_⟩
  refine List.forall_mem_cons.mpr ⟨sn_newI kt_99 dX1_init_36 rfl, ?_⟩
  refine List.forall_mem_cons.mpr ⟨sn_putr mCl_1 (by decide) rfl (Or.inr ⟨rfl, rfl, rfl⟩) kt_81 dX1_init_38 rfl, ?_⟩
  refine List.forall_mem_cons.mpr ⟨sn_aload_n dX1_init_41 rfl rfl, ?_⟩
  refine List.forall_mem_cons.mpr ⟨sn_sipush dX1_init_42 rfl (by decide) ⟨by decide, by decide⟩, ?_⟩
  refine List.forall_mem_cons.mpr ⟨sn_newr (t0 := 6) ⟨by decide, by decide⟩ (fun _ => rfl) (by decide) kt_72 dX1_init_45 rfl, ?_⟩
  refine List.forall_mem_cons.mpr ⟨sn_putr mCl_1 (by decide) rfl (Or.inr ⟨rfl, rfl, rfl⟩) kt_82 dX1_init_48 rfl, ?_⟩
  refine List.forall_mem_cons.mpr ⟨sn_aload_n dX1_init_51 rfl rfl, ?_⟩
  refine List.forall_mem_cons.mpr ⟨sn_sipush dX1_init_52 rfl (by decide) ⟨by decide, by decide⟩, ?_⟩
  refine List.forall_mem_cons.mpr ⟨sn_newI kt_99 dX1_init_55 rfl, ?_⟩
  refine List.forall_mem_cons.mpr ⟨sn_putr mCl_1 (by decide) rfl (Or.inr ⟨rfl, rfl, rfl⟩) kt_83 dX1_init_57 rfl, ?_⟩
  refine List.forall_mem_cons.mpr ⟨sn_vret rfl dX1_init_60, ?_⟩
  exact List.forall_mem_nil _
theorem sX1_survey : ∀ q ∈ tX1_survey, mSnd mInf iX1_survey q.1 q.2 := by
  unfold tX1_survey
  refine List.forall_mem_cons.mpr ⟨sn_iload_n dX1_survey_0 rfl rfl, ?_⟩
  refine List.forall_mem_cons.mpr ⟨sn_aload_n dX1_survey_1 rfl rfl, ?_⟩
  refine List.forall_mem_cons.mpr ⟨sn_geti mCl_1 (by decide) rfl kt_77 dX1_survey_2 rfl, ?_⟩
  refine List.forall_mem_cons.mpr ⟨sn_icmpne dX1_survey_5 (by decide) rfl, ?_⟩
  refine List.forall_mem_cons.mpr ⟨sn_aload_n dX1_survey_8 rfl rfl, ?_⟩
  refine List.forall_mem_cons.mpr ⟨sn_geti mCl_3 (by decide) rfl kt_41 dX1_survey_9 rfl, ?_⟩
  refine List.forall_mem_cons.mpr ⟨sn_aload_n dX1_survey_12 rfl rfl, ?_⟩
  refine List.forall_mem_cons.mpr ⟨sn_geti mCl_1 (by decide) rfl kt_79 dX1_survey_13 rfl, ?_⟩
  refine List.forall_mem_cons.mpr ⟨sn_icmpne dX1_survey_16 (by decide) rfl, ?_⟩
  refine List.forall_mem_cons.mpr ⟨sn_vret rfl dX1_survey_19, ?_⟩
  refine List.forall_mem_cons.mpr ⟨sn_aload_n dX1_survey_20 rfl rfl, ?_⟩
  refine List.forall_mem_cons.mpr ⟨sn_iload_n dX1_survey_21 rfl rfl, ?_⟩
  refine List.forall_mem_cons.mpr ⟨sn_puti mCl_1 (by decide) rfl (Or.inl rfl) kt_77 dX1_survey_22 rfl, ?_⟩
  refine List.forall_mem_cons.mpr ⟨sn_aload_n dX1_survey_25 rfl rfl, ?_⟩
  refine List.forall_mem_cons.mpr ⟨sn_aload_n dX1_survey_26 rfl rfl, ?_⟩
  refine List.forall_mem_cons.mpr ⟨sn_geti mCl_3 (by decide) rfl kt_41 dX1_survey_27 rfl, ?_⟩
  refine List.forall_mem_cons.mpr ⟨sn_aload_n dX1_survey_30 rfl rfl, ?_⟩
  refine List.forall_mem_cons.mpr ⟨sn_getr mCl_1 (by decide) rfl kt_80 dX1_survey_31 rfl, ?_⟩
  refine List.forall_mem_cons.mpr ⟨sn_alen dX1_survey_34 rfl, ?_⟩
  refine List.forall_mem_cons.mpr ⟨sn_min kt_631 kt_632 kt_14 kt_633 dX1_survey_35 rfl, ?_⟩
  refine List.forall_mem_cons.mpr ⟨sn_puti mCl_1 (by decide) rfl (Or.inl rfl) kt_79 dX1_survey_38 rfl, ?_⟩
  refine List.forall_mem_cons.mpr ⟨sn_iconst dX1_survey_41 rfl ⟨by decide, by decide⟩, ?_⟩
  refine List.forall_mem_cons.mpr ⟨sn_istore_n dX1_survey_42 rfl rfl, ?_⟩
  refine List.forall_mem_cons.mpr ⟨sn_iload_n dX1_survey_43 rfl rfl, ?_⟩
  refine List.forall_mem_cons.mpr ⟨sn_aload_n dX1_survey_44 rfl rfl, ?_⟩
  refine List.forall_mem_cons.mpr ⟨sn_geti mCl_1 (by decide) rfl kt_79 dX1_survey_45 rfl, ?_⟩
  refine List.forall_mem_cons.mpr ⟨sn_icmpge dX1_survey_48 (by decide) rfl, ?_⟩
  refine List.forall_mem_cons.mpr ⟨sn_aload_n dX1_survey_51 rfl rfl, ?_⟩
  refine List.forall_mem_cons.mpr ⟨sn_getr mCl_1 (by decide) rfl kt_80 dX1_survey_52 rfl, ?_⟩
  refine List.forall_mem_cons.mpr ⟨sn_iload_n dX1_survey_55 rfl rfl, ?_⟩
  refine List.forall_mem_cons.mpr ⟨sn_raldA dX1_survey_56 rfl, ?_⟩
  refine List.forall_mem_cons.mpr ⟨sn_iconst dX1_survey_57 rfl ⟨by decide, by decide⟩, ?_⟩
  refine List.forall_mem_cons.mpr ⟨sn_callS mt_183 kt_634 kt_635 dX1_survey_58 rfl, ?_⟩
  refine List.forall_mem_cons.mpr ⟨sn_iinc dX1_survey_61 rfl, ?_⟩
  refine List.forall_mem_cons.mpr ⟨sn_goto dX1_survey_64 (by decide), ?_⟩
  refine List.forall_mem_cons.mpr ⟨sn_aload_n dX1_survey_67 rfl rfl, ?_⟩
  refine List.forall_mem_cons.mpr ⟨sn_aload_n dX1_survey_68 rfl rfl, ?_⟩
  refine List.forall_mem_cons.mpr ⟨sn_callV mCl_1 mt_12 rfl kt_637 kt_639 kp_18 dX1_survey_69 rfl, ?_⟩
  refine List.forall_mem_cons.mpr ⟨sn_aload_n dX1_survey_72 rfl rfl, ?_⟩
  refine List.forall_mem_cons.mpr ⟨sn_aload_n dX1_survey_73 rfl rfl, ?_⟩
  refine List.forall_mem_cons.mpr ⟨sn_callV mCl_1 mt_14 rfl kt_657 kt_659 kp_19 dX1_survey_74 rfl, ?_⟩
  refine List.forall_mem_cons.mpr ⟨sn_aload_n dX1_survey_77 rfl rfl, ?_⟩
  refine List.forall_mem_cons.mpr ⟨sn_aload_n dX1_survey_78 rfl rfl, ?_⟩
  refine List.forall_mem_cons.mpr ⟨sn_callV mCl_1 mt_16 rfl kt_672 kt_674 kp_21 dX1_survey_79 rfl, ?_⟩
  refine List.forall_mem_cons.mpr ⟨sn_vret rfl dX1_survey_82, ?_⟩
  exact List.forall_mem_nil _
theorem sX1_factAt : ∀ q ∈ tX1_factAt, mSnd mInf iX1_factAt q.1 q.2 := by
  unfold tX1_factAt
  refine List.forall_mem_cons.mpr ⟨sn_iload_n dX1_factAt_0 rfl rfl, ?_⟩
  refine List.forall_mem_cons.mpr ⟨sn_iflt dX1_factAt_1 (by decide) rfl, ?_⟩
  refine List.forall_mem_cons.mpr ⟨sn_iload_n dX1_factAt_4 rfl rfl, ?_⟩
  refine List.forall_mem_cons.mpr ⟨sn_aload_n dX1_factAt_5 rfl rfl, ?_⟩
  refine List.forall_mem_cons.mpr ⟨sn_geti mCl_1 (by decide) rfl kt_79 dX1_factAt_6 rfl, ?_⟩
  refine List.forall_mem_cons.mpr ⟨sn_icmpge dX1_factAt_9 (by decide) rfl, ?_⟩
  refine List.forall_mem_cons.mpr ⟨sn_iload_n dX1_factAt_12 rfl rfl, ?_⟩
  refine List.forall_mem_cons.mpr ⟨sn_iflt dX1_factAt_13 (by decide) rfl, ?_⟩
  refine List.forall_mem_cons.mpr ⟨sn_iload_n dX1_factAt_16 rfl rfl, ?_⟩
  refine List.forall_mem_cons.mpr ⟨sn_sipush dX1_factAt_17 rfl (by decide) ⟨by decide, by decide⟩, ?_⟩
  refine List.forall_mem_cons.mpr ⟨sn_icmplt dX1_factAt_20 (by decide) rfl, ?_⟩
  refine List.forall_mem_cons.mpr ⟨sn_iconst dX1_factAt_23 rfl ⟨by decide, by decide⟩, ?_⟩
  refine List.forall_mem_cons.mpr ⟨sn_iret rfl dX1_factAt_24, ?_⟩
  refine List.forall_mem_cons.mpr ⟨sn_aload_n dX1_factAt_25 rfl rfl, ?_⟩
  refine List.forall_mem_cons.mpr ⟨sn_getr mCl_1 (by decide) rfl kt_80 dX1_factAt_26 rfl, ?_⟩
  refine List.forall_mem_cons.mpr ⟨sn_iload_n dX1_factAt_29 rfl rfl, ?_⟩
  refine List.forall_mem_cons.mpr ⟨sn_raldA dX1_factAt_30 rfl, ?_⟩
  refine List.forall_mem_cons.mpr ⟨sn_iload_n dX1_factAt_31 rfl rfl, ?_⟩
  refine List.forall_mem_cons.mpr ⟨sn_iald dX1_factAt_32 rfl, ?_⟩
  refine List.forall_mem_cons.mpr ⟨sn_iret rfl dX1_factAt_33, ?_⟩
  exact List.forall_mem_nil _
theorem sX1_at : ∀ q ∈ tX1_at, mSnd mInf iX1_at q.1 q.2 := by
  unfold tX1_at
  refine List.forall_mem_cons.mpr ⟨sn_iload_n dX1_at_0 rfl rfl, ?_⟩
  refine List.forall_mem_cons.mpr ⟨sn_iflt dX1_at_1 (by decide) rfl, ?_⟩
  refine List.forall_mem_cons.mpr ⟨sn_iload_n dX1_at_4 rfl rfl, ?_⟩
  refine List.forall_mem_cons.mpr ⟨sn_aload_n dX1_at_5 rfl rfl, ?_⟩
  refine List.forall_mem_cons.mpr ⟨sn_geti mCl_1 (by decide) rfl kt_74 dX1_at_6 rfl, ?_⟩
  refine List.forall_mem_cons.mpr ⟨sn_icmpge dX1_at_9 (by decide) rfl, ?_⟩
  refine List.forall_mem_cons.mpr ⟨sn_iload_n dX1_at_12 rfl rfl, ?_⟩
  refine List.forall_mem_cons.mpr ⟨sn_aload_n dX1_at_13 rfl rfl, ?_⟩
  refine List.forall_mem_cons.mpr ⟨sn_getr mCl_1 (by decide) rfl kt_82 dX1_at_14 rfl, ?_⟩
  refine List.forall_mem_cons.mpr ⟨sn_alen dX1_at_17 rfl, ?_⟩
  refine List.forall_mem_cons.mpr ⟨sn_icmpge dX1_at_18 (by decide) rfl, ?_⟩
  refine List.forall_mem_cons.mpr ⟨sn_aload_n dX1_at_21 rfl rfl, ?_⟩
  refine List.forall_mem_cons.mpr ⟨sn_getr mCl_1 (by decide) rfl kt_82 dX1_at_22 rfl, ?_⟩
  refine List.forall_mem_cons.mpr ⟨sn_iload_n dX1_at_25 rfl rfl, ?_⟩
  refine List.forall_mem_cons.mpr ⟨sn_rald (t0 := 6) ⟨by decide, by decide⟩ (fun _ => rfl) dX1_at_26 rfl, ?_⟩
  refine List.forall_mem_cons.mpr ⟨sn_goto dX1_at_27 (by decide), ?_⟩
  refine List.forall_mem_cons.mpr ⟨sn_null dX1_at_30 rfl, ?_⟩
  refine List.forall_mem_cons.mpr ⟨sn_aret rfl dX1_at_31, ?_⟩
  exact List.forall_mem_nil _
theorem sX1_firstDoubted : ∀ q ∈ tX1_firstDoubted, mSnd mInf iX1_firstDoubted q.1 q.2 := by
  unfold tX1_firstDoubted
  refine List.forall_mem_cons.mpr ⟨sn_iconst dX1_firstDoubted_0 rfl ⟨by decide, by decide⟩, ?_⟩
  refine List.forall_mem_cons.mpr ⟨sn_istore_n dX1_firstDoubted_1 rfl rfl, ?_⟩
  refine List.forall_mem_cons.mpr ⟨sn_iload_n dX1_firstDoubted_2 rfl rfl, ?_⟩
  refine List.forall_mem_cons.mpr ⟨sn_aload_n dX1_firstDoubted_3 rfl rfl, ?_⟩
  refine List.forall_mem_cons.mpr ⟨sn_geti mCl_1 (by decide) rfl kt_74 dX1_firstDoubted_4 rfl, ?_⟩
  refine List.forall_mem_cons.mpr ⟨sn_icmpge dX1_firstDoubted_7 (by decide) rfl, ?_⟩
  refine List.forall_mem_cons.mpr ⟨sn_aload_n dX1_firstDoubted_10 rfl rfl, ?_⟩
  refine List.forall_mem_cons.mpr ⟨sn_iload_n dX1_firstDoubted_11 rfl rfl, ?_⟩
  refine List.forall_mem_cons.mpr ⟨sn_callV mCl_1 mt_10 rfl kt_807 kt_784 kt_785 dX1_firstDoubted_12 rfl, ?_⟩
  refine List.forall_mem_cons.mpr ⟨sn_astore_n dX1_firstDoubted_15 rfl rfl, ?_⟩
  refine List.forall_mem_cons.mpr ⟨sn_aload_n dX1_firstDoubted_16 rfl rfl, ?_⟩
  refine List.forall_mem_cons.mpr ⟨sn_ifnull dX1_firstDoubted_17 (by decide) rfl, ?_⟩
  refine List.forall_mem_cons.mpr ⟨sn_iload_n dX1_firstDoubted_20 rfl rfl, ?_⟩
  refine List.forall_mem_cons.mpr ⟨sn_aload_n dX1_firstDoubted_21 rfl rfl, ?_⟩
  refine List.forall_mem_cons.mpr ⟨sn_geti mCl_6 (by decide) rfl kt_690 dX1_firstDoubted_22 rfl, ?_⟩
  refine List.forall_mem_cons.mpr ⟨sn_icmpeq dX1_firstDoubted_25 (by decide) rfl, ?_⟩
  refine List.forall_mem_cons.mpr ⟨sn_aload_n dX1_firstDoubted_28 rfl rfl, ?_⟩
  refine List.forall_mem_cons.mpr ⟨sn_aload_n dX1_firstDoubted_29 rfl rfl, ?_⟩
  refine List.forall_mem_cons.mpr ⟨sn_callV mCl_6 mt_57 rfl kt_808 kt_809 kt_810 dX1_firstDoubted_30 rfl, ?_⟩
  refine List.forall_mem_cons.mpr ⟨sn_ifeq dX1_firstDoubted_33 (by decide) rfl, ?_⟩
  refine List.forall_mem_cons.mpr ⟨sn_iload_n dX1_firstDoubted_36 rfl rfl, ?_⟩
  refine List.forall_mem_cons.mpr ⟨sn_iret rfl dX1_firstDoubted_37, ?_⟩
  refine List.forall_mem_cons.mpr ⟨sn_iinc dX1_firstDoubted_38 rfl, ?_⟩
  refine List.forall_mem_cons.mpr ⟨sn_goto dX1_firstDoubted_41 (by decide), ?_⟩
  refine List.forall_mem_cons.mpr ⟨sn_iconst dX1_firstDoubted_44 rfl ⟨by decide, by decide⟩, ?_⟩
  refine List.forall_mem_cons.mpr ⟨sn_iret rfl dX1_firstDoubted_45, ?_⟩
  exact List.forall_mem_nil _
theorem sX1_layNotices : ∀ q ∈ tX1_layNotices, mSnd mInf iX1_layNotices q.1 q.2 := by
  unfold tX1_layNotices
  refine List.forall_mem_cons.mpr ⟨sn_iconst dX1_layNotices_0 rfl ⟨by decide, by decide⟩, ?_⟩
  refine List.forall_mem_cons.mpr ⟨sn_istore_n dX1_layNotices_1 rfl rfl, ?_⟩
  refine List.forall_mem_cons.mpr ⟨sn_iload_n dX1_layNotices_2 rfl rfl, ?_⟩
  refine List.forall_mem_cons.mpr ⟨sn_aload_n dX1_layNotices_3 rfl rfl, ?_⟩
  refine List.forall_mem_cons.mpr ⟨sn_geti mCl_3 (by decide) rfl kt_44 dX1_layNotices_4 rfl, ?_⟩
  refine List.forall_mem_cons.mpr ⟨sn_icmpge dX1_layNotices_7 (by decide) rfl, ?_⟩
  refine List.forall_mem_cons.mpr ⟨sn_aload_n dX1_layNotices_10 rfl rfl, ?_⟩
  refine List.forall_mem_cons.mpr ⟨sn_iload_n dX1_layNotices_11 rfl rfl, ?_⟩
  refine List.forall_mem_cons.mpr ⟨sn_callV mCl_3 mt_29 rfl kt_641 kt_642 kt_643 dX1_layNotices_12 rfl, ?_⟩
  refine List.forall_mem_cons.mpr ⟨sn_astore_n dX1_layNotices_15 rfl rfl, ?_⟩
  refine List.forall_mem_cons.mpr ⟨sn_iconst dX1_layNotices_16 rfl ⟨by decide, by decide⟩, ?_⟩
  refine List.forall_mem_cons.mpr ⟨sn_istore dX1_layNotices_17 rfl, ?_⟩
  refine List.forall_mem_cons.mpr ⟨sn_iload dX1_layNotices_19 rfl, ?_⟩
  refine List.forall_mem_cons.mpr ⟨sn_aload_n dX1_layNotices_21 rfl rfl, ?_⟩
  refine List.forall_mem_cons.mpr ⟨sn_geti mCl_1 (by decide) rfl kt_77 dX1_layNotices_22 rfl, ?_⟩
  refine List.forall_mem_cons.mpr ⟨sn_icmpge dX1_layNotices_25 (by decide) rfl, ?_⟩
  refine List.forall_mem_cons.mpr ⟨sn_aload_n dX1_layNotices_28 rfl rfl, ?_⟩
  refine List.forall_mem_cons.mpr ⟨sn_ifnull dX1_layNotices_29 (by decide) rfl, ?_⟩
  refine List.forall_mem_cons.mpr ⟨sn_aload_n dX1_layNotices_32 rfl rfl, ?_⟩
  refine List.forall_mem_cons.mpr ⟨sn_iload dX1_layNotices_33 rfl, ?_⟩
  refine List.forall_mem_cons.mpr ⟨sn_callV mCl_3 mt_30 rfl kt_645 kt_646 kt_647 dX1_layNotices_35 rfl, ?_⟩
  refine List.forall_mem_cons.mpr ⟨sn_astore dX1_layNotices_38 rfl, ?_⟩
  refine List.forall_mem_cons.mpr ⟨sn_aload dX1_layNotices_40 rfl, ?_⟩
  refine List.forall_mem_cons.mpr ⟨sn_ifnull dX1_layNotices_42 (by decide) rfl, ?_⟩
  refine List.forall_mem_cons.mpr ⟨sn_aload dX1_layNotices_45 rfl, ?_⟩
  refine List.forall_mem_cons.mpr ⟨sn_aload_n dX1_layNotices_47 rfl rfl, ?_⟩
  refine List.forall_mem_cons.mpr ⟨sn_callV mCl_2 mt_22 rfl kt_649 kt_650 kt_651 dX1_layNotices_48 rfl, ?_⟩
  refine List.forall_mem_cons.mpr ⟨sn_ifeq dX1_layNotices_51 (by decide) rfl, ?_⟩
  refine List.forall_mem_cons.mpr ⟨sn_aload dX1_layNotices_54 rfl, ?_⟩
  refine List.forall_mem_cons.mpr ⟨sn_geti mCl_2 (by decide) rfl kt_575 dX1_layNotices_56 rfl, ?_⟩
  refine List.forall_mem_cons.mpr ⟨sn_iflt dX1_layNotices_59 (by decide) rfl, ?_⟩
  refine List.forall_mem_cons.mpr ⟨sn_aload dX1_layNotices_62 rfl, ?_⟩
  refine List.forall_mem_cons.mpr ⟨sn_geti mCl_2 (by decide) rfl kt_575 dX1_layNotices_64 rfl, ?_⟩
  refine List.forall_mem_cons.mpr ⟨sn_aload_n dX1_layNotices_67 rfl rfl, ?_⟩
  refine List.forall_mem_cons.mpr ⟨sn_geti mCl_1 (by decide) rfl kt_79 dX1_layNotices_68 rfl, ?_⟩
  refine List.forall_mem_cons.mpr ⟨sn_icmpge dX1_layNotices_71 (by decide) rfl, ?_⟩
  refine List.forall_mem_cons.mpr ⟨sn_aload_n dX1_layNotices_74 rfl rfl, ?_⟩
  refine List.forall_mem_cons.mpr ⟨sn_getr mCl_1 (by decide) rfl kt_80 dX1_layNotices_75 rfl, ?_⟩
  refine List.forall_mem_cons.mpr ⟨sn_aload dX1_layNotices_78 rfl, ?_⟩
  refine List.forall_mem_cons.mpr ⟨sn_geti mCl_2 (by decide) rfl kt_575 dX1_layNotices_80 rfl, ?_⟩
  refine List.forall_mem_cons.mpr ⟨sn_raldA dX1_layNotices_83 rfl, ?_⟩
  refine List.forall_mem_cons.mpr ⟨sn_aload dX1_layNotices_84 rfl, ?_⟩
  refine List.forall_mem_cons.mpr ⟨sn_aload dX1_layNotices_86 rfl, ?_⟩
  refine List.forall_mem_cons.mpr ⟨sn_geti mCl_2 (by decide) rfl kt_582 dX1_layNotices_88 rfl, ?_⟩
  refine List.forall_mem_cons.mpr ⟨sn_ifne dX1_layNotices_91 (by decide) rfl, ?_⟩
  refine List.forall_mem_cons.mpr ⟨sn_iconst dX1_layNotices_94 rfl ⟨by decide, by decide⟩, ?_⟩
  refine List.forall_mem_cons.mpr ⟨sn_goto dX1_layNotices_95 (by decide), ?_⟩
  refine List.forall_mem_cons.mpr ⟨sn_iload dX1_layNotices_98 rfl, ?_⟩
  refine List.forall_mem_cons.mpr ⟨sn_callS mt_13 kt_653 kt_654 dX1_layNotices_100 rfl, ?_⟩
  refine List.forall_mem_cons.mpr ⟨sn_iinc dX1_layNotices_103 rfl, ?_⟩
  refine List.forall_mem_cons.mpr ⟨sn_goto dX1_layNotices_106 (by decide), ?_⟩
  refine List.forall_mem_cons.mpr ⟨sn_iinc dX1_layNotices_109 rfl, ?_⟩
  refine List.forall_mem_cons.mpr ⟨sn_goto dX1_layNotices_112 (by decide), ?_⟩
  refine List.forall_mem_cons.mpr ⟨sn_vret rfl dX1_layNotices_115, ?_⟩
  exact List.forall_mem_nil _
theorem sX1_layNotice : ∀ q ∈ tX1_layNotice, mSnd mInf iX1_layNotice q.1 q.2 := by
  unfold tX1_layNotice
  refine List.forall_mem_cons.mpr ⟨sn_aload_n dX1_layNotice_0 rfl rfl, ?_⟩
  refine List.forall_mem_cons.mpr ⟨sn_geti mCl_2 (by decide) rfl kt_579 dX1_layNotice_1 rfl, ?_⟩
  refine List.forall_mem_cons.mpr ⟨sn_aload_n dX1_layNotice_4 rfl rfl, ?_⟩
  refine List.forall_mem_cons.mpr ⟨sn_alen dX1_layNotice_5 rfl, ?_⟩
  refine List.forall_mem_cons.mpr ⟨sn_min kt_631 kt_632 kt_14 kt_633 dX1_layNotice_6 rfl, ?_⟩
  refine List.forall_mem_cons.mpr ⟨sn_istore_n dX1_layNotice_9 rfl rfl, ?_⟩
  refine List.forall_mem_cons.mpr ⟨sn_aload_n dX1_layNotice_10 rfl rfl, ?_⟩
  refine List.forall_mem_cons.mpr ⟨sn_geti mCl_2 (by decide) rfl kt_577 dX1_layNotice_11 rfl, ?_⟩
  refine List.forall_mem_cons.mpr ⟨sn_iconst dX1_layNotice_14 rfl ⟨by decide, by decide⟩, ?_⟩
  refine List.forall_mem_cons.mpr ⟨sn_max kt_656 kt_513 kt_14 kt_514 dX1_layNotice_15 rfl, ?_⟩
  refine List.forall_mem_cons.mpr ⟨sn_istore dX1_layNotice_18 rfl, ?_⟩
  refine List.forall_mem_cons.mpr ⟨sn_iload dX1_layNotice_20 rfl, ?_⟩
  refine List.forall_mem_cons.mpr ⟨sn_iload_n dX1_layNotice_22 rfl rfl, ?_⟩
  refine List.forall_mem_cons.mpr ⟨sn_icmpge dX1_layNotice_23 (by decide) rfl, ?_⟩
  refine List.forall_mem_cons.mpr ⟨sn_aload_n dX1_layNotice_26 rfl rfl, ?_⟩
  refine List.forall_mem_cons.mpr ⟨sn_iload dX1_layNotice_27 rfl, ?_⟩
  refine List.forall_mem_cons.mpr ⟨sn_iload_n dX1_layNotice_29 rfl rfl, ?_⟩
  refine List.forall_mem_cons.mpr ⟨sn_iast dX1_layNotice_30 rfl, ?_⟩
  refine List.forall_mem_cons.mpr ⟨sn_iinc dX1_layNotice_31 rfl, ?_⟩
  refine List.forall_mem_cons.mpr ⟨sn_goto dX1_layNotice_34 (by decide), ?_⟩
  refine List.forall_mem_cons.mpr ⟨sn_vret rfl dX1_layNotice_37, ?_⟩
  exact List.forall_mem_nil _
theorem sX1_pushByOvers : ∀ q ∈ tX1_pushByOvers, mSnd mInf iX1_pushByOvers q.1 q.2 := by
  unfold tX1_pushByOvers
  refine List.forall_mem_cons.mpr ⟨sn_iconst dX1_pushByOvers_0 rfl ⟨by decide, by decide⟩, ?_⟩
  refine List.forall_mem_cons.mpr ⟨sn_istore_n dX1_pushByOvers_1 rfl rfl, ?_⟩
  refine List.forall_mem_cons.mpr ⟨sn_iload_n dX1_pushByOvers_2 rfl rfl, ?_⟩
  refine List.forall_mem_cons.mpr ⟨sn_aload_n dX1_pushByOvers_3 rfl rfl, ?_⟩
  refine List.forall_mem_cons.mpr ⟨sn_geti mCl_1 (by decide) rfl kt_77 dX1_pushByOvers_4 rfl, ?_⟩
  refine List.forall_mem_cons.mpr ⟨sn_icmpge dX1_pushByOvers_7 (by decide) rfl, ?_⟩
  refine List.forall_mem_cons.mpr ⟨sn_aload_n dX1_pushByOvers_10 rfl rfl, ?_⟩
  refine List.forall_mem_cons.mpr ⟨sn_iload_n dX1_pushByOvers_11 rfl rfl, ?_⟩
  refine List.forall_mem_cons.mpr ⟨sn_callV mCl_3 mt_30 rfl kt_645 kt_646 kt_647 dX1_pushByOvers_12 rfl, ?_⟩
  refine List.forall_mem_cons.mpr ⟨sn_astore_n dX1_pushByOvers_15 rfl rfl, ?_⟩
  refine List.forall_mem_cons.mpr ⟨sn_aload_n dX1_pushByOvers_16 rfl rfl, ?_⟩
  refine List.forall_mem_cons.mpr ⟨sn_ifnull dX1_pushByOvers_17 (by decide) rfl, ?_⟩
  refine List.forall_mem_cons.mpr ⟨sn_aload_n dX1_pushByOvers_20 rfl rfl, ?_⟩
  refine List.forall_mem_cons.mpr ⟨sn_callV mCl_2 mt_21 rfl kt_661 kt_662 kt_663 dX1_pushByOvers_21 rfl, ?_⟩
  refine List.forall_mem_cons.mpr ⟨sn_ifne dX1_pushByOvers_24 (by decide) rfl, ?_⟩
  refine List.forall_mem_cons.mpr ⟨sn_aload_n dX1_pushByOvers_27 rfl rfl, ?_⟩
  refine List.forall_mem_cons.mpr ⟨sn_geti mCl_2 (by decide) rfl kt_575 dX1_pushByOvers_28 rfl, ?_⟩
  refine List.forall_mem_cons.mpr ⟨sn_iflt dX1_pushByOvers_31 (by decide) rfl, ?_⟩
  refine List.forall_mem_cons.mpr ⟨sn_aload_n dX1_pushByOvers_34 rfl rfl, ?_⟩
  refine List.forall_mem_cons.mpr ⟨sn_geti mCl_2 (by decide) rfl kt_575 dX1_pushByOvers_35 rfl, ?_⟩
  refine List.forall_mem_cons.mpr ⟨sn_aload_n dX1_pushByOvers_38 rfl rfl, ?_⟩
  refine List.forall_mem_cons.mpr ⟨sn_geti mCl_1 (by decide) rfl kt_79 dX1_pushByOvers_39 rfl, ?_⟩
  refine List.forall_mem_cons.mpr ⟨sn_icmpge dX1_pushByOvers_42 (by decide) rfl, ?_⟩
  refine List.forall_mem_cons.mpr ⟨sn_aload_n dX1_pushByOvers_45 rfl rfl, ?_⟩
  refine List.forall_mem_cons.mpr ⟨sn_aload_n dX1_pushByOvers_46 rfl rfl, ?_⟩
  refine List.forall_mem_cons.mpr ⟨sn_aload_n dX1_pushByOvers_47 rfl rfl, ?_⟩
  refine List.forall_mem_cons.mpr ⟨sn_getr mCl_1 (by decide) rfl kt_80 dX1_pushByOvers_48 rfl, ?_⟩
  refine List.forall_mem_cons.mpr ⟨sn_aload_n dX1_pushByOvers_51 rfl rfl, ?_⟩
  refine List.forall_mem_cons.mpr ⟨sn_geti mCl_2 (by decide) rfl kt_575 dX1_pushByOvers_52 rfl, ?_⟩
  refine List.forall_mem_cons.mpr ⟨sn_raldA dX1_pushByOvers_55 rfl, ?_⟩
  refine List.forall_mem_cons.mpr ⟨sn_aload_n dX1_pushByOvers_56 rfl rfl, ?_⟩
  refine List.forall_mem_cons.mpr ⟨sn_callV mCl_1 mt_15 rfl kt_665 kt_667 kp_20 dX1_pushByOvers_57 rfl, ?_⟩
  refine List.forall_mem_cons.mpr ⟨sn_iinc dX1_pushByOvers_60 rfl, ?_⟩
  refine List.forall_mem_cons.mpr ⟨sn_goto dX1_pushByOvers_63 (by decide), ?_⟩
  refine List.forall_mem_cons.mpr ⟨sn_vret rfl dX1_pushByOvers_66, ?_⟩
  exact List.forall_mem_nil _
theorem sX1_pushByOver : ∀ q ∈ tX1_pushByOver, mSnd mInf iX1_pushByOver q.1 q.2 := by
  unfold tX1_pushByOver
  refine List.forall_mem_cons.mpr ⟨sn_aload_n dX1_pushByOver_0 rfl rfl, ?_⟩
  refine List.forall_mem_cons.mpr ⟨sn_geti mCl_2 (by decide) rfl kt_577 dX1_pushByOver_1 rfl, ?_⟩
  refine List.forall_mem_cons.mpr ⟨sn_istore dX1_pushByOver_4 rfl, ?_⟩
  refine List.forall_mem_cons.mpr ⟨sn_iload dX1_pushByOver_6 rfl, ?_⟩
  refine List.forall_mem_cons.mpr ⟨sn_iconst dX1_pushByOver_8 rfl ⟨by decide, by decide⟩, ?_⟩
  refine List.forall_mem_cons.mpr ⟨sn_icmplt dX1_pushByOver_9 (by decide) rfl, ?_⟩
  refine List.forall_mem_cons.mpr ⟨sn_iload dX1_pushByOver_12 rfl, ?_⟩
  refine List.forall_mem_cons.mpr ⟨sn_sipush dX1_pushByOver_14 rfl (by decide) ⟨by decide, by decide⟩, ?_⟩
  refine List.forall_mem_cons.mpr ⟨sn_icmpge dX1_pushByOver_17 (by decide) rfl, ?_⟩
  refine List.forall_mem_cons.mpr ⟨sn_aload_n dX1_pushByOver_20 rfl rfl, ?_⟩
  refine List.forall_mem_cons.mpr ⟨sn_alen dX1_pushByOver_21 rfl, ?_⟩
  refine List.forall_mem_cons.mpr ⟨sn_sipush dX1_pushByOver_22 rfl (by decide) ⟨by decide, by decide⟩, ?_⟩
  refine List.forall_mem_cons.mpr ⟨sn_icmpeq dX1_pushByOver_25 (by decide) rfl, ?_⟩
  refine List.forall_mem_cons.mpr ⟨sn_vret rfl dX1_pushByOver_28, ?_⟩
  refine List.forall_mem_cons.mpr ⟨sn_aload_n dX1_pushByOver_29 rfl rfl, ?_⟩
  refine List.forall_mem_cons.mpr ⟨sn_iload dX1_pushByOver_30 rfl, ?_⟩
  refine List.forall_mem_cons.mpr ⟨sn_iconst dX1_pushByOver_32 rfl ⟨by decide, by decide⟩, ?_⟩
  refine List.forall_mem_cons.mpr ⟨sn_isub dX1_pushByOver_33 rfl, ?_⟩
  refine List.forall_mem_cons.mpr ⟨sn_iald dX1_pushByOver_34 rfl, ?_⟩
  refine List.forall_mem_cons.mpr ⟨sn_istore dX1_pushByOver_35 rfl, ?_⟩
  refine List.forall_mem_cons.mpr ⟨sn_aload_n dX1_pushByOver_37 rfl rfl, ?_⟩
  refine List.forall_mem_cons.mpr ⟨sn_iload dX1_pushByOver_38 rfl, ?_⟩
  refine List.forall_mem_cons.mpr ⟨sn_callV mCl_3 mt_30 rfl kt_645 kt_646 kt_647 dX1_pushByOver_40 rfl, ?_⟩
  refine List.forall_mem_cons.mpr ⟨sn_astore dX1_pushByOver_43 rfl, ?_⟩
  refine List.forall_mem_cons.mpr ⟨sn_aload dX1_pushByOver_45 rfl, ?_⟩
  refine List.forall_mem_cons.mpr ⟨sn_ifnull dX1_pushByOver_47 (by decide) rfl, ?_⟩
  refine List.forall_mem_cons.mpr ⟨sn_aload dX1_pushByOver_50 rfl, ?_⟩
  refine List.forall_mem_cons.mpr ⟨sn_geti mCl_2 (by decide) rfl kt_587 dX1_pushByOver_52 rfl, ?_⟩
  refine List.forall_mem_cons.mpr ⟨sn_ifne dX1_pushByOver_55 (by decide) rfl, ?_⟩
  refine List.forall_mem_cons.mpr ⟨sn_vret rfl dX1_pushByOver_58, ?_⟩
  refine List.forall_mem_cons.mpr ⟨sn_aload_n dX1_pushByOver_59 rfl rfl, ?_⟩
  refine List.forall_mem_cons.mpr ⟨sn_iconst dX1_pushByOver_60 rfl ⟨by decide, by decide⟩, ?_⟩
  refine List.forall_mem_cons.mpr ⟨sn_aload_n dX1_pushByOver_61 rfl rfl, ?_⟩
  refine List.forall_mem_cons.mpr ⟨sn_getr mCl_1 (by decide) rfl kt_81 dX1_pushByOver_62 rfl, ?_⟩
  refine List.forall_mem_cons.mpr ⟨sn_iconst dX1_pushByOver_65 rfl ⟨by decide, by decide⟩, ?_⟩
  refine List.forall_mem_cons.mpr ⟨sn_sipush dX1_pushByOver_66 rfl (by decide) ⟨by decide, by decide⟩, ?_⟩
  refine List.forall_mem_cons.mpr ⟨sn_copy_at, ?_⟩
  refine List.forall_mem_cons.mpr ⟨sn_aload_n dX1_pushByOver_72 rfl rfl, ?_⟩
  refine List.forall_mem_cons.mpr ⟨sn_geti mCl_2 (by decide) rfl kt_579 dX1_pushByOver_73 rfl, ?_⟩
  refine List.forall_mem_cons.mpr ⟨sn_sipush dX1_pushByOver_76 rfl (by decide) ⟨by decide, by decide⟩, ?_⟩
  refine List.forall_mem_cons.mpr ⟨sn_min kt_631 kt_632 kt_14 kt_633 dX1_pushByOver_79 rfl, ?_⟩
  refine List.forall_mem_cons.mpr ⟨sn_istore dX1_pushByOver_82 rfl, ?_⟩
  refine List.forall_mem_cons.mpr ⟨sn_iload dX1_pushByOver_84 rfl, ?_⟩
  refine List.forall_mem_cons.mpr ⟨sn_istore dX1_pushByOver_86 rfl, ?_⟩
  refine List.forall_mem_cons.mpr ⟨sn_iload dX1_pushByOver_88 rfl, ?_⟩
  refine List.forall_mem_cons.mpr ⟨sn_iload dX1_pushByOver_90 rfl, ?_⟩
  refine List.forall_mem_cons.mpr ⟨sn_icmpge dX1_pushByOver_92 (by decide) rfl, ?_⟩
  refine List.forall_mem_cons.mpr ⟨sn_aload_n dX1_pushByOver_95 rfl rfl, ?_⟩
  refine List.forall_mem_cons.mpr ⟨sn_iload dX1_pushByOver_96 rfl, ?_⟩
  refine List.forall_mem_cons.mpr ⟨sn_iload dX1_pushByOver_98 rfl, ?_⟩
  refine List.forall_mem_cons.mpr ⟨sn_iast dX1_pushByOver_100 rfl, ?_⟩
  refine List.forall_mem_cons.mpr ⟨sn_iinc dX1_pushByOver_101 rfl, ?_⟩
  refine List.forall_mem_cons.mpr ⟨sn_goto dX1_pushByOver_104 (by decide), ?_⟩
  refine List.forall_mem_cons.mpr ⟨sn_aload_n dX1_pushByOver_107 rfl rfl, ?_⟩
  refine List.forall_mem_cons.mpr ⟨sn_geti mCl_2 (by decide) rfl kt_579 dX1_pushByOver_108 rfl, ?_⟩
  refine List.forall_mem_cons.mpr ⟨sn_iload dX1_pushByOver_111 rfl, ?_⟩
  refine List.forall_mem_cons.mpr ⟨sn_isub dX1_pushByOver_113 rfl, ?_⟩
  refine List.forall_mem_cons.mpr ⟨sn_istore dX1_pushByOver_114 rfl, ?_⟩
  refine List.forall_mem_cons.mpr ⟨sn_iload dX1_pushByOver_116 rfl, ?_⟩
  refine List.forall_mem_cons.mpr ⟨sn_istore dX1_pushByOver_118 rfl, ?_⟩
  refine List.forall_mem_cons.mpr ⟨sn_iload dX1_pushByOver_120 rfl, ?_⟩
  refine List.forall_mem_cons.mpr ⟨sn_sipush dX1_pushByOver_122 rfl (by decide) ⟨by decide, by decide⟩, ?_⟩
  refine List.forall_mem_cons.mpr ⟨sn_icmpge dX1_pushByOver_125 (by decide) rfl, ?_⟩
  refine List.forall_mem_cons.mpr ⟨sn_iload dX1_pushByOver_128 rfl, ?_⟩
  refine List.forall_mem_cons.mpr ⟨sn_ifle dX1_pushByOver_130 (by decide) rfl, ?_⟩
  refine List.forall_mem_cons.mpr ⟨sn_aload_n dX1_pushByOver_133 rfl rfl, ?_⟩
  refine List.forall_mem_cons.mpr ⟨sn_getr mCl_1 (by decide) rfl kt_81 dX1_pushByOver_134 rfl, ?_⟩
  refine List.forall_mem_cons.mpr ⟨sn_iload dX1_pushByOver_137 rfl, ?_⟩
  refine List.forall_mem_cons.mpr ⟨sn_iald dX1_pushByOver_139 rfl, ?_⟩
  refine List.forall_mem_cons.mpr ⟨sn_iconst dX1_pushByOver_140 rfl ⟨by decide, by decide⟩, ?_⟩
  refine List.forall_mem_cons.mpr ⟨sn_icmpne dX1_pushByOver_141 (by decide) rfl, ?_⟩
  refine List.forall_mem_cons.mpr ⟨sn_iinc dX1_pushByOver_144 rfl, ?_⟩
  refine List.forall_mem_cons.mpr ⟨sn_goto dX1_pushByOver_147 (by decide), ?_⟩
  refine List.forall_mem_cons.mpr ⟨sn_iload dX1_pushByOver_150 rfl, ?_⟩
  refine List.forall_mem_cons.mpr ⟨sn_iload dX1_pushByOver_152 rfl, ?_⟩
  refine List.forall_mem_cons.mpr ⟨sn_iadd dX1_pushByOver_154 rfl, ?_⟩
  refine List.forall_mem_cons.mpr ⟨sn_sipush dX1_pushByOver_155 rfl (by decide) ⟨by decide, by decide⟩, ?_⟩
  refine List.forall_mem_cons.mpr ⟨sn_icmpge dX1_pushByOver_158 (by decide) rfl, ?_⟩
  refine List.forall_mem_cons.mpr ⟨sn_aload_n dX1_pushByOver_161 rfl rfl, ?_⟩
  refine List.forall_mem_cons.mpr ⟨sn_iload dX1_pushByOver_162 rfl, ?_⟩
  refine List.forall_mem_cons.mpr ⟨sn_iload dX1_pushByOver_164 rfl, ?_⟩
  refine List.forall_mem_cons.mpr ⟨sn_iadd dX1_pushByOver_166 rfl, ?_⟩
  refine List.forall_mem_cons.mpr ⟨sn_aload_n dX1_pushByOver_167 rfl rfl, ?_⟩
  refine List.forall_mem_cons.mpr ⟨sn_getr mCl_1 (by decide) rfl kt_81 dX1_pushByOver_168 rfl, ?_⟩
  refine List.forall_mem_cons.mpr ⟨sn_iload dX1_pushByOver_171 rfl, ?_⟩
  refine List.forall_mem_cons.mpr ⟨sn_iald dX1_pushByOver_173 rfl, ?_⟩
  refine List.forall_mem_cons.mpr ⟨sn_iast dX1_pushByOver_174 rfl, ?_⟩
  refine List.forall_mem_cons.mpr ⟨sn_iinc dX1_pushByOver_175 rfl, ?_⟩
  refine List.forall_mem_cons.mpr ⟨sn_goto dX1_pushByOver_178 (by decide), ?_⟩
  refine List.forall_mem_cons.mpr ⟨sn_vret rfl dX1_pushByOver_181, ?_⟩
  exact List.forall_mem_nil _
theorem sX1_collectShowings : ∀ q ∈ tX1_collectShowings, mSnd mInf iX1_collectShowings q.1 q.2 := by
  unfold tX1_collectShowings
  refine List.forall_mem_cons.mpr ⟨sn_aload_n dX1_collectShowings_0 rfl rfl, ?_⟩
  refine List.forall_mem_cons.mpr ⟨sn_iconst dX1_collectShowings_1 rfl ⟨by decide, by decide⟩, ?_⟩
  refine List.forall_mem_cons.mpr ⟨sn_puti mCl_1 (by decide) rfl (Or.inl rfl) kt_74 dX1_collectShowings_2 rfl, ?_⟩
  refine List.forall_mem_cons.mpr ⟨sn_aload_n dX1_collectShowings_5 rfl rfl, ?_⟩
  refine List.forall_mem_cons.mpr ⟨sn_getr mCl_1 (by decide) rfl kt_83 dX1_collectShowings_6 rfl, ?_⟩
  refine List.forall_mem_cons.mpr ⟨sn_iconst dX1_collectShowings_9 rfl ⟨by decide, by decide⟩, ?_⟩
  refine List.forall_mem_cons.mpr ⟨sn_callS mt_183 kt_634 kt_635 dX1_collectShowings_10 rfl, ?_⟩
  refine List.forall_mem_cons.mpr ⟨sn_iconst dX1_collectShowings_13 rfl ⟨by decide, by decide⟩, ?_⟩
  refine List.forall_mem_cons.mpr ⟨sn_istore_n dX1_collectShowings_14 rfl rfl, ?_⟩
  refine List.forall_mem_cons.mpr ⟨sn_iload_n dX1_collectShowings_15 rfl rfl, ?_⟩
  refine List.forall_mem_cons.mpr ⟨sn_sipush dX1_collectShowings_16 rfl (by decide) ⟨by decide, by decide⟩, ?_⟩
  refine List.forall_mem_cons.mpr ⟨sn_icmpge dX1_collectShowings_19 (by decide) rfl, ?_⟩
  refine List.forall_mem_cons.mpr ⟨sn_iconst dX1_collectShowings_22 rfl ⟨by decide, by decide⟩, ?_⟩
  refine List.forall_mem_cons.mpr ⟨sn_istore_n dX1_collectShowings_23 rfl rfl, ?_⟩
  refine List.forall_mem_cons.mpr ⟨sn_iload_n dX1_collectShowings_24 rfl rfl, ?_⟩
  refine List.forall_mem_cons.mpr ⟨sn_aload_n dX1_collectShowings_25 rfl rfl, ?_⟩
  refine List.forall_mem_cons.mpr ⟨sn_geti mCl_1 (by decide) rfl kt_79 dX1_collectShowings_26 rfl, ?_⟩
  refine List.forall_mem_cons.mpr ⟨sn_icmpge dX1_collectShowings_29 (by decide) rfl, ?_⟩
  refine List.forall_mem_cons.mpr ⟨sn_aload_n dX1_collectShowings_32 rfl rfl, ?_⟩
  refine List.forall_mem_cons.mpr ⟨sn_getr mCl_1 (by decide) rfl kt_80 dX1_collectShowings_33 rfl, ?_⟩
  refine List.forall_mem_cons.mpr ⟨sn_iload_n dX1_collectShowings_36 rfl rfl, ?_⟩
  refine List.forall_mem_cons.mpr ⟨sn_raldA dX1_collectShowings_37 rfl, ?_⟩
  refine List.forall_mem_cons.mpr ⟨sn_iload_n dX1_collectShowings_38 rfl rfl, ?_⟩
  refine List.forall_mem_cons.mpr ⟨sn_iald dX1_collectShowings_39 rfl, ?_⟩
  refine List.forall_mem_cons.mpr ⟨sn_istore dX1_collectShowings_40 rfl, ?_⟩
  refine List.forall_mem_cons.mpr ⟨sn_iload dX1_collectShowings_42 rfl, ?_⟩
  refine List.forall_mem_cons.mpr ⟨sn_iconst dX1_collectShowings_44 rfl ⟨by decide, by decide⟩, ?_⟩
  refine List.forall_mem_cons.mpr ⟨sn_icmpeq dX1_collectShowings_45 (by decide) rfl, ?_⟩
  refine List.forall_mem_cons.mpr ⟨sn_iload_n dX1_collectShowings_48 rfl rfl, ?_⟩
  refine List.forall_mem_cons.mpr ⟨sn_ifeq dX1_collectShowings_49 (by decide) rfl, ?_⟩
  refine List.forall_mem_cons.mpr ⟨sn_aload_n dX1_collectShowings_52 rfl rfl, ?_⟩
  refine List.forall_mem_cons.mpr ⟨sn_getr mCl_1 (by decide) rfl kt_80 dX1_collectShowings_53 rfl, ?_⟩
  refine List.forall_mem_cons.mpr ⟨sn_iload_n dX1_collectShowings_56 rfl rfl, ?_⟩
  refine List.forall_mem_cons.mpr ⟨sn_raldA dX1_collectShowings_57 rfl, ?_⟩
  refine List.forall_mem_cons.mpr ⟨sn_iload_n dX1_collectShowings_58 rfl rfl, ?_⟩
  refine List.forall_mem_cons.mpr ⟨sn_iconst dX1_collectShowings_59 rfl ⟨by decide, by decide⟩, ?_⟩
  refine List.forall_mem_cons.mpr ⟨sn_isub dX1_collectShowings_60 rfl, ?_⟩
  refine List.forall_mem_cons.mpr ⟨sn_iald dX1_collectShowings_61 rfl, ?_⟩
  refine List.forall_mem_cons.mpr ⟨sn_iload dX1_collectShowings_62 rfl, ?_⟩
  refine List.forall_mem_cons.mpr ⟨sn_icmpeq dX1_collectShowings_64 (by decide) rfl, ?_⟩
  refine List.forall_mem_cons.mpr ⟨sn_aload_n dX1_collectShowings_67 rfl rfl, ?_⟩
  refine List.forall_mem_cons.mpr ⟨sn_iload dX1_collectShowings_68 rfl, ?_⟩
  refine List.forall_mem_cons.mpr ⟨sn_aload_n dX1_collectShowings_70 rfl rfl, ?_⟩
  refine List.forall_mem_cons.mpr ⟨sn_iload dX1_collectShowings_71 rfl, ?_⟩
  refine List.forall_mem_cons.mpr ⟨sn_callV mCl_3 mt_30 rfl kt_645 kt_646 kt_647 dX1_collectShowings_73 rfl, ?_⟩
  refine List.forall_mem_cons.mpr ⟨sn_iload_n dX1_collectShowings_76 rfl rfl, ?_⟩
  refine List.forall_mem_cons.mpr ⟨sn_aload_n dX1_collectShowings_77 rfl rfl, ?_⟩
  refine List.forall_mem_cons.mpr ⟨sn_getr mCl_1 (by decide) rfl kt_80 dX1_collectShowings_78 rfl, ?_⟩
  refine List.forall_mem_cons.mpr ⟨sn_iload_n dX1_collectShowings_81 rfl rfl, ?_⟩
  refine List.forall_mem_cons.mpr ⟨sn_raldA dX1_collectShowings_82 rfl, ?_⟩
  refine List.forall_mem_cons.mpr ⟨sn_iload_n dX1_collectShowings_83 rfl rfl, ?_⟩
  refine List.forall_mem_cons.mpr ⟨sn_callS mt_17 kt_676 kt_677 dX1_collectShowings_84 rfl, ?_⟩
  refine List.forall_mem_cons.mpr ⟨sn_callV mCl_1 mt_18 rfl kt_679 kt_681 kp_22 dX1_collectShowings_87 rfl, ?_⟩
  refine List.forall_mem_cons.mpr ⟨sn_iinc dX1_collectShowings_90 rfl, ?_⟩
  refine List.forall_mem_cons.mpr ⟨sn_goto dX1_collectShowings_93 (by decide), ?_⟩
  refine List.forall_mem_cons.mpr ⟨sn_iinc dX1_collectShowings_96 rfl, ?_⟩
  refine List.forall_mem_cons.mpr ⟨sn_goto dX1_collectShowings_99 (by decide), ?_⟩
  refine List.forall_mem_cons.mpr ⟨sn_vret rfl dX1_collectShowings_102, ?_⟩
  exact List.forall_mem_nil _
theorem sX1_endOfRun : ∀ q ∈ tX1_endOfRun, mSnd mInf iX1_endOfRun q.1 q.2 := by
  unfold tX1_endOfRun
  refine List.forall_mem_cons.mpr ⟨sn_iload_n dX1_endOfRun_0 rfl rfl, ?_⟩
  refine List.forall_mem_cons.mpr ⟨sn_iconst dX1_endOfRun_1 rfl ⟨by decide, by decide⟩, ?_⟩
  refine List.forall_mem_cons.mpr ⟨sn_iadd dX1_endOfRun_2 rfl, ?_⟩
  refine List.forall_mem_cons.mpr ⟨sn_istore_n dX1_endOfRun_3 rfl rfl, ?_⟩
  refine List.forall_mem_cons.mpr ⟨sn_iload_n dX1_endOfRun_4 rfl rfl, ?_⟩
  refine List.forall_mem_cons.mpr ⟨sn_aload_n dX1_endOfRun_5 rfl rfl, ?_⟩
  refine List.forall_mem_cons.mpr ⟨sn_alen dX1_endOfRun_6 rfl, ?_⟩
  refine List.forall_mem_cons.mpr ⟨sn_icmpge dX1_endOfRun_7 (by decide) rfl, ?_⟩
  refine List.forall_mem_cons.mpr ⟨sn_aload_n dX1_endOfRun_10 rfl rfl, ?_⟩
  refine List.forall_mem_cons.mpr ⟨sn_iload_n dX1_endOfRun_11 rfl rfl, ?_⟩
  refine List.forall_mem_cons.mpr ⟨sn_iald dX1_endOfRun_12 rfl, ?_⟩
  refine List.forall_mem_cons.mpr ⟨sn_aload_n dX1_endOfRun_13 rfl rfl, ?_⟩
  refine List.forall_mem_cons.mpr ⟨sn_iload_n dX1_endOfRun_14 rfl rfl, ?_⟩
  refine List.forall_mem_cons.mpr ⟨sn_iald dX1_endOfRun_15 rfl, ?_⟩
  refine List.forall_mem_cons.mpr ⟨sn_icmpeq dX1_endOfRun_16 (by decide) rfl, ?_⟩
  refine List.forall_mem_cons.mpr ⟨sn_iload_n dX1_endOfRun_19 rfl rfl, ?_⟩
  refine List.forall_mem_cons.mpr ⟨sn_iret rfl dX1_endOfRun_20, ?_⟩
  refine List.forall_mem_cons.mpr ⟨sn_iinc dX1_endOfRun_21 rfl, ?_⟩
  refine List.forall_mem_cons.mpr ⟨sn_goto dX1_endOfRun_24 (by decide), ?_⟩
  refine List.forall_mem_cons.mpr ⟨sn_aload_n dX1_endOfRun_27 rfl rfl, ?_⟩
  refine List.forall_mem_cons.mpr ⟨sn_alen dX1_endOfRun_28 rfl, ?_⟩
  refine List.forall_mem_cons.mpr ⟨sn_iret rfl dX1_endOfRun_29, ?_⟩
  exact List.forall_mem_nil _
theorem sX1_addShowing : ∀ q ∈ tX1_addShowing, mSnd mInf iX1_addShowing q.1 q.2 := by
  unfold tX1_addShowing
  refine List.forall_mem_cons.mpr ⟨sn_aload_n dX1_addShowing_0 rfl rfl, ?_⟩
  refine List.forall_mem_cons.mpr ⟨sn_ifnull dX1_addShowing_1 (by decide) rfl, ?_⟩
  refine List.forall_mem_cons.mpr ⟨sn_aload_n dX1_addShowing_4 rfl rfl, ?_⟩
  refine List.forall_mem_cons.mpr ⟨sn_geti mCl_1 (by decide) rfl kt_74 dX1_addShowing_5 rfl, ?_⟩
  refine List.forall_mem_cons.mpr ⟨sn_aload_n dX1_addShowing_8 rfl rfl, ?_⟩
  refine List.forall_mem_cons.mpr ⟨sn_getr mCl_1 (by decide) rfl kt_82 dX1_addShowing_9 rfl, ?_⟩
  refine List.forall_mem_cons.mpr ⟨sn_alen dX1_addShowing_12 rfl, ?_⟩
  refine List.forall_mem_cons.mpr ⟨sn_icmplt dX1_addShowing_13 (by decide) rfl, ?_⟩
  refine List.forall_mem_cons.mpr ⟨sn_vret rfl dX1_addShowing_16, ?_⟩
  refine List.forall_mem_cons.mpr ⟨sn_aload_n dX1_addShowing_17 rfl rfl, ?_⟩
  refine List.forall_mem_cons.mpr ⟨sn_getr mCl_1 (by decide) rfl kt_82 dX1_addShowing_18 rfl, ?_⟩
  refine List.forall_mem_cons.mpr ⟨sn_aload_n dX1_addShowing_21 rfl rfl, ?_⟩
  refine List.forall_mem_cons.mpr ⟨sn_geti mCl_1 (by decide) rfl kt_74 dX1_addShowing_22 rfl, ?_⟩
  refine List.forall_mem_cons.mpr ⟨sn_rald (t0 := 6) ⟨by decide, by decide⟩ (fun _ => rfl) dX1_addShowing_25 rfl, ?_⟩
  refine List.forall_mem_cons.mpr ⟨sn_ifnonnull dX1_addShowing_26 (by decide) rfl, ?_⟩
  refine List.forall_mem_cons.mpr ⟨sn_aload_n dX1_addShowing_29 rfl rfl, ?_⟩
  refine List.forall_mem_cons.mpr ⟨sn_getr mCl_1 (by decide) rfl kt_82 dX1_addShowing_30 rfl, ?_⟩
  refine List.forall_mem_cons.mpr ⟨sn_aload_n dX1_addShowing_33 rfl rfl, ?_⟩
  refine List.forall_mem_cons.mpr ⟨sn_geti mCl_1 (by decide) rfl kt_74 dX1_addShowing_34 rfl, ?_⟩
  refine List.forall_mem_cons.mpr ⟨sn_new mCl_6 mDf_6 kt_72 kt_683 kt_19 dX1_addShowing_37 rfl, ?_⟩
  refine List.forall_mem_cons.mpr ⟨sn_dup dX1_addShowing_40 rfl, ?_⟩
  refine List.forall_mem_cons.mpr ⟨sn_callIN mCl_6 mt_55 rfl rfl (by decide) kt_685 dX1_addShowing_41 rfl, ?_⟩
  refine List.forall_mem_cons.mpr ⟨sn_rast mCl_6 (t0 := 6) ⟨by decide, by decide⟩ (fun _ => rfl) dX1_addShowing_44 rfl, ?_⟩
  refine List.forall_mem_cons.mpr ⟨sn_aload_n dX1_addShowing_45 rfl rfl, ?_⟩
  refine List.forall_mem_cons.mpr ⟨sn_getr mCl_1 (by decide) rfl kt_82 dX1_addShowing_46 rfl, ?_⟩
  refine List.forall_mem_cons.mpr ⟨sn_aload_n dX1_addShowing_49 rfl rfl, ?_⟩
  refine List.forall_mem_cons.mpr ⟨sn_geti mCl_1 (by decide) rfl kt_74 dX1_addShowing_50 rfl, ?_⟩
  refine List.forall_mem_cons.mpr ⟨sn_rald (t0 := 6) ⟨by decide, by decide⟩ (fun _ => rfl) dX1_addShowing_53 rfl, ?_⟩
  refine List.forall_mem_cons.mpr ⟨sn_astore dX1_addShowing_54 rfl, ?_⟩
  refine List.forall_mem_cons.mpr ⟨sn_aload dX1_addShowing_56 rfl, ?_⟩
  refine List.forall_mem_cons.mpr ⟨sn_aload_n dX1_addShowing_58 rfl rfl, ?_⟩
  refine List.forall_mem_cons.mpr ⟨sn_geti mCl_1 (by decide) rfl kt_74 dX1_addShowing_59 rfl, ?_⟩
  refine List.forall_mem_cons.mpr ⟨sn_iload_n dX1_addShowing_62 rfl rfl, ?_⟩
  refine List.forall_mem_cons.mpr ⟨sn_aload_n dX1_addShowing_63 rfl rfl, ?_⟩
  refine List.forall_mem_cons.mpr ⟨sn_iload_n dX1_addShowing_64 rfl rfl, ?_⟩
  refine List.forall_mem_cons.mpr ⟨sn_iload dX1_addShowing_65 rfl, ?_⟩
  refine List.forall_mem_cons.mpr ⟨sn_callV mCl_6 mt_56 rfl kt_745 kt_746 kt_747 dX1_addShowing_67 rfl, ?_⟩
  refine List.forall_mem_cons.mpr ⟨sn_aload dX1_addShowing_70 rfl, ?_⟩
  refine List.forall_mem_cons.mpr ⟨sn_aload_n dX1_addShowing_72 rfl rfl, ?_⟩
  refine List.forall_mem_cons.mpr ⟨sn_aload dX1_addShowing_73 rfl, ?_⟩
  refine List.forall_mem_cons.mpr ⟨sn_callV mCl_1 mt_19 rfl kt_753 kt_755 kp_23 dX1_addShowing_75 rfl, ?_⟩
  refine List.forall_mem_cons.mpr ⟨sn_puti mCl_6 (by decide) rfl (Or.inl rfl) kt_722 dX1_addShowing_78 rfl, ?_⟩
  refine List.forall_mem_cons.mpr ⟨sn_aload_n dX1_addShowing_81 rfl rfl, ?_⟩
  refine List.forall_mem_cons.mpr ⟨sn_dup dX1_addShowing_82 rfl, ?_⟩
  refine List.forall_mem_cons.mpr ⟨sn_geti mCl_1 (by decide) rfl kt_74 dX1_addShowing_83 rfl, ?_⟩
  refine List.forall_mem_cons.mpr ⟨sn_iconst dX1_addShowing_86 rfl ⟨by decide, by decide⟩, ?_⟩
  refine List.forall_mem_cons.mpr ⟨sn_iadd dX1_addShowing_87 rfl, ?_⟩
  refine List.forall_mem_cons.mpr ⟨sn_puti mCl_1 (by decide) rfl (Or.inl rfl) kt_74 dX1_addShowing_88 rfl, ?_⟩
  refine List.forall_mem_cons.mpr ⟨sn_vret rfl dX1_addShowing_91, ?_⟩
  exact List.forall_mem_nil _
theorem sX1_leastOneOf : ∀ q ∈ tX1_leastOneOf, mSnd mInf iX1_leastOneOf q.1 q.2 := by
  unfold tX1_leastOneOf
  refine List.forall_mem_cons.mpr ⟨sn_aload_n dX1_leastOneOf_0 rfl rfl, ?_⟩
  refine List.forall_mem_cons.mpr ⟨sn_geti mCl_6 (by decide) rfl kt_709 dX1_leastOneOf_1 rfl, ?_⟩
  refine List.forall_mem_cons.mpr ⟨sn_bipush dX1_leastOneOf_4 rfl (by decide) ⟨by decide, by decide⟩, ?_⟩
  refine List.forall_mem_cons.mpr ⟨sn_imul dX1_leastOneOf_6 rfl, ?_⟩
  refine List.forall_mem_cons.mpr ⟨sn_aload_n dX1_leastOneOf_7 rfl rfl, ?_⟩
  refine List.forall_mem_cons.mpr ⟨sn_geti mCl_6 (by decide) rfl kt_714 dX1_leastOneOf_8 rfl, ?_⟩
  refine List.forall_mem_cons.mpr ⟨sn_iadd dX1_leastOneOf_11 rfl, ?_⟩
  refine List.forall_mem_cons.mpr ⟨sn_istore_n dX1_leastOneOf_12 rfl rfl, ?_⟩
  refine List.forall_mem_cons.mpr ⟨sn_aload_n dX1_leastOneOf_13 rfl rfl, ?_⟩
  refine List.forall_mem_cons.mpr ⟨sn_geti mCl_6 (by decide) rfl kt_714 dX1_leastOneOf_14 rfl, ?_⟩
  refine List.forall_mem_cons.mpr ⟨sn_ifeq dX1_leastOneOf_17 (by decide) rfl, ?_⟩
  refine List.forall_mem_cons.mpr ⟨sn_iload_n dX1_leastOneOf_20 rfl rfl, ?_⟩
  refine List.forall_mem_cons.mpr ⟨sn_iflt dX1_leastOneOf_21 (by decide) rfl, ?_⟩
  refine List.forall_mem_cons.mpr ⟨sn_iload_n dX1_leastOneOf_24 rfl rfl, ?_⟩
  refine List.forall_mem_cons.mpr ⟨sn_aload_n dX1_leastOneOf_25 rfl rfl, ?_⟩
  refine List.forall_mem_cons.mpr ⟨sn_getr mCl_1 (by decide) rfl kt_83 dX1_leastOneOf_26 rfl, ?_⟩
  refine List.forall_mem_cons.mpr ⟨sn_alen dX1_leastOneOf_29 rfl, ?_⟩
  refine List.forall_mem_cons.mpr ⟨sn_icmplt dX1_leastOneOf_30 (by decide) rfl, ?_⟩
  refine List.forall_mem_cons.mpr ⟨sn_aload_n dX1_leastOneOf_33 rfl rfl, ?_⟩
  refine List.forall_mem_cons.mpr ⟨sn_geti mCl_6 (by decide) rfl kt_690 dX1_leastOneOf_34 rfl, ?_⟩
  refine List.forall_mem_cons.mpr ⟨sn_iret rfl dX1_leastOneOf_37, ?_⟩
  refine List.forall_mem_cons.mpr ⟨sn_aload_n dX1_leastOneOf_38 rfl rfl, ?_⟩
  refine List.forall_mem_cons.mpr ⟨sn_getr mCl_1 (by decide) rfl kt_83 dX1_leastOneOf_39 rfl, ?_⟩
  refine List.forall_mem_cons.mpr ⟨sn_iload_n dX1_leastOneOf_42 rfl rfl, ?_⟩
  refine List.forall_mem_cons.mpr ⟨sn_iald dX1_leastOneOf_43 rfl, ?_⟩
  refine List.forall_mem_cons.mpr ⟨sn_iconst dX1_leastOneOf_44 rfl ⟨by decide, by decide⟩, ?_⟩
  refine List.forall_mem_cons.mpr ⟨sn_icmpne dX1_leastOneOf_45 (by decide) rfl, ?_⟩
  refine List.forall_mem_cons.mpr ⟨sn_aload_n dX1_leastOneOf_48 rfl rfl, ?_⟩
  refine List.forall_mem_cons.mpr ⟨sn_getr mCl_1 (by decide) rfl kt_83 dX1_leastOneOf_49 rfl, ?_⟩
  refine List.forall_mem_cons.mpr ⟨sn_iload_n dX1_leastOneOf_52 rfl rfl, ?_⟩
  refine List.forall_mem_cons.mpr ⟨sn_aload_n dX1_leastOneOf_53 rfl rfl, ?_⟩
  refine List.forall_mem_cons.mpr ⟨sn_geti mCl_6 (by decide) rfl kt_690 dX1_leastOneOf_54 rfl, ?_⟩
  refine List.forall_mem_cons.mpr ⟨sn_iast dX1_leastOneOf_57 rfl, ?_⟩
  refine List.forall_mem_cons.mpr ⟨sn_aload_n dX1_leastOneOf_58 rfl rfl, ?_⟩
  refine List.forall_mem_cons.mpr ⟨sn_getr mCl_1 (by decide) rfl kt_83 dX1_leastOneOf_59 rfl, ?_⟩
  refine List.forall_mem_cons.mpr ⟨sn_iload_n dX1_leastOneOf_62 rfl rfl, ?_⟩
  refine List.forall_mem_cons.mpr ⟨sn_iald dX1_leastOneOf_63 rfl, ?_⟩
  refine List.forall_mem_cons.mpr ⟨sn_iret rfl dX1_leastOneOf_64, ?_⟩
  exact List.forall_mem_nil _
