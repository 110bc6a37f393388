theorem sX3_init : ∀ q ∈ tX3_init, mSnd mInf iX3_init q.1 q.2 := by
  unfold tX3_init
  refine List.forall_mem_cons.mpr ⟨sn_aload_n dX3_init_0 rfl rfl, ?_⟩
  refine List.forall_mem_cons.mpr ⟨sn_objinit kt_35 kt_28 kt_29 dX3_init_1 rfl, ?_⟩
  refine List.forall_mem_cons.mpr ⟨sn_aload_n dX3_init_4 rfl rfl, ?_⟩
  refine List.forall_mem_cons.mpr ⟨sn_iconst dX3_init_5 rfl ⟨by decide, by decide⟩, ?_⟩
  refine List.forall_mem_cons.mpr ⟨sn_puti mCl_3 (by decide) rfl (Or.inl rfl) kt_40 dX3_init_6 rfl, ?_⟩
  refine List.forall_mem_cons.mpr ⟨sn_aload_n dX3_init_9 rfl rfl, ?_⟩
  refine List.forall_mem_cons.mpr ⟨sn_iconst dX3_init_10 rfl ⟨by decide, by decide⟩, ?_⟩
  refine List.forall_mem_cons.mpr ⟨sn_puti mCl_3 (by decide) rfl (Or.inl rfl) kt_43 dX3_init_11 rfl, ?_⟩
  refine List.forall_mem_cons.mpr ⟨sn_aload_n dX3_init_14 rfl rfl, ?_⟩
  refine List.forall_mem_cons.mpr ⟨sn_iconst dX3_init_15 rfl ⟨by decide, by decide⟩, ?_⟩
  refine List.forall_mem_cons.mpr ⟨sn_puti mCl_3 (by decide) rfl (Or.inl rfl) kt_46 dX3_init_16 rfl, ?_⟩
  refine List.forall_mem_cons.mpr ⟨sn_aload_n dX3_init_19 rfl rfl, ?_⟩
  refine List.forall_mem_cons.mpr ⟨sn_bipush dX3_init_20 rfl (by decide) ⟨by decide, by decide⟩, ?_⟩
  refine List.forall_mem_cons.mpr ⟨sn_newr (t0 := 7) ⟨by decide, by decide⟩ (fun _ => rfl) (by decide) kt_36 dX3_init_22 rfl, ?_⟩
  refine List.forall_mem_cons.mpr ⟨sn_putr mCl_3 (by decide) rfl (Or.inr ⟨rfl, rfl, rfl⟩) kt_48 dX3_init_25 rfl, ?_⟩
  refine List.forall_mem_cons.mpr ⟨sn_aload_n dX3_init_28 rfl rfl, ?_⟩
  refine List.forall_mem_cons.mpr ⟨sn_bipush dX3_init_29 rfl (by decide) ⟨by decide, by decide⟩, ?_⟩
  refine List.forall_mem_cons.mpr ⟨sn_newr (t0 := 7) ⟨by decide, by decide⟩ (fun _ => rfl) (by decide) kt_36 dX3_init_31 rfl, ?_⟩
  refine List.forall_mem_cons.mpr ⟨sn_putr mCl_3 (by decide) rfl (Or.inr ⟨rfl, rfl, rfl⟩) kt_49 dX3_init_34 rfl, ?_⟩
  refine List.forall_mem_cons.mpr ⟨sn_aload_n dX3_init_37 rfl rfl, ?_⟩
  refine List.forall_mem_cons.mpr ⟨sn_sipush dX3_init_38 rfl (by decide) ⟨by decide, by decide⟩, ?_⟩
  refine List.forall_mem_cons.mpr ⟨sn_newr (t0 := 5) ⟨by decide, by decide⟩ (fun _ => rfl) (by decide) kt_38 dX3_init_41 rfl, ?_⟩
  refine List.forall_mem_cons.mpr ⟨sn_putr mCl_3 (by decide) rfl (Or.inr ⟨rfl, rfl, rfl⟩) kt_50 dX3_init_44 rfl, ?_⟩
  refine List.forall_mem_cons.mpr ⟨sn_vret rfl dX3_init_47, ?_⟩
  exact List.forall_mem_nil _
theorem sX3_hasChannel : ∀ q ∈ tX3_hasChannel, mSnd mInf iX3_hasChannel q.1 q.2 := by
  unfold tX3_hasChannel
  refine List.forall_mem_cons.mpr ⟨sn_iload_n dX3_hasChannel_0 rfl rfl, ?_⟩
  refine List.forall_mem_cons.mpr ⟨sn_iflt dX3_hasChannel_1 (by decide) rfl, ?_⟩
  refine List.forall_mem_cons.mpr ⟨sn_iload_n dX3_hasChannel_4 rfl rfl, ?_⟩
  refine List.forall_mem_cons.mpr ⟨sn_aload_n dX3_hasChannel_5 rfl rfl, ?_⟩
  refine List.forall_mem_cons.mpr ⟨sn_geti mCl_3 (by decide) rfl kt_40 dX3_hasChannel_6 rfl, ?_⟩
  refine List.forall_mem_cons.mpr ⟨sn_icmpge dX3_hasChannel_9 (by decide) rfl, ?_⟩
  refine List.forall_mem_cons.mpr ⟨sn_iconst dX3_hasChannel_12 rfl ⟨by decide, by decide⟩, ?_⟩
  refine List.forall_mem_cons.mpr ⟨sn_goto dX3_hasChannel_13 (by decide), ?_⟩
  refine List.forall_mem_cons.mpr ⟨sn_iconst dX3_hasChannel_16 rfl ⟨by decide, by decide⟩, ?_⟩
  refine List.forall_mem_cons.mpr ⟨sn_zret rfl dX3_hasChannel_17, ?_⟩
  exact List.forall_mem_nil _
theorem sX3_isKnown : ∀ q ∈ tX3_isKnown, mSnd mInf iX3_isKnown q.1 q.2 := by
  unfold tX3_isKnown
  refine List.forall_mem_cons.mpr ⟨sn_iload_n dX3_isKnown_0 rfl rfl, ?_⟩
  refine List.forall_mem_cons.mpr ⟨sn_iflt dX3_isKnown_1 (by decide) rfl, ?_⟩
  refine List.forall_mem_cons.mpr ⟨sn_iload_n dX3_isKnown_4 rfl rfl, ?_⟩
  refine List.forall_mem_cons.mpr ⟨sn_aload_n dX3_isKnown_5 rfl rfl, ?_⟩
  refine List.forall_mem_cons.mpr ⟨sn_geti mCl_3 (by decide) rfl kt_46 dX3_isKnown_6 rfl, ?_⟩
  refine List.forall_mem_cons.mpr ⟨sn_icmpgt dX3_isKnown_9 (by decide) rfl, ?_⟩
  refine List.forall_mem_cons.mpr ⟨sn_iconst dX3_isKnown_12 rfl ⟨by decide, by decide⟩, ?_⟩
  refine List.forall_mem_cons.mpr ⟨sn_goto dX3_isKnown_13 (by decide), ?_⟩
  refine List.forall_mem_cons.mpr ⟨sn_iconst dX3_isKnown_16 rfl ⟨by decide, by decide⟩, ?_⟩
  refine List.forall_mem_cons.mpr ⟨sn_zret rfl dX3_isKnown_17, ?_⟩
  exact List.forall_mem_nil _
theorem sX3_sourceAt : ∀ q ∈ tX3_sourceAt, mSnd mInf iX3_sourceAt q.1 q.2 := by
  unfold tX3_sourceAt
  refine List.forall_mem_cons.mpr ⟨sn_iload_n dX3_sourceAt_0 rfl rfl, ?_⟩
  refine List.forall_mem_cons.mpr ⟨sn_iflt dX3_sourceAt_1 (by decide) rfl, ?_⟩
  refine List.forall_mem_cons.mpr ⟨sn_iload_n dX3_sourceAt_4 rfl rfl, ?_⟩
  refine List.forall_mem_cons.mpr ⟨sn_aload_n dX3_sourceAt_5 rfl rfl, ?_⟩
  refine List.forall_mem_cons.mpr ⟨sn_geti mCl_3 (by decide) rfl kt_43 dX3_sourceAt_6 rfl, ?_⟩
  refine List.forall_mem_cons.mpr ⟨sn_icmpge dX3_sourceAt_9 (by decide) rfl, ?_⟩
  refine List.forall_mem_cons.mpr ⟨sn_iload_n dX3_sourceAt_12 rfl rfl, ?_⟩
  refine List.forall_mem_cons.mpr ⟨sn_aload_n dX3_sourceAt_13 rfl rfl, ?_⟩
  refine List.forall_mem_cons.mpr ⟨sn_getr mCl_3 (by decide) rfl kt_48 dX3_sourceAt_14 rfl, ?_⟩
  refine List.forall_mem_cons.mpr ⟨sn_alen dX3_sourceAt_17 rfl, ?_⟩
  refine List.forall_mem_cons.mpr ⟨sn_icmpge dX3_sourceAt_18 (by decide) rfl, ?_⟩
  refine List.forall_mem_cons.mpr ⟨sn_aload_n dX3_sourceAt_21 rfl rfl, ?_⟩
  refine List.forall_mem_cons.mpr ⟨sn_getr mCl_3 (by decide) rfl kt_48 dX3_sourceAt_22 rfl, ?_⟩
  refine List.forall_mem_cons.mpr ⟨sn_iload_n dX3_sourceAt_25 rfl rfl, ?_⟩
  refine List.forall_mem_cons.mpr ⟨sn_rald (t0 := 7) ⟨by decide, by decide⟩ (fun _ => rfl) dX3_sourceAt_26 rfl, ?_⟩
  refine List.forall_mem_cons.mpr ⟨sn_goto dX3_sourceAt_27 (by decide), ?_⟩
  refine List.forall_mem_cons.mpr ⟨sn_null dX3_sourceAt_30 rfl, ?_⟩
  refine List.forall_mem_cons.mpr ⟨sn_aret rfl dX3_sourceAt_31, ?_⟩
  exact List.forall_mem_nil _
theorem sX3_rankedAt : ∀ q ∈ tX3_rankedAt, mSnd mInf iX3_rankedAt q.1 q.2 := by
  unfold tX3_rankedAt
  refine List.forall_mem_cons.mpr ⟨sn_iload_n dX3_rankedAt_0 rfl rfl, ?_⟩
  refine List.forall_mem_cons.mpr ⟨sn_iflt dX3_rankedAt_1 (by decide) rfl, ?_⟩
  refine List.forall_mem_cons.mpr ⟨sn_iload_n dX3_rankedAt_4 rfl rfl, ?_⟩
  refine List.forall_mem_cons.mpr ⟨sn_aload_n dX3_rankedAt_5 rfl rfl, ?_⟩
  refine List.forall_mem_cons.mpr ⟨sn_geti mCl_3 (by decide) rfl kt_43 dX3_rankedAt_6 rfl, ?_⟩
  refine List.forall_mem_cons.mpr ⟨sn_icmpge dX3_rankedAt_9 (by decide) rfl, ?_⟩
  refine List.forall_mem_cons.mpr ⟨sn_iload_n dX3_rankedAt_12 rfl rfl, ?_⟩
  refine List.forall_mem_cons.mpr ⟨sn_aload_n dX3_rankedAt_13 rfl rfl, ?_⟩
  refine List.forall_mem_cons.mpr ⟨sn_getr mCl_3 (by decide) rfl kt_49 dX3_rankedAt_14 rfl, ?_⟩
  refine List.forall_mem_cons.mpr ⟨sn_alen dX3_rankedAt_17 rfl, ?_⟩
  refine List.forall_mem_cons.mpr ⟨sn_icmpge dX3_rankedAt_18 (by decide) rfl, ?_⟩
  refine List.forall_mem_cons.mpr ⟨sn_aload_n dX3_rankedAt_21 rfl rfl, ?_⟩
  refine List.forall_mem_cons.mpr ⟨sn_getr mCl_3 (by decide) rfl kt_49 dX3_rankedAt_22 rfl, ?_⟩
  refine List.forall_mem_cons.mpr ⟨sn_iload_n dX3_rankedAt_25 rfl rfl, ?_⟩
  refine List.forall_mem_cons.mpr ⟨sn_rald (t0 := 7) ⟨by decide, by decide⟩ (fun _ => rfl) dX3_rankedAt_26 rfl, ?_⟩
  refine List.forall_mem_cons.mpr ⟨sn_goto dX3_rankedAt_27 (by decide), ?_⟩
  refine List.forall_mem_cons.mpr ⟨sn_null dX3_rankedAt_30 rfl, ?_⟩
  refine List.forall_mem_cons.mpr ⟨sn_aret rfl dX3_rankedAt_31, ?_⟩
  exact List.forall_mem_nil _
theorem sX3_factAt : ∀ q ∈ tX3_factAt, mSnd mInf iX3_factAt q.1 q.2 := by
  unfold tX3_factAt
  refine List.forall_mem_cons.mpr ⟨sn_iload_n dX3_factAt_0 rfl rfl, ?_⟩
  refine List.forall_mem_cons.mpr ⟨sn_iflt dX3_factAt_1 (by decide) rfl, ?_⟩
  refine List.forall_mem_cons.mpr ⟨sn_iload_n dX3_factAt_4 rfl rfl, ?_⟩
  refine List.forall_mem_cons.mpr ⟨sn_aload_n dX3_factAt_5 rfl rfl, ?_⟩
  refine List.forall_mem_cons.mpr ⟨sn_geti mCl_3 (by decide) rfl kt_46 dX3_factAt_6 rfl, ?_⟩
  refine List.forall_mem_cons.mpr ⟨sn_icmpge dX3_factAt_9 (by decide) rfl, ?_⟩
  refine List.forall_mem_cons.mpr ⟨sn_iload_n dX3_factAt_12 rfl rfl, ?_⟩
  refine List.forall_mem_cons.mpr ⟨sn_aload_n dX3_factAt_13 rfl rfl, ?_⟩
  refine List.forall_mem_cons.mpr ⟨sn_getr mCl_3 (by decide) rfl kt_50 dX3_factAt_14 rfl, ?_⟩
  refine List.forall_mem_cons.mpr ⟨sn_alen dX3_factAt_17 rfl, ?_⟩
  refine List.forall_mem_cons.mpr ⟨sn_icmpge dX3_factAt_18 (by decide) rfl, ?_⟩
  refine List.forall_mem_cons.mpr ⟨sn_aload_n dX3_factAt_21 rfl rfl, ?_⟩
  refine List.forall_mem_cons.mpr ⟨sn_getr mCl_3 (by decide) rfl kt_50 dX3_factAt_22 rfl, ?_⟩
  refine List.forall_mem_cons.mpr ⟨sn_iload_n dX3_factAt_25 rfl rfl, ?_⟩
  refine List.forall_mem_cons.mpr ⟨sn_rald (t0 := 5) ⟨by decide, by decide⟩ (fun _ => rfl) dX3_factAt_26 rfl, ?_⟩
  refine List.forall_mem_cons.mpr ⟨sn_goto dX3_factAt_27 (by decide), ?_⟩
  refine List.forall_mem_cons.mpr ⟨sn_null dX3_factAt_30 rfl, ?_⟩
  refine List.forall_mem_cons.mpr ⟨sn_aret rfl dX3_factAt_31, ?_⟩
  exact List.forall_mem_nil _
theorem sX3_addSource : ∀ q ∈ tX3_addSource, mSnd mInf iX3_addSource q.1 q.2 := by
  unfold tX3_addSource
  refine List.forall_mem_cons.mpr ⟨sn_aload_n dX3_addSource_0 rfl rfl, ?_⟩
  refine List.forall_mem_cons.mpr ⟨sn_geti mCl_3 (by decide) rfl kt_43 dX3_addSource_1 rfl, ?_⟩
  refine List.forall_mem_cons.mpr ⟨sn_aload_n dX3_addSource_4 rfl rfl, ?_⟩
  refine List.forall_mem_cons.mpr ⟨sn_getr mCl_3 (by decide) rfl kt_48 dX3_addSource_5 rfl, ?_⟩
  refine List.forall_mem_cons.mpr ⟨sn_alen dX3_addSource_8 rfl, ?_⟩
  refine List.forall_mem_cons.mpr ⟨sn_icmpge dX3_addSource_9 (by decide) rfl, ?_⟩
  refine List.forall_mem_cons.mpr ⟨sn_aload_n dX3_addSource_12 rfl rfl, ?_⟩
  refine List.forall_mem_cons.mpr ⟨sn_geti mCl_3 (by decide) rfl kt_43 dX3_addSource_13 rfl, ?_⟩
  refine List.forall_mem_cons.mpr ⟨sn_aload_n dX3_addSource_16 rfl rfl, ?_⟩
  refine List.forall_mem_cons.mpr ⟨sn_getr mCl_3 (by decide) rfl kt_49 dX3_addSource_17 rfl, ?_⟩
  refine List.forall_mem_cons.mpr ⟨sn_alen dX3_addSource_20 rfl, ?_⟩
  refine List.forall_mem_cons.mpr ⟨sn_icmplt dX3_addSource_21 (by decide) rfl, ?_⟩
  refine List.forall_mem_cons.mpr ⟨sn_iconst dX3_addSource_24 rfl ⟨by decide, by decide⟩, ?_⟩
  refine List.forall_mem_cons.mpr ⟨sn_iret rfl dX3_addSource_25, ?_⟩
  refine List.forall_mem_cons.mpr ⟨sn_new mCl_7 mDf_7 kt_36 kt_535 kt_15 dX3_addSource_26 rfl, ?_⟩
  refine List.forall_mem_cons.mpr ⟨sn_dup dX3_addSource_29 rfl, ?_⟩
  refine List.forall_mem_cons.mpr ⟨sn_aload_n dX3_addSource_30 rfl rfl, ?_⟩
  refine List.forall_mem_cons.mpr ⟨sn_geti mCl_3 (by decide) rfl kt_43 dX3_addSource_31 rfl, ?_⟩
  refine List.forall_mem_cons.mpr ⟨sn_iload_n dX3_addSource_34 rfl rfl, ?_⟩
  refine List.forall_mem_cons.mpr ⟨sn_callI mCl_7 mt_58 rfl rfl kt_536 kt_537 dX3_addSource_35 rfl, ?_⟩
  refine List.forall_mem_cons.mpr ⟨sn_astore_n dX3_addSource_38 rfl rfl, ?_⟩
  refine List.forall_mem_cons.mpr ⟨sn_aload_n dX3_addSource_39 rfl rfl, ?_⟩
  refine List.forall_mem_cons.mpr ⟨sn_getr mCl_3 (by decide) rfl kt_48 dX3_addSource_40 rfl, ?_⟩
  refine List.forall_mem_cons.mpr ⟨sn_aload_n dX3_addSource_43 rfl rfl, ?_⟩
  refine List.forall_mem_cons.mpr ⟨sn_geti mCl_3 (by decide) rfl kt_43 dX3_addSource_44 rfl, ?_⟩
  refine List.forall_mem_cons.mpr ⟨sn_aload_n dX3_addSource_47 rfl rfl, ?_⟩
  refine List.forall_mem_cons.mpr ⟨sn_rast mCl_7 (t0 := 7) ⟨by decide, by decide⟩ (fun _ => rfl) dX3_addSource_48 rfl, ?_⟩
  refine List.forall_mem_cons.mpr ⟨sn_aload_n dX3_addSource_49 rfl rfl, ?_⟩
  refine List.forall_mem_cons.mpr ⟨sn_geti mCl_3 (by decide) rfl kt_43 dX3_addSource_50 rfl, ?_⟩
  refine List.forall_mem_cons.mpr ⟨sn_istore_n dX3_addSource_53 rfl rfl, ?_⟩
  refine List.forall_mem_cons.mpr ⟨sn_iload_n dX3_addSource_54 rfl rfl, ?_⟩
  refine List.forall_mem_cons.mpr ⟨sn_ifle dX3_addSource_55 (by decide) rfl, ?_⟩
  refine List.forall_mem_cons.mpr ⟨sn_aload_n dX3_addSource_58 rfl rfl, ?_⟩
  refine List.forall_mem_cons.mpr ⟨sn_getr mCl_3 (by decide) rfl kt_49 dX3_addSource_59 rfl, ?_⟩
  refine List.forall_mem_cons.mpr ⟨sn_iload_n dX3_addSource_62 rfl rfl, ?_⟩
  refine List.forall_mem_cons.mpr ⟨sn_iconst dX3_addSource_63 rfl ⟨by decide, by decide⟩, ?_⟩
  refine List.forall_mem_cons.mpr ⟨sn_isub dX3_addSource_64 rfl, ?_⟩
  refine List.forall_mem_cons.mpr ⟨sn_rald (t0 := 7) ⟨by decide, by decide⟩ (fun _ => rfl) dX3_addSource_65 rfl, ?_⟩
  refine List.forall_mem_cons.mpr ⟨sn_ifnull dX3_addSource_66 (by decide) rfl, ?_⟩
  refine List.forall_mem_cons.mpr ⟨sn_aload_n dX3_addSource_69 rfl rfl, ?_⟩
  refine List.forall_mem_cons.mpr ⟨sn_getr mCl_3 (by decide) rfl kt_49 dX3_addSource_70 rfl, ?_⟩
  refine List.forall_mem_cons.mpr ⟨sn_iload_n dX3_addSource_73 rfl rfl, ?_⟩
  refine List.forall_mem_cons.mpr ⟨sn_iconst dX3_addSource_74 rfl ⟨by decide, by decide⟩, ?_⟩
  refine List.forall_mem_cons.mpr ⟨sn_isub dX3_addSource_75 rfl, ?_⟩
  refine List.forall_mem_cons.mpr ⟨sn_rald (t0 := 7) ⟨by decide, by decide⟩ (fun _ => rfl) dX3_addSource_76 rfl, ?_⟩
  refine List.forall_mem_cons.mpr ⟨sn_aload_n dX3_addSource_77 rfl rfl, ?_⟩
  refine List.forall_mem_cons.mpr ⟨sn_callV mCl_7 mt_59 rfl kt_550 kt_551 kt_552 dX3_addSource_78 rfl, ?_⟩
  refine List.forall_mem_cons.mpr ⟨sn_ifeq dX3_addSource_81 (by decide) rfl, ?_⟩
  refine List.forall_mem_cons.mpr ⟨sn_aload_n dX3_addSource_84 rfl rfl, ?_⟩
  refine List.forall_mem_cons.mpr ⟨sn_getr mCl_3 (by decide) rfl kt_49 dX3_addSource_85 rfl, ?_⟩
  refine List.forall_mem_cons.mpr ⟨sn_iload_n dX3_addSource_88 rfl rfl, ?_⟩
  refine List.forall_mem_cons.mpr ⟨sn_aload_n dX3_addSource_89 rfl rfl, ?_⟩
  refine List.forall_mem_cons.mpr ⟨sn_getr mCl_3 (by decide) rfl kt_49 dX3_addSource_90 rfl, ?_⟩
  refine List.forall_mem_cons.mpr ⟨sn_iload_n dX3_addSource_93 rfl rfl, ?_⟩
  refine List.forall_mem_cons.mpr ⟨sn_iconst dX3_addSource_94 rfl ⟨by decide, by decide⟩, ?_⟩
  refine List.forall_mem_cons.mpr ⟨sn_isub dX3_addSource_95 rfl, ?_⟩
  refine List.forall_mem_cons.mpr ⟨sn_rald (t0 := 7) ⟨by decide, by decide⟩ (fun _ => rfl) dX3_addSource_96 rfl, ?_⟩
  refine List.forall_mem_cons.mpr ⟨sn_rast mCl_7 (t0 := 7) ⟨by decide, by decide⟩ (fun _ => rfl) dX3_addSource_97 rfl, ?_⟩
  refine List.forall_mem_cons.mpr ⟨sn_iinc dX3_addSource_98 rfl, ?_⟩
  refine List.forall_mem_cons.mpr ⟨sn_goto dX3_addSource_101 (by decide), ?_⟩
  refine List.forall_mem_cons.mpr ⟨sn_aload_n dX3_addSource_104 rfl rfl, ?_⟩
  refine List.forall_mem_cons.mpr ⟨sn_getr mCl_3 (by decide) rfl kt_49 dX3_addSource_105 rfl, ?_⟩
  refine List.forall_mem_cons.mpr ⟨sn_iload_n dX3_addSource_108 rfl rfl, ?_⟩
  refine List.forall_mem_cons.mpr ⟨sn_aload_n dX3_addSource_109 rfl rfl, ?_⟩
  refine List.forall_mem_cons.mpr ⟨sn_rast mCl_7 (t0 := 7) ⟨by decide, by decide⟩ (fun _ => rfl) dX3_addSource_110 rfl, ?_⟩
  refine List.forall_mem_cons.mpr ⟨sn_aload_n dX3_addSource_111 rfl rfl, ?_⟩
  refine List.forall_mem_cons.mpr ⟨sn_dup dX3_addSource_112 rfl, ?_⟩
  refine List.forall_mem_cons.mpr ⟨sn_geti mCl_3 (by decide) rfl kt_43 dX3_addSource_113 rfl, ?_⟩
  refine List.forall_mem_cons.mpr ⟨sn_iconst dX3_addSource_116 rfl ⟨by decide, by decide⟩, ?_⟩
  refine List.forall_mem_cons.mpr ⟨sn_iadd dX3_addSource_117 rfl, ?_⟩
  refine List.forall_mem_cons.mpr ⟨sn_puti mCl_3 (by decide) rfl (Or.inl rfl) kt_43 dX3_addSource_118 rfl, ?_⟩
  refine List.forall_mem_cons.mpr ⟨sn_aload_n dX3_addSource_121 rfl rfl, ?_⟩
  refine List.forall_mem_cons.mpr ⟨sn_geti mCl_7 (by decide) rfl kt_542 dX3_addSource_122 rfl, ?_⟩
  refine List.forall_mem_cons.mpr ⟨sn_iret rfl dX3_addSource_125, ?_⟩
  exact List.forall_mem_nil _
theorem sX3_tell : ∀ q ∈ tX3_tell, mSnd mInf iX3_tell q.1 q.2 := by
  unfold tX3_tell
  refine List.forall_mem_cons.mpr ⟨sn_aload_n dX3_tell_0 rfl rfl, ?_⟩
  refine List.forall_mem_cons.mpr ⟨sn_geti mCl_3 (by decide) rfl kt_46 dX3_tell_1 rfl, ?_⟩
  refine List.forall_mem_cons.mpr ⟨sn_aload_n dX3_tell_4 rfl rfl, ?_⟩
  refine List.forall_mem_cons.mpr ⟨sn_getr mCl_3 (by decide) rfl kt_50 dX3_tell_5 rfl, ?_⟩
  refine List.forall_mem_cons.mpr ⟨sn_alen dX3_tell_8 rfl, ?_⟩
  refine List.forall_mem_cons.mpr ⟨sn_icmplt dX3_tell_9 (by decide) rfl, ?_⟩
  refine List.forall_mem_cons.mpr ⟨sn_iconst dX3_tell_12 rfl ⟨by decide, by decide⟩, ?_⟩
  refine List.forall_mem_cons.mpr ⟨sn_iret rfl dX3_tell_13, ?_⟩
  refine List.forall_mem_cons.mpr ⟨sn_aload_n dX3_tell_14 rfl rfl, ?_⟩
  refine List.forall_mem_cons.mpr ⟨sn_getr mCl_3 (by decide) rfl kt_50 dX3_tell_15 rfl, ?_⟩
  refine List.forall_mem_cons.mpr ⟨sn_aload_n dX3_tell_18 rfl rfl, ?_⟩
  refine List.forall_mem_cons.mpr ⟨sn_geti mCl_3 (by decide) rfl kt_46 dX3_tell_19 rfl, ?_⟩
  refine List.forall_mem_cons.mpr ⟨sn_aload_n dX3_tell_22 rfl rfl, ?_⟩
  refine List.forall_mem_cons.mpr ⟨sn_rast mCl_2 (t0 := 5) ⟨by decide, by decide⟩ (fun _ => rfl) dX3_tell_23 rfl, ?_⟩
  refine List.forall_mem_cons.mpr ⟨sn_aload_n dX3_tell_24 rfl rfl, ?_⟩
  refine List.forall_mem_cons.mpr ⟨sn_dup dX3_tell_25 rfl, ?_⟩
  refine List.forall_mem_cons.mpr ⟨sn_geti mCl_3 (by decide) rfl kt_46 dX3_tell_26 rfl, ?_⟩
  refine List.forall_mem_cons.mpr ⟨sn_iconst dX3_tell_29 rfl ⟨by decide, by decide⟩, ?_⟩
  refine List.forall_mem_cons.mpr ⟨sn_iadd dX3_tell_30 rfl, ?_⟩
  refine List.forall_mem_cons.mpr ⟨sn_puti mCl_3 (by decide) rfl (Or.inl rfl) kt_46 dX3_tell_31 rfl, ?_⟩
  refine List.forall_mem_cons.mpr ⟨sn_aload_n dX3_tell_34 rfl rfl, ?_⟩
  refine List.forall_mem_cons.mpr ⟨sn_geti mCl_3 (by decide) rfl kt_46 dX3_tell_35 rfl, ?_⟩
  refine List.forall_mem_cons.mpr ⟨sn_iconst dX3_tell_38 rfl ⟨by decide, by decide⟩, ?_⟩
  refine List.forall_mem_cons.mpr ⟨sn_isub dX3_tell_39 rfl, ?_⟩
  refine List.forall_mem_cons.mpr ⟨sn_iret rfl dX3_tell_40, ?_⟩
  exact List.forall_mem_nil _
theorem sX3_latestWord : ∀ q ∈ tX3_latestWord, mSnd mInf iX3_latestWord q.1 q.2 := by
  unfold tX3_latestWord
  refine List.forall_mem_cons.mpr ⟨sn_iload dX3_latestWord_0 rfl, ?_⟩
  refine List.forall_mem_cons.mpr ⟨sn_iconst dX3_latestWord_2 rfl ⟨by decide, by decide⟩, ?_⟩
  refine List.forall_mem_cons.mpr ⟨sn_isub dX3_latestWord_3 rfl, ?_⟩
  refine List.forall_mem_cons.mpr ⟨sn_istore dX3_latestWord_4 rfl, ?_⟩
  refine List.forall_mem_cons.mpr ⟨sn_iload dX3_latestWord_6 rfl, ?_⟩
  refine List.forall_mem_cons.mpr ⟨sn_iflt dX3_latestWord_8 (by decide) rfl, ?_⟩
  refine List.forall_mem_cons.mpr ⟨sn_aload_n dX3_latestWord_11 rfl rfl, ?_⟩
  refine List.forall_mem_cons.mpr ⟨sn_iload dX3_latestWord_12 rfl, ?_⟩
  refine List.forall_mem_cons.mpr ⟨sn_callV mCl_3 mt_30 rfl kt_769 kt_646 kt_647 dX3_latestWord_14 rfl, ?_⟩
  refine List.forall_mem_cons.mpr ⟨sn_astore dX3_latestWord_17 rfl, ?_⟩
  refine List.forall_mem_cons.mpr ⟨sn_aload dX3_latestWord_19 rfl, ?_⟩
  refine List.forall_mem_cons.mpr ⟨sn_ifnull dX3_latestWord_21 (by decide) rfl, ?_⟩
  refine List.forall_mem_cons.mpr ⟨sn_aload dX3_latestWord_24 rfl, ?_⟩
  refine List.forall_mem_cons.mpr ⟨sn_aload_n dX3_latestWord_26 rfl rfl, ?_⟩
  refine List.forall_mem_cons.mpr ⟨sn_callV mCl_2 mt_22 rfl kt_770 kt_650 kt_651 dX3_latestWord_27 rfl, ?_⟩
  refine List.forall_mem_cons.mpr ⟨sn_ifeq dX3_latestWord_30 (by decide) rfl, ?_⟩
  refine List.forall_mem_cons.mpr ⟨sn_aload dX3_latestWord_33 rfl, ?_⟩
  refine List.forall_mem_cons.mpr ⟨sn_iload_n dX3_latestWord_35 rfl rfl, ?_⟩
  refine List.forall_mem_cons.mpr ⟨sn_iload_n dX3_latestWord_36 rfl rfl, ?_⟩
  refine List.forall_mem_cons.mpr ⟨sn_callV mCl_2 mt_23 rfl kt_771 kt_772 kt_773 dX3_latestWord_37 rfl, ?_⟩
  refine List.forall_mem_cons.mpr ⟨sn_ifeq dX3_latestWord_40 (by decide) rfl, ?_⟩
  refine List.forall_mem_cons.mpr ⟨sn_iload dX3_latestWord_43 rfl, ?_⟩
  refine List.forall_mem_cons.mpr ⟨sn_iret rfl dX3_latestWord_45, ?_⟩
  refine List.forall_mem_cons.mpr ⟨sn_iinc dX3_latestWord_46 rfl, ?_⟩
  refine List.forall_mem_cons.mpr ⟨sn_goto dX3_latestWord_49 (by decide), ?_⟩
  refine List.forall_mem_cons.mpr ⟨sn_iconst dX3_latestWord_52 rfl ⟨by decide, by decide⟩, ?_⟩
  refine List.forall_mem_cons.mpr ⟨sn_iret rfl dX3_latestWord_53, ?_⟩
  exact List.forall_mem_nil _
