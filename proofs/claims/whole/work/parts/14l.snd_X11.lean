theorem sX11_init : ∀ q ∈ tX11_init, mSnd mInf iX11_init q.1 q.2 := by
  unfold tX11_init
  refine List.forall_mem_cons.mpr ⟨sn_aload_n dX11_init_0 rfl rfl, ?_⟩
  refine List.forall_mem_cons.mpr ⟨sn_objinit kt_27 kt_28 kt_29 dX11_init_1 rfl, ?_⟩
  refine List.forall_mem_cons.mpr ⟨sn_aload_n dX11_init_4 rfl rfl, ?_⟩
  refine List.forall_mem_cons.mpr ⟨sn_new mCl_3 mDf_3 kt_30 kt_31 kt_2 dX11_init_5 rfl, ?_⟩
  refine List.forall_mem_cons.mpr ⟨sn_dup dX11_init_8 rfl, ?_⟩
  refine List.forall_mem_cons.mpr ⟨sn_callIN mCl_3 mt_25 rfl rfl (by decide) kt_33 dX11_init_9 rfl, ?_⟩
  refine List.forall_mem_cons.mpr ⟨sn_putr mCl_11 (by decide) rfl (Or.inr ⟨rfl, rfl, rfl⟩) kt_284 dX11_init_12 rfl, ?_⟩
  refine List.forall_mem_cons.mpr ⟨sn_aload_n dX11_init_15 rfl rfl, ?_⟩
  refine List.forall_mem_cons.mpr ⟨sn_new mCl_1 mDf_1 kt_64 kt_65 kt_3 dX11_init_16 rfl, ?_⟩
  refine List.forall_mem_cons.mpr ⟨sn_dup dX11_init_19 rfl, ?_⟩
  refine List.forall_mem_cons.mpr ⟨sn_callIN mCl_1 mt_7 rfl rfl (by decide) kt_67 dX11_init_20 rfl, ?_⟩
  refine List.forall_mem_cons.mpr ⟨sn_putr mCl_11 (by decide) rfl (Or.inr ⟨rfl, rfl, rfl⟩) kt_285 dX11_init_23 rfl, ?_⟩
  refine List.forall_mem_cons.mpr ⟨sn_aload_n dX11_init_26 rfl rfl, ?_⟩
  refine List.forall_mem_cons.mpr ⟨sn_new mCl_8 mDf_8 kt_100 kt_101 kt_4 dX11_init_27 rfl, ?_⟩
  refine List.forall_mem_cons.mpr ⟨sn_dup dX11_init_30 rfl, ?_⟩
  refine List.forall_mem_cons.mpr ⟨sn_callIN mCl_8 mt_60 rfl rfl (by decide) kt_103 dX11_init_31 rfl, ?_⟩
  refine List.forall_mem_cons.mpr ⟨sn_putr mCl_11 (by decide) rfl (Or.inr ⟨rfl, rfl, rfl⟩) kt_286 dX11_init_34 rfl, ?_⟩
  refine List.forall_mem_cons.mpr ⟨sn_aload_n dX11_init_37 rfl rfl, ?_⟩
  refine List.forall_mem_cons.mpr ⟨sn_new mCl_9 mDf_9 kt_131 kt_132 kt_5 dX11_init_38 rfl, ?_⟩
  refine List.forall_mem_cons.mpr ⟨sn_dup dX11_init_41 rfl, ?_⟩
  refine List.forall_mem_cons.mpr ⟨sn_callIN mCl_9 mt_74 rfl rfl (by decide) kt_134 dX11_init_42 rfl, ?_⟩
  refine List.forall_mem_cons.mpr ⟨sn_putr mCl_11 (by decide) rfl (Or.inr ⟨rfl, rfl, rfl⟩) kt_287 dX11_init_45 rfl, ?_⟩
  refine List.forall_mem_cons.mpr ⟨sn_aload_n dX11_init_48 rfl rfl, ?_⟩
  refine List.forall_mem_cons.mpr ⟨sn_new mCl_5 mDf_5 kt_170 kt_171 kt_6 dX11_init_49 rfl, ?_⟩
  refine List.forall_mem_cons.mpr ⟨sn_dup dX11_init_52 rfl, ?_⟩
  refine List.forall_mem_cons.mpr ⟨sn_callIN mCl_5 mt_48 rfl rfl (by decide) kt_173 dX11_init_53 rfl, ?_⟩
  refine List.forall_mem_cons.mpr ⟨sn_putr mCl_11 (by decide) rfl (Or.inr ⟨rfl, rfl, rfl⟩) kt_288 dX11_init_56 rfl, ?_⟩
  refine List.forall_mem_cons.mpr ⟨sn_aload_n dX11_init_59 rfl rfl, ?_⟩
  refine List.forall_mem_cons.mpr ⟨sn_new mCl_10 mDf_10 kt_225 kt_226 kt_7 dX11_init_60 rfl, ?_⟩
  refine List.forall_mem_cons.mpr ⟨sn_dup dX11_init_63 rfl, ?_⟩
  refine List.forall_mem_cons.mpr ⟨sn_callIN mCl_10 mt_93 rfl rfl (by decide) kt_228 dX11_init_64 rfl, ?_⟩
  refine List.forall_mem_cons.mpr ⟨sn_putr mCl_11 (by decide) rfl (Or.inl rfl) kt_289 dX11_init_67 rfl, ?_⟩
  refine List.forall_mem_cons.mpr ⟨sn_aload_n dX11_init_70 rfl rfl, ?_⟩
  refine List.forall_mem_cons.mpr ⟨sn_new mCl_10 mDf_10 kt_225 kt_226 kt_7 dX11_init_71 rfl, ?_⟩
  refine List.forall_mem_cons.mpr ⟨sn_dup dX11_init_74 rfl, ?_⟩
  refine List.forall_mem_cons.mpr ⟨sn_callIN mCl_10 mt_93 rfl rfl (by decide) kt_228 dX11_init_75 rfl, ?_⟩
  refine List.forall_mem_cons.mpr ⟨sn_putr mCl_11 (by decide) rfl (Or.inl rfl) kt_290 dX11_init_78 rfl, ?_⟩
  refine List.forall_mem_cons.mpr ⟨sn_aload_n dX11_init_81 rfl rfl, ?_⟩
  refine List.forall_mem_cons.mpr ⟨sn_new mCl_4 mDf_4 kt_252 kt_253 kt_8 dX11_init_82 rfl, ?_⟩
  refine List.forall_mem_cons.mpr ⟨sn_dup dX11_init_85 rfl, ?_⟩
  refine List.forall_mem_cons.mpr ⟨sn_callIN mCl_4 mt_34 rfl rfl (by decide) kt_255 dX11_init_86 rfl, ?_⟩
  refine List.forall_mem_cons.mpr ⟨sn_putr mCl_11 (by decide) rfl (Or.inl rfl) kt_291 dX11_init_89 rfl, ?_⟩
  refine List.forall_mem_cons.mpr ⟨sn_aload_n dX11_init_92 rfl rfl, ?_⟩
  refine List.forall_mem_cons.mpr ⟨sn_new mCl_4 mDf_4 kt_252 kt_253 kt_8 dX11_init_93 rfl, ?_⟩
  refine List.forall_mem_cons.mpr ⟨sn_dup dX11_init_96 rfl, ?_⟩
  refine List.forall_mem_cons.mpr ⟨sn_callIN mCl_4 mt_34 rfl rfl (by decide) kt_255 dX11_init_97 rfl, ?_⟩
  refine List.forall_mem_cons.mpr ⟨sn_putr mCl_11 (by decide) rfl (Or.inl rfl) kt_292 dX11_init_100 rfl, ?_⟩
  refine List.forall_mem_cons.mpr ⟨sn_vret rfl dX11_init_103, ?_⟩
  exact List.forall_mem_nil _
theorem sX11_feed : ∀ q ∈ tX11_feed, mSnd mInf iX11_feed q.1 q.2 := by
  unfold tX11_feed
  refine List.forall_mem_cons.mpr ⟨sn_aload_n dX11_feed_0 rfl rfl, ?_⟩
  refine List.forall_mem_cons.mpr ⟨sn_getr mCl_11 (by decide) rfl kt_286 dX11_feed_1 rfl, ?_⟩
  refine List.forall_mem_cons.mpr ⟨sn_geti mCl_8 (by decide) rfl kt_107 dX11_feed_4 rfl, ?_⟩
  refine List.forall_mem_cons.mpr ⟨sn_sipush dX11_feed_7 rfl (by decide) ⟨by decide, by decide⟩, ?_⟩
  refine List.forall_mem_cons.mpr ⟨sn_icmple dX11_feed_10 (by decide) rfl, ?_⟩
  refine List.forall_mem_cons.mpr ⟨sn_iconst dX11_feed_13 rfl ⟨by decide, by decide⟩, ?_⟩
  refine List.forall_mem_cons.mpr ⟨sn_iret rfl dX11_feed_14, ?_⟩
  refine List.forall_mem_cons.mpr ⟨sn_aload_n dX11_feed_15 rfl rfl, ?_⟩
  refine List.forall_mem_cons.mpr ⟨sn_getr mCl_11 (by decide) rfl kt_286 dX11_feed_16 rfl, ?_⟩
  refine List.forall_mem_cons.mpr ⟨sn_iload_n dX11_feed_19 rfl rfl, ?_⟩
  refine List.forall_mem_cons.mpr ⟨sn_callV mCl_8 mt_61 rfl kt_316 kt_317 kt_318 dX11_feed_20 rfl, ?_⟩
  refine List.forall_mem_cons.mpr ⟨sn_aload_n dX11_feed_23 rfl rfl, ?_⟩
  refine List.forall_mem_cons.mpr ⟨sn_getr mCl_11 (by decide) rfl kt_286 dX11_feed_24 rfl, ?_⟩
  refine List.forall_mem_cons.mpr ⟨sn_iload_n dX11_feed_27 rfl rfl, ?_⟩
  refine List.forall_mem_cons.mpr ⟨sn_callV mCl_8 mt_61 rfl kt_316 kt_317 kt_318 dX11_feed_28 rfl, ?_⟩
  refine List.forall_mem_cons.mpr ⟨sn_aload_n dX11_feed_31 rfl rfl, ?_⟩
  refine List.forall_mem_cons.mpr ⟨sn_getr mCl_11 (by decide) rfl kt_286 dX11_feed_32 rfl, ?_⟩
  refine List.forall_mem_cons.mpr ⟨sn_iload_n dX11_feed_35 rfl rfl, ?_⟩
  refine List.forall_mem_cons.mpr ⟨sn_callV mCl_8 mt_61 rfl kt_316 kt_317 kt_318 dX11_feed_36 rfl, ?_⟩
  refine List.forall_mem_cons.mpr ⟨sn_aload_n dX11_feed_39 rfl rfl, ?_⟩
  refine List.forall_mem_cons.mpr ⟨sn_getr mCl_11 (by decide) rfl kt_286 dX11_feed_40 rfl, ?_⟩
  refine List.forall_mem_cons.mpr ⟨sn_iload dX11_feed_43 rfl, ?_⟩
  refine List.forall_mem_cons.mpr ⟨sn_callV mCl_8 mt_61 rfl kt_316 kt_317 kt_318 dX11_feed_45 rfl, ?_⟩
  refine List.forall_mem_cons.mpr ⟨sn_aload_n dX11_feed_48 rfl rfl, ?_⟩
  refine List.forall_mem_cons.mpr ⟨sn_getr mCl_11 (by decide) rfl kt_286 dX11_feed_49 rfl, ?_⟩
  refine List.forall_mem_cons.mpr ⟨sn_iload dX11_feed_52 rfl, ?_⟩
  refine List.forall_mem_cons.mpr ⟨sn_callV mCl_8 mt_61 rfl kt_316 kt_317 kt_318 dX11_feed_54 rfl, ?_⟩
  refine List.forall_mem_cons.mpr ⟨sn_aload_n dX11_feed_57 rfl rfl, ?_⟩
  refine List.forall_mem_cons.mpr ⟨sn_getr mCl_11 (by decide) rfl kt_286 dX11_feed_58 rfl, ?_⟩
  refine List.forall_mem_cons.mpr ⟨sn_geti mCl_8 (by decide) rfl kt_107 dX11_feed_61 rfl, ?_⟩
  refine List.forall_mem_cons.mpr ⟨sn_iret rfl dX11_feed_64, ?_⟩
  exact List.forall_mem_nil _
theorem sX11_back : ∀ q ∈ tX11_back, mSnd mInf iX11_back q.1 q.2 := by
  unfold tX11_back
  refine List.forall_mem_cons.mpr ⟨sn_iload_n dX11_back_0 rfl rfl, ?_⟩
  refine List.forall_mem_cons.mpr ⟨sn_iflt dX11_back_1 (by decide) rfl, ?_⟩
  refine List.forall_mem_cons.mpr ⟨sn_iload_n dX11_back_4 rfl rfl, ?_⟩
  refine List.forall_mem_cons.mpr ⟨sn_aload_n dX11_back_5 rfl rfl, ?_⟩
  refine List.forall_mem_cons.mpr ⟨sn_getr mCl_11 (by decide) rfl kt_286 dX11_back_6 rfl, ?_⟩
  refine List.forall_mem_cons.mpr ⟨sn_geti mCl_8 (by decide) rfl kt_107 dX11_back_9 rfl, ?_⟩
  refine List.forall_mem_cons.mpr ⟨sn_icmple dX11_back_12 (by decide) rfl, ?_⟩
  refine List.forall_mem_cons.mpr ⟨sn_iconst dX11_back_15 rfl ⟨by decide, by decide⟩, ?_⟩
  refine List.forall_mem_cons.mpr ⟨sn_iret rfl dX11_back_16, ?_⟩
  refine List.forall_mem_cons.mpr ⟨sn_aload_n dX11_back_17 rfl rfl, ?_⟩
  refine List.forall_mem_cons.mpr ⟨sn_getr mCl_11 (by decide) rfl kt_286 dX11_back_18 rfl, ?_⟩
  refine List.forall_mem_cons.mpr ⟨sn_dup dX11_back_21 rfl, ?_⟩
  refine List.forall_mem_cons.mpr ⟨sn_geti mCl_8 (by decide) rfl kt_107 dX11_back_22 rfl, ?_⟩
  refine List.forall_mem_cons.mpr ⟨sn_iload_n dX11_back_25 rfl rfl, ?_⟩
  refine List.forall_mem_cons.mpr ⟨sn_isub dX11_back_26 rfl, ?_⟩
  refine List.forall_mem_cons.mpr ⟨sn_puti mCl_8 (by decide) rfl (Or.inl rfl) kt_107 dX11_back_27 rfl, ?_⟩
  refine List.forall_mem_cons.mpr ⟨sn_aload_n dX11_back_30 rfl rfl, ?_⟩
  refine List.forall_mem_cons.mpr ⟨sn_getr mCl_11 (by decide) rfl kt_286 dX11_back_31 rfl, ?_⟩
  refine List.forall_mem_cons.mpr ⟨sn_geti mCl_8 (by decide) rfl kt_107 dX11_back_34 rfl, ?_⟩
  refine List.forall_mem_cons.mpr ⟨sn_iret rfl dX11_back_37, ?_⟩
  exact List.forall_mem_nil _
theorem sX11_read : ∀ q ∈ tX11_read, mSnd mInf iX11_read q.1 q.2 := by
  unfold tX11_read
  refine List.forall_mem_cons.mpr ⟨sn_aload_n dX11_read_0 rfl rfl, ?_⟩
  refine List.forall_mem_cons.mpr ⟨sn_getr mCl_11 (by decide) rfl kt_287 dX11_read_1 rfl, ?_⟩
  refine List.forall_mem_cons.mpr ⟨sn_aload_n dX11_read_4 rfl rfl, ?_⟩
  refine List.forall_mem_cons.mpr ⟨sn_getr mCl_11 (by decide) rfl kt_286 dX11_read_5 rfl, ?_⟩
  refine List.forall_mem_cons.mpr ⟨sn_aload_n dX11_read_8 rfl rfl, ?_⟩
  refine List.forall_mem_cons.mpr ⟨sn_getr mCl_11 (by decide) rfl kt_290 dX11_read_9 rfl, ?_⟩
  refine List.forall_mem_cons.mpr ⟨sn_callV mCl_9 mt_75 rfl kt_328 kt_329 kt_330 dX11_read_12 rfl, ?_⟩
  refine List.forall_mem_cons.mpr ⟨sn_aload_n dX11_read_15 rfl rfl, ?_⟩
  refine List.forall_mem_cons.mpr ⟨sn_getr mCl_11 (by decide) rfl kt_286 dX11_read_16 rfl, ?_⟩
  refine List.forall_mem_cons.mpr ⟨sn_iconst dX11_read_19 rfl ⟨by decide, by decide⟩, ?_⟩
  refine List.forall_mem_cons.mpr ⟨sn_puti mCl_8 (by decide) rfl (Or.inl rfl) kt_107 dX11_read_20 rfl, ?_⟩
  refine List.forall_mem_cons.mpr ⟨sn_aload_n dX11_read_23 rfl rfl, ?_⟩
  refine List.forall_mem_cons.mpr ⟨sn_getr mCl_11 (by decide) rfl kt_287 dX11_read_24 rfl, ?_⟩
  refine List.forall_mem_cons.mpr ⟨sn_geti mCl_9 (by decide) rfl kt_138 dX11_read_27 rfl, ?_⟩
  refine List.forall_mem_cons.mpr ⟨sn_ifne dX11_read_30 (by decide) rfl, ?_⟩
  refine List.forall_mem_cons.mpr ⟨sn_aload_n dX11_read_33 rfl rfl, ?_⟩
  refine List.forall_mem_cons.mpr ⟨sn_getr mCl_11 (by decide) rfl kt_289 dX11_read_34 rfl, ?_⟩
  refine List.forall_mem_cons.mpr ⟨sn_astore_n dX11_read_37 rfl rfl, ?_⟩
  refine List.forall_mem_cons.mpr ⟨sn_aload_n dX11_read_38 rfl rfl, ?_⟩
  refine List.forall_mem_cons.mpr ⟨sn_aload_n dX11_read_39 rfl rfl, ?_⟩
  refine List.forall_mem_cons.mpr ⟨sn_getr mCl_11 (by decide) rfl kt_290 dX11_read_40 rfl, ?_⟩
  refine List.forall_mem_cons.mpr ⟨sn_putr mCl_11 (by decide) rfl (Or.inl rfl) kt_289 dX11_read_43 rfl, ?_⟩
  refine List.forall_mem_cons.mpr ⟨sn_aload_n dX11_read_46 rfl rfl, ?_⟩
  refine List.forall_mem_cons.mpr ⟨sn_aload_n dX11_read_47 rfl rfl, ?_⟩
  refine List.forall_mem_cons.mpr ⟨sn_putr mCl_11 (by decide) rfl (Or.inl rfl) kt_290 dX11_read_48 rfl, ?_⟩
  refine List.forall_mem_cons.mpr ⟨sn_aload_n dX11_read_51 rfl rfl, ?_⟩
  refine List.forall_mem_cons.mpr ⟨sn_getr mCl_11 (by decide) rfl kt_287 dX11_read_52 rfl, ?_⟩
  refine List.forall_mem_cons.mpr ⟨sn_geti mCl_9 (by decide) rfl kt_138 dX11_read_55 rfl, ?_⟩
  refine List.forall_mem_cons.mpr ⟨sn_iret rfl dX11_read_58, ?_⟩
  exact List.forall_mem_nil _
theorem sX11_place : ∀ q ∈ tX11_place, mSnd mInf iX11_place q.1 q.2 := by
  unfold tX11_place
  refine List.forall_mem_cons.mpr ⟨sn_aload_n dX11_place_0 rfl rfl, ?_⟩
  refine List.forall_mem_cons.mpr ⟨sn_getr mCl_11 (by decide) rfl kt_287 dX11_place_1 rfl, ?_⟩
  refine List.forall_mem_cons.mpr ⟨sn_geti mCl_9 (by decide) rfl kt_140 dX11_place_4 rfl, ?_⟩
  refine List.forall_mem_cons.mpr ⟨sn_iret rfl dX11_place_7, ?_⟩
  exact List.forall_mem_nil _
theorem sX11_channels : ∀ q ∈ tX11_channels, mSnd mInf iX11_channels q.1 q.2 := by
  unfold tX11_channels
  refine List.forall_mem_cons.mpr ⟨sn_iload_n dX11_channels_0 rfl rfl, ?_⟩
  refine List.forall_mem_cons.mpr ⟨sn_iconst dX11_channels_1 rfl ⟨by decide, by decide⟩, ?_⟩
  refine List.forall_mem_cons.mpr ⟨sn_icmplt dX11_channels_2 (by decide) rfl, ?_⟩
  refine List.forall_mem_cons.mpr ⟨sn_iload_n dX11_channels_5 rfl rfl, ?_⟩
  refine List.forall_mem_cons.mpr ⟨sn_bipush dX11_channels_6 rfl (by decide) ⟨by decide, by decide⟩, ?_⟩
  refine List.forall_mem_cons.mpr ⟨sn_icmpgt dX11_channels_8 (by decide) rfl, ?_⟩
  refine List.forall_mem_cons.mpr ⟨sn_aload_n dX11_channels_11 rfl rfl, ?_⟩
  refine List.forall_mem_cons.mpr ⟨sn_getr mCl_11 (by decide) rfl kt_284 dX11_channels_12 rfl, ?_⟩
  refine List.forall_mem_cons.mpr ⟨sn_geti mCl_3 (by decide) rfl kt_47 dX11_channels_15 rfl, ?_⟩
  refine List.forall_mem_cons.mpr ⟨sn_ifle dX11_channels_18 (by decide) rfl, ?_⟩
  refine List.forall_mem_cons.mpr ⟨sn_iconst dX11_channels_21 rfl ⟨by decide, by decide⟩, ?_⟩
  refine List.forall_mem_cons.mpr ⟨sn_zret rfl dX11_channels_22, ?_⟩
  refine List.forall_mem_cons.mpr ⟨sn_aload_n dX11_channels_23 rfl rfl, ?_⟩
  refine List.forall_mem_cons.mpr ⟨sn_getr mCl_11 (by decide) rfl kt_284 dX11_channels_24 rfl, ?_⟩
  refine List.forall_mem_cons.mpr ⟨sn_iload_n dX11_channels_27 rfl rfl, ?_⟩
  refine List.forall_mem_cons.mpr ⟨sn_puti mCl_3 (by decide) rfl (Or.inl rfl) kt_42 dX11_channels_28 rfl, ?_⟩
  refine List.forall_mem_cons.mpr ⟨sn_iconst dX11_channels_31 rfl ⟨by decide, by decide⟩, ?_⟩
  refine List.forall_mem_cons.mpr ⟨sn_zret rfl dX11_channels_32, ?_⟩
  exact List.forall_mem_nil _
theorem sX11_source : ∀ q ∈ tX11_source, mSnd mInf iX11_source q.1 q.2 := by
  unfold tX11_source
  refine List.forall_mem_cons.mpr ⟨sn_iload_n dX11_source_0 rfl rfl, ?_⟩
  refine List.forall_mem_cons.mpr ⟨sn_iconst dX11_source_1 rfl ⟨by decide, by decide⟩, ?_⟩
  refine List.forall_mem_cons.mpr ⟨sn_icmplt dX11_source_2 (by decide) rfl, ?_⟩
  refine List.forall_mem_cons.mpr ⟨sn_iload_n dX11_source_5 rfl rfl, ?_⟩
  refine List.forall_mem_cons.mpr ⟨sn_bipush dX11_source_6 rfl (by decide) ⟨by decide, by decide⟩, ?_⟩
  refine List.forall_mem_cons.mpr ⟨sn_icmple dX11_source_8 (by decide) rfl, ?_⟩
  refine List.forall_mem_cons.mpr ⟨sn_iconst dX11_source_11 rfl ⟨by decide, by decide⟩, ?_⟩
  refine List.forall_mem_cons.mpr ⟨sn_iret rfl dX11_source_12, ?_⟩
  refine List.forall_mem_cons.mpr ⟨sn_aload_n dX11_source_13 rfl rfl, ?_⟩
  refine List.forall_mem_cons.mpr ⟨sn_getr mCl_11 (by decide) rfl kt_284 dX11_source_14 rfl, ?_⟩
  refine List.forall_mem_cons.mpr ⟨sn_iload_n dX11_source_17 rfl rfl, ?_⟩
  refine List.forall_mem_cons.mpr ⟨sn_callV mCl_3 mt_31 rfl kt_531 kt_532 kt_533 dX11_source_18 rfl, ?_⟩
  refine List.forall_mem_cons.mpr ⟨sn_iret rfl dX11_source_21, ?_⟩
  exact List.forall_mem_nil _
theorem sX11_notice : ∀ q ∈ tX11_notice, mSnd mInf iX11_notice q.1 q.2 := by
  unfold tX11_notice
  refine List.forall_mem_cons.mpr ⟨sn_aload_n dX11_notice_0 rfl rfl, ?_⟩
  refine List.forall_mem_cons.mpr ⟨sn_getr mCl_11 (by decide) rfl kt_284 dX11_notice_1 rfl, ?_⟩
  refine List.forall_mem_cons.mpr ⟨sn_iload_n dX11_notice_4 rfl rfl, ?_⟩
  refine List.forall_mem_cons.mpr ⟨sn_callV mCl_3 mt_28 rfl kt_558 kt_559 kt_560 dX11_notice_5 rfl, ?_⟩
  refine List.forall_mem_cons.mpr ⟨sn_astore dX11_notice_8 rfl, ?_⟩
  refine List.forall_mem_cons.mpr ⟨sn_aload dX11_notice_10 rfl, ?_⟩
  refine List.forall_mem_cons.mpr ⟨sn_ifnull dX11_notice_12 (by decide) rfl, ?_⟩
  refine List.forall_mem_cons.mpr ⟨sn_aload_n dX11_notice_15 rfl rfl, ?_⟩
  refine List.forall_mem_cons.mpr ⟨sn_getr mCl_11 (by decide) rfl kt_284 dX11_notice_16 rfl, ?_⟩
  refine List.forall_mem_cons.mpr ⟨sn_iload_n dX11_notice_19 rfl rfl, ?_⟩
  refine List.forall_mem_cons.mpr ⟨sn_callV mCl_3 mt_26 rfl kt_562 kt_563 kt_564 dX11_notice_20 rfl, ?_⟩
  refine List.forall_mem_cons.mpr ⟨sn_ifne dX11_notice_23 (by decide) rfl, ?_⟩
  refine List.forall_mem_cons.mpr ⟨sn_iconst dX11_notice_26 rfl ⟨by decide, by decide⟩, ?_⟩
  refine List.forall_mem_cons.mpr ⟨sn_iret rfl dX11_notice_27, ?_⟩
  refine List.forall_mem_cons.mpr ⟨sn_iload_n dX11_notice_28 rfl rfl, ?_⟩
  refine List.forall_mem_cons.mpr ⟨sn_iflt dX11_notice_29 (by decide) rfl, ?_⟩
  refine List.forall_mem_cons.mpr ⟨sn_iload_n dX11_notice_32 rfl rfl, ?_⟩
  refine List.forall_mem_cons.mpr ⟨sn_iload dX11_notice_33 rfl, ?_⟩
  refine List.forall_mem_cons.mpr ⟨sn_icmpge dX11_notice_35 (by decide) rfl, ?_⟩
  refine List.forall_mem_cons.mpr ⟨sn_iload dX11_notice_38 rfl, ?_⟩
  refine List.forall_mem_cons.mpr ⟨sn_sipush dX11_notice_40 rfl (by decide) ⟨by decide, by decide⟩, ?_⟩
  refine List.forall_mem_cons.mpr ⟨sn_icmple dX11_notice_43 (by decide) rfl, ?_⟩
  refine List.forall_mem_cons.mpr ⟨sn_iconst dX11_notice_46 rfl ⟨by decide, by decide⟩, ?_⟩
  refine List.forall_mem_cons.mpr ⟨sn_iret rfl dX11_notice_47, ?_⟩
  refine List.forall_mem_cons.mpr ⟨sn_iload dX11_notice_48 rfl, ?_⟩
  refine List.forall_mem_cons.mpr ⟨sn_iflt dX11_notice_50 (by decide) rfl, ?_⟩
  refine List.forall_mem_cons.mpr ⟨sn_iload dX11_notice_53 rfl, ?_⟩
  refine List.forall_mem_cons.mpr ⟨sn_bipush dX11_notice_55 rfl (by decide) ⟨by decide, by decide⟩, ?_⟩
  refine List.forall_mem_cons.mpr ⟨sn_icmpgt dX11_notice_57 (by decide) rfl, ?_⟩
  refine List.forall_mem_cons.mpr ⟨sn_iload dX11_notice_60 rfl, ?_⟩
  refine List.forall_mem_cons.mpr ⟨sn_iflt dX11_notice_62 (by decide) rfl, ?_⟩
  refine List.forall_mem_cons.mpr ⟨sn_iload dX11_notice_65 rfl, ?_⟩
  refine List.forall_mem_cons.mpr ⟨sn_bipush dX11_notice_67 rfl (by decide) ⟨by decide, by decide⟩, ?_⟩
  refine List.forall_mem_cons.mpr ⟨sn_icmple dX11_notice_69 (by decide) rfl, ?_⟩
  refine List.forall_mem_cons.mpr ⟨sn_iconst dX11_notice_72 rfl ⟨by decide, by decide⟩, ?_⟩
  refine List.forall_mem_cons.mpr ⟨sn_iret rfl dX11_notice_73, ?_⟩
  refine List.forall_mem_cons.mpr ⟨sn_aload_n dX11_notice_74 rfl rfl, ?_⟩
  refine List.forall_mem_cons.mpr ⟨sn_getr mCl_11 (by decide) rfl kt_284 dX11_notice_75 rfl, ?_⟩
  refine List.forall_mem_cons.mpr ⟨sn_geti mCl_3 (by decide) rfl kt_47 dX11_notice_78 rfl, ?_⟩
  refine List.forall_mem_cons.mpr ⟨sn_sipush dX11_notice_81 rfl (by decide) ⟨by decide, by decide⟩, ?_⟩
  refine List.forall_mem_cons.mpr ⟨sn_icmplt dX11_notice_84 (by decide) rfl, ?_⟩
  refine List.forall_mem_cons.mpr ⟨sn_iconst dX11_notice_87 rfl ⟨by decide, by decide⟩, ?_⟩
  refine List.forall_mem_cons.mpr ⟨sn_iret rfl dX11_notice_88, ?_⟩
  refine List.forall_mem_cons.mpr ⟨sn_aload_n dX11_notice_89 rfl rfl, ?_⟩
  refine List.forall_mem_cons.mpr ⟨sn_getr mCl_11 (by decide) rfl kt_284 dX11_notice_90 rfl, ?_⟩
  refine List.forall_mem_cons.mpr ⟨sn_new mCl_2 mDf_2 kt_566 kt_567 kt_16 dX11_notice_93 rfl, ?_⟩
  refine List.forall_mem_cons.mpr ⟨sn_dup dX11_notice_96 rfl, ?_⟩
  refine List.forall_mem_cons.mpr ⟨sn_aload dX11_notice_97 rfl, ?_⟩
  refine List.forall_mem_cons.mpr ⟨sn_iload_n dX11_notice_99 rfl rfl, ?_⟩
  refine List.forall_mem_cons.mpr ⟨sn_iload_n dX11_notice_100 rfl rfl, ?_⟩
  refine List.forall_mem_cons.mpr ⟨sn_iload dX11_notice_101 rfl, ?_⟩
  refine List.forall_mem_cons.mpr ⟨sn_iload dX11_notice_103 rfl, ?_⟩
  refine List.forall_mem_cons.mpr ⟨sn_iload dX11_notice_105 rfl, ?_⟩
  refine List.forall_mem_cons.mpr ⟨sn_iload dX11_notice_107 rfl, ?_⟩
  refine List.forall_mem_cons.mpr ⟨sn_callI mCl_2 mt_20 rfl rfl kt_568 kt_569 dX11_notice_109 rfl, ?_⟩
  refine List.forall_mem_cons.mpr ⟨sn_callV mCl_3 mt_32 rfl kt_603 kt_604 kt_605 dX11_notice_112 rfl, ?_⟩
  refine List.forall_mem_cons.mpr ⟨sn_iret rfl dX11_notice_115, ?_⟩
  exact List.forall_mem_nil _
theorem sX11_over : ∀ q ∈ tX11_over, mSnd mInf iX11_over q.1 q.2 := by
  unfold tX11_over
  refine List.forall_mem_cons.mpr ⟨sn_aload_n dX11_over_0 rfl rfl, ?_⟩
  refine List.forall_mem_cons.mpr ⟨sn_getr mCl_11 (by decide) rfl kt_284 dX11_over_1 rfl, ?_⟩
  refine List.forall_mem_cons.mpr ⟨sn_iload_n dX11_over_4 rfl rfl, ?_⟩
  refine List.forall_mem_cons.mpr ⟨sn_callV mCl_3 mt_26 rfl kt_562 kt_563 kt_564 dX11_over_5 rfl, ?_⟩
  refine List.forall_mem_cons.mpr ⟨sn_ifeq dX11_over_8 (by decide) rfl, ?_⟩
  refine List.forall_mem_cons.mpr ⟨sn_iload_n dX11_over_11 rfl rfl, ?_⟩
  refine List.forall_mem_cons.mpr ⟨sn_iconst dX11_over_12 rfl ⟨by decide, by decide⟩, ?_⟩
  refine List.forall_mem_cons.mpr ⟨sn_icmplt dX11_over_13 (by decide) rfl, ?_⟩
  refine List.forall_mem_cons.mpr ⟨sn_iload_n dX11_over_16 rfl rfl, ?_⟩
  refine List.forall_mem_cons.mpr ⟨sn_sipush dX11_over_17 rfl (by decide) ⟨by decide, by decide⟩, ?_⟩
  refine List.forall_mem_cons.mpr ⟨sn_icmpge dX11_over_20 (by decide) rfl, ?_⟩
  refine List.forall_mem_cons.mpr ⟨sn_iload_n dX11_over_23 rfl rfl, ?_⟩
  refine List.forall_mem_cons.mpr ⟨sn_iconst dX11_over_24 rfl ⟨by decide, by decide⟩, ?_⟩
  refine List.forall_mem_cons.mpr ⟨sn_icmplt dX11_over_25 (by decide) rfl, ?_⟩
  refine List.forall_mem_cons.mpr ⟨sn_iload_n dX11_over_28 rfl rfl, ?_⟩
  refine List.forall_mem_cons.mpr ⟨sn_bipush dX11_over_29 rfl (by decide) ⟨by decide, by decide⟩, ?_⟩
  refine List.forall_mem_cons.mpr ⟨sn_icmple dX11_over_31 (by decide) rfl, ?_⟩
  refine List.forall_mem_cons.mpr ⟨sn_iconst dX11_over_34 rfl ⟨by decide, by decide⟩, ?_⟩
  refine List.forall_mem_cons.mpr ⟨sn_iret rfl dX11_over_35, ?_⟩
  refine List.forall_mem_cons.mpr ⟨sn_aload_n dX11_over_36 rfl rfl, ?_⟩
  refine List.forall_mem_cons.mpr ⟨sn_getr mCl_11 (by decide) rfl kt_284 dX11_over_37 rfl, ?_⟩
  refine List.forall_mem_cons.mpr ⟨sn_geti mCl_3 (by decide) rfl kt_47 dX11_over_40 rfl, ?_⟩
  refine List.forall_mem_cons.mpr ⟨sn_sipush dX11_over_43 rfl (by decide) ⟨by decide, by decide⟩, ?_⟩
  refine List.forall_mem_cons.mpr ⟨sn_icmplt dX11_over_46 (by decide) rfl, ?_⟩
  refine List.forall_mem_cons.mpr ⟨sn_iconst dX11_over_49 rfl ⟨by decide, by decide⟩, ?_⟩
  refine List.forall_mem_cons.mpr ⟨sn_iret rfl dX11_over_50, ?_⟩
  refine List.forall_mem_cons.mpr ⟨sn_aload_n dX11_over_51 rfl rfl, ?_⟩
  refine List.forall_mem_cons.mpr ⟨sn_getr mCl_11 (by decide) rfl kt_284 dX11_over_52 rfl, ?_⟩
  refine List.forall_mem_cons.mpr ⟨sn_new mCl_2 mDf_2 kt_566 kt_567 kt_16 dX11_over_55 rfl, ?_⟩
  refine List.forall_mem_cons.mpr ⟨sn_dup dX11_over_58 rfl, ?_⟩
  refine List.forall_mem_cons.mpr ⟨sn_null dX11_over_59 rfl, ?_⟩
  refine List.forall_mem_cons.mpr ⟨sn_iload_n dX11_over_60 rfl rfl, ?_⟩
  refine List.forall_mem_cons.mpr ⟨sn_iload_n dX11_over_61 rfl rfl, ?_⟩
  refine List.forall_mem_cons.mpr ⟨sn_iload_n dX11_over_62 rfl rfl, ?_⟩
  refine List.forall_mem_cons.mpr ⟨sn_iload_n dX11_over_63 rfl rfl, ?_⟩
  refine List.forall_mem_cons.mpr ⟨sn_iadd dX11_over_64 rfl, ?_⟩
  refine List.forall_mem_cons.mpr ⟨sn_iconst dX11_over_65 rfl ⟨by decide, by decide⟩, ?_⟩
  refine List.forall_mem_cons.mpr ⟨sn_iconst dX11_over_66 rfl ⟨by decide, by decide⟩, ?_⟩
  refine List.forall_mem_cons.mpr ⟨sn_iconst dX11_over_67 rfl ⟨by decide, by decide⟩, ?_⟩
  refine List.forall_mem_cons.mpr ⟨sn_callI mCl_2 mt_20 rfl rfl kt_568 kt_569 dX11_over_68 rfl, ?_⟩
  refine List.forall_mem_cons.mpr ⟨sn_callV mCl_3 mt_32 rfl kt_603 kt_604 kt_605 dX11_over_71 rfl, ?_⟩
  refine List.forall_mem_cons.mpr ⟨sn_iret rfl dX11_over_74, ?_⟩
  exact List.forall_mem_nil _
theorem sX11_recorder : ∀ q ∈ tX11_recorder, mSnd mInf iX11_recorder q.1 q.2 := by
  unfold tX11_recorder
  refine List.forall_mem_cons.mpr ⟨sn_iload_n dX11_recorder_0 rfl rfl, ?_⟩
  refine List.forall_mem_cons.mpr ⟨sn_iconst dX11_recorder_1 rfl ⟨by decide, by decide⟩, ?_⟩
  refine List.forall_mem_cons.mpr ⟨sn_icmplt dX11_recorder_2 (by decide) rfl, ?_⟩
  refine List.forall_mem_cons.mpr ⟨sn_iload_n dX11_recorder_5 rfl rfl, ?_⟩
  refine List.forall_mem_cons.mpr ⟨sn_iconst dX11_recorder_6 rfl ⟨by decide, by decide⟩, ?_⟩
  refine List.forall_mem_cons.mpr ⟨sn_icmpgt dX11_recorder_7 (by decide) rfl, ?_⟩
  refine List.forall_mem_cons.mpr ⟨sn_iload dX11_recorder_10 rfl, ?_⟩
  refine List.forall_mem_cons.mpr ⟨sn_iflt dX11_recorder_12 (by decide) rfl, ?_⟩
  refine List.forall_mem_cons.mpr ⟨sn_iload dX11_recorder_15 rfl, ?_⟩
  refine List.forall_mem_cons.mpr ⟨sn_sipush dX11_recorder_17 rfl (by decide) ⟨by decide, by decide⟩, ?_⟩
  refine List.forall_mem_cons.mpr ⟨sn_icmple dX11_recorder_20 (by decide) rfl, ?_⟩
  refine List.forall_mem_cons.mpr ⟨sn_iconst dX11_recorder_23 rfl ⟨by decide, by decide⟩, ?_⟩
  refine List.forall_mem_cons.mpr ⟨sn_zret rfl dX11_recorder_24, ?_⟩
  refine List.forall_mem_cons.mpr ⟨sn_iload_n dX11_recorder_25 rfl rfl, ?_⟩
  refine List.forall_mem_cons.mpr ⟨sn_iflt dX11_recorder_26 (by decide) rfl, ?_⟩
  refine List.forall_mem_cons.mpr ⟨sn_iload_n dX11_recorder_29 rfl rfl, ?_⟩
  refine List.forall_mem_cons.mpr ⟨sn_bipush dX11_recorder_30 rfl (by decide) ⟨by decide, by decide⟩, ?_⟩
  refine List.forall_mem_cons.mpr ⟨sn_icmpgt dX11_recorder_32 (by decide) rfl, ?_⟩
  refine List.forall_mem_cons.mpr ⟨sn_iload_n dX11_recorder_35 rfl rfl, ?_⟩
  refine List.forall_mem_cons.mpr ⟨sn_iflt dX11_recorder_36 (by decide) rfl, ?_⟩
  refine List.forall_mem_cons.mpr ⟨sn_iload_n dX11_recorder_39 rfl rfl, ?_⟩
  refine List.forall_mem_cons.mpr ⟨sn_bipush dX11_recorder_40 rfl (by decide) ⟨by decide, by decide⟩, ?_⟩
  refine List.forall_mem_cons.mpr ⟨sn_icmple dX11_recorder_42 (by decide) rfl, ?_⟩
  refine List.forall_mem_cons.mpr ⟨sn_iconst dX11_recorder_45 rfl ⟨by decide, by decide⟩, ?_⟩
  refine List.forall_mem_cons.mpr ⟨sn_zret rfl dX11_recorder_46, ?_⟩
  refine List.forall_mem_cons.mpr ⟨sn_aload_n dX11_recorder_47 rfl rfl, ?_⟩
  refine List.forall_mem_cons.mpr ⟨sn_getr mCl_11 (by decide) rfl kt_288 dX11_recorder_48 rfl, ?_⟩
  refine List.forall_mem_cons.mpr ⟨sn_iload_n dX11_recorder_51 rfl rfl, ?_⟩
  refine List.forall_mem_cons.mpr ⟨sn_puti mCl_5 (by decide) rfl (Or.inl rfl) kt_178 dX11_recorder_52 rfl, ?_⟩
  refine List.forall_mem_cons.mpr ⟨sn_aload_n dX11_recorder_55 rfl rfl, ?_⟩
  refine List.forall_mem_cons.mpr ⟨sn_getr mCl_11 (by decide) rfl kt_288 dX11_recorder_56 rfl, ?_⟩
  refine List.forall_mem_cons.mpr ⟨sn_iload_n dX11_recorder_59 rfl rfl, ?_⟩
  refine List.forall_mem_cons.mpr ⟨sn_puti mCl_5 (by decide) rfl (Or.inl rfl) kt_181 dX11_recorder_60 rfl, ?_⟩
  refine List.forall_mem_cons.mpr ⟨sn_aload_n dX11_recorder_63 rfl rfl, ?_⟩
  refine List.forall_mem_cons.mpr ⟨sn_getr mCl_11 (by decide) rfl kt_288 dX11_recorder_64 rfl, ?_⟩
  refine List.forall_mem_cons.mpr ⟨sn_iload_n dX11_recorder_67 rfl rfl, ?_⟩
  refine List.forall_mem_cons.mpr ⟨sn_puti mCl_5 (by decide) rfl (Or.inl rfl) kt_184 dX11_recorder_68 rfl, ?_⟩
  refine List.forall_mem_cons.mpr ⟨sn_aload_n dX11_recorder_71 rfl rfl, ?_⟩
  refine List.forall_mem_cons.mpr ⟨sn_getr mCl_11 (by decide) rfl kt_288 dX11_recorder_72 rfl, ?_⟩
  refine List.forall_mem_cons.mpr ⟨sn_iload dX11_recorder_75 rfl, ?_⟩
  refine List.forall_mem_cons.mpr ⟨sn_puti mCl_5 (by decide) rfl (Or.inl rfl) kt_187 dX11_recorder_77 rfl, ?_⟩
  refine List.forall_mem_cons.mpr ⟨sn_iconst dX11_recorder_80 rfl ⟨by decide, by decide⟩, ?_⟩
  refine List.forall_mem_cons.mpr ⟨sn_zret rfl dX11_recorder_81, ?_⟩
  exact List.forall_mem_nil _
theorem sX11_clock : ∀ q ∈ tX11_clock, mSnd mInf iX11_clock q.1 q.2 := by
  unfold tX11_clock
  refine List.forall_mem_cons.mpr ⟨sn_iload_n dX11_clock_0 rfl rfl, ?_⟩
  refine List.forall_mem_cons.mpr ⟨sn_aload_n dX11_clock_1 rfl rfl, ?_⟩
  refine List.forall_mem_cons.mpr ⟨sn_getr mCl_11 (by decide) rfl kt_288 dX11_clock_2 rfl, ?_⟩
  refine List.forall_mem_cons.mpr ⟨sn_geti mCl_5 (by decide) rfl kt_189 dX11_clock_5 rfl, ?_⟩
  refine List.forall_mem_cons.mpr ⟨sn_icmplt dX11_clock_8 (by decide) rfl, ?_⟩
  refine List.forall_mem_cons.mpr ⟨sn_iload_n dX11_clock_11 rfl rfl, ?_⟩
  refine List.forall_mem_cons.mpr ⟨sn_sipush dX11_clock_12 rfl (by decide) ⟨by decide, by decide⟩, ?_⟩
  refine List.forall_mem_cons.mpr ⟨sn_icmplt dX11_clock_15 (by decide) rfl, ?_⟩
  refine List.forall_mem_cons.mpr ⟨sn_iconst dX11_clock_18 rfl ⟨by decide, by decide⟩, ?_⟩
  refine List.forall_mem_cons.mpr ⟨sn_zret rfl dX11_clock_19, ?_⟩
  refine List.forall_mem_cons.mpr ⟨sn_aload_n dX11_clock_20 rfl rfl, ?_⟩
  refine List.forall_mem_cons.mpr ⟨sn_getr mCl_11 (by decide) rfl kt_288 dX11_clock_21 rfl, ?_⟩
  refine List.forall_mem_cons.mpr ⟨sn_iload_n dX11_clock_24 rfl rfl, ?_⟩
  refine List.forall_mem_cons.mpr ⟨sn_puti mCl_5 (by decide) rfl (Or.inl rfl) kt_189 dX11_clock_25 rfl, ?_⟩
  refine List.forall_mem_cons.mpr ⟨sn_iconst dX11_clock_28 rfl ⟨by decide, by decide⟩, ?_⟩
  refine List.forall_mem_cons.mpr ⟨sn_zret rfl dX11_clock_29, ?_⟩
  exact List.forall_mem_nil _
theorem sX11_sent : ∀ q ∈ tX11_sent, mSnd mInf iX11_sent q.1 q.2 := by
  unfold tX11_sent
  refine List.forall_mem_cons.mpr ⟨sn_aload_n dX11_sent_0 rfl rfl, ?_⟩
  refine List.forall_mem_cons.mpr ⟨sn_getr mCl_11 (by decide) rfl kt_284 dX11_sent_1 rfl, ?_⟩
  refine List.forall_mem_cons.mpr ⟨sn_iload_n dX11_sent_4 rfl rfl, ?_⟩
  refine List.forall_mem_cons.mpr ⟨sn_callV mCl_3 mt_26 rfl kt_562 kt_563 kt_564 dX11_sent_5 rfl, ?_⟩
  refine List.forall_mem_cons.mpr ⟨sn_ifeq dX11_sent_8 (by decide) rfl, ?_⟩
  refine List.forall_mem_cons.mpr ⟨sn_iload_n dX11_sent_11 rfl rfl, ?_⟩
  refine List.forall_mem_cons.mpr ⟨sn_iflt dX11_sent_12 (by decide) rfl, ?_⟩
  refine List.forall_mem_cons.mpr ⟨sn_iload_n dX11_sent_15 rfl rfl, ?_⟩
  refine List.forall_mem_cons.mpr ⟨sn_sipush dX11_sent_16 rfl (by decide) ⟨by decide, by decide⟩, ?_⟩
  refine List.forall_mem_cons.mpr ⟨sn_icmpge dX11_sent_19 (by decide) rfl, ?_⟩
  refine List.forall_mem_cons.mpr ⟨sn_aload_n dX11_sent_22 rfl rfl, ?_⟩
  refine List.forall_mem_cons.mpr ⟨sn_getr mCl_11 (by decide) rfl kt_284 dX11_sent_23 rfl, ?_⟩
  refine List.forall_mem_cons.mpr ⟨sn_iload_n dX11_sent_26 rfl rfl, ?_⟩
  refine List.forall_mem_cons.mpr ⟨sn_callV mCl_3 mt_27 rfl kt_623 kt_624 kt_625 dX11_sent_27 rfl, ?_⟩
  refine List.forall_mem_cons.mpr ⟨sn_ifne dX11_sent_30 (by decide) rfl, ?_⟩
  refine List.forall_mem_cons.mpr ⟨sn_iconst dX11_sent_33 rfl ⟨by decide, by decide⟩, ?_⟩
  refine List.forall_mem_cons.mpr ⟨sn_iret rfl dX11_sent_34, ?_⟩
  refine List.forall_mem_cons.mpr ⟨sn_aload_n dX11_sent_35 rfl rfl, ?_⟩
  refine List.forall_mem_cons.mpr ⟨sn_getr mCl_11 (by decide) rfl kt_285 dX11_sent_36 rfl, ?_⟩
  refine List.forall_mem_cons.mpr ⟨sn_aload_n dX11_sent_39 rfl rfl, ?_⟩
  refine List.forall_mem_cons.mpr ⟨sn_getr mCl_11 (by decide) rfl kt_284 dX11_sent_40 rfl, ?_⟩
  refine List.forall_mem_cons.mpr ⟨sn_iload_n dX11_sent_43 rfl rfl, ?_⟩
  refine List.forall_mem_cons.mpr ⟨sn_callV mCl_1 mt_8 rfl kt_627 kt_628 kt_629 dX11_sent_44 rfl, ?_⟩
  refine List.forall_mem_cons.mpr ⟨sn_aload_n dX11_sent_47 rfl rfl, ?_⟩
  refine List.forall_mem_cons.mpr ⟨sn_getr mCl_11 (by decide) rfl kt_285 dX11_sent_48 rfl, ?_⟩
  refine List.forall_mem_cons.mpr ⟨sn_iload_n dX11_sent_51 rfl rfl, ?_⟩
  refine List.forall_mem_cons.mpr ⟨sn_iload_n dX11_sent_52 rfl rfl, ?_⟩
  refine List.forall_mem_cons.mpr ⟨sn_callV mCl_1 mt_9 rfl kt_757 kt_758 kt_759 dX11_sent_53 rfl, ?_⟩
  refine List.forall_mem_cons.mpr ⟨sn_iret rfl dX11_sent_56, ?_⟩
  exact List.forall_mem_nil _
theorem sX11_says : ∀ q ∈ tX11_says, mSnd mInf iX11_says q.1 q.2 := by
  unfold tX11_says
  refine List.forall_mem_cons.mpr ⟨sn_aload_n dX11_says_0 rfl rfl, ?_⟩
  refine List.forall_mem_cons.mpr ⟨sn_getr mCl_11 (by decide) rfl kt_284 dX11_says_1 rfl, ?_⟩
  refine List.forall_mem_cons.mpr ⟨sn_iload_n dX11_says_4 rfl rfl, ?_⟩
  refine List.forall_mem_cons.mpr ⟨sn_callV mCl_3 mt_28 rfl kt_558 kt_559 kt_560 dX11_says_5 rfl, ?_⟩
  refine List.forall_mem_cons.mpr ⟨sn_astore dX11_says_8 rfl, ?_⟩
  refine List.forall_mem_cons.mpr ⟨sn_aload dX11_says_10 rfl, ?_⟩
  refine List.forall_mem_cons.mpr ⟨sn_ifnull dX11_says_12 (by decide) rfl, ?_⟩
  refine List.forall_mem_cons.mpr ⟨sn_aload_n dX11_says_15 rfl rfl, ?_⟩
  refine List.forall_mem_cons.mpr ⟨sn_getr mCl_11 (by decide) rfl kt_284 dX11_says_16 rfl, ?_⟩
  refine List.forall_mem_cons.mpr ⟨sn_iload_n dX11_says_19 rfl rfl, ?_⟩
  refine List.forall_mem_cons.mpr ⟨sn_callV mCl_3 mt_26 rfl kt_562 kt_563 kt_564 dX11_says_20 rfl, ?_⟩
  refine List.forall_mem_cons.mpr ⟨sn_ifeq dX11_says_23 (by decide) rfl, ?_⟩
  refine List.forall_mem_cons.mpr ⟨sn_iload_n dX11_says_26 rfl rfl, ?_⟩
  refine List.forall_mem_cons.mpr ⟨sn_iflt dX11_says_27 (by decide) rfl, ?_⟩
  refine List.forall_mem_cons.mpr ⟨sn_iload_n dX11_says_30 rfl rfl, ?_⟩
  refine List.forall_mem_cons.mpr ⟨sn_sipush dX11_says_31 rfl (by decide) ⟨by decide, by decide⟩, ?_⟩
  refine List.forall_mem_cons.mpr ⟨sn_icmpge dX11_says_34 (by decide) rfl, ?_⟩
  refine List.forall_mem_cons.mpr ⟨sn_aload_n dX11_says_37 rfl rfl, ?_⟩
  refine List.forall_mem_cons.mpr ⟨sn_getr mCl_11 (by decide) rfl kt_284 dX11_says_38 rfl, ?_⟩
  refine List.forall_mem_cons.mpr ⟨sn_iload dX11_says_41 rfl, ?_⟩
  refine List.forall_mem_cons.mpr ⟨sn_callV mCl_3 mt_27 rfl kt_623 kt_624 kt_625 dX11_says_43 rfl, ?_⟩
  refine List.forall_mem_cons.mpr ⟨sn_ifne dX11_says_46 (by decide) rfl, ?_⟩
  refine List.forall_mem_cons.mpr ⟨sn_iconst dX11_says_49 rfl ⟨by decide, by decide⟩, ?_⟩
  refine List.forall_mem_cons.mpr ⟨sn_iret rfl dX11_says_50, ?_⟩
  refine List.forall_mem_cons.mpr ⟨sn_aload_n dX11_says_51 rfl rfl, ?_⟩
  refine List.forall_mem_cons.mpr ⟨sn_getr mCl_11 (by decide) rfl kt_284 dX11_says_52 rfl, ?_⟩
  refine List.forall_mem_cons.mpr ⟨sn_aload dX11_says_55 rfl, ?_⟩
  refine List.forall_mem_cons.mpr ⟨sn_iload_n dX11_says_57 rfl rfl, ?_⟩
  refine List.forall_mem_cons.mpr ⟨sn_iload_n dX11_says_58 rfl rfl, ?_⟩
  refine List.forall_mem_cons.mpr ⟨sn_iload dX11_says_59 rfl, ?_⟩
  refine List.forall_mem_cons.mpr ⟨sn_callV mCl_3 mt_33 rfl kt_765 kt_766 kt_767 dX11_says_61 rfl, ?_⟩
  refine List.forall_mem_cons.mpr ⟨sn_iret rfl dX11_says_64, ?_⟩
  exact List.forall_mem_nil _
theorem sX11_showing : ∀ q ∈ tX11_showing, mSnd mInf iX11_showing q.1 q.2 := by
  unfold tX11_showing
  refine List.forall_mem_cons.mpr ⟨sn_aload_n dX11_showing_0 rfl rfl, ?_⟩
  refine List.forall_mem_cons.mpr ⟨sn_iload_n dX11_showing_1 rfl rfl, ?_⟩
  refine List.forall_mem_cons.mpr ⟨sn_iload_n dX11_showing_2 rfl rfl, ?_⟩
  refine List.forall_mem_cons.mpr ⟨sn_callV mCl_11 mt_121 rfl kt_779 kt_781 kp_24 dX11_showing_3 rfl, ?_⟩
  refine List.forall_mem_cons.mpr ⟨sn_astore dX11_showing_6 rfl, ?_⟩
  refine List.forall_mem_cons.mpr ⟨sn_aload dX11_showing_8 rfl, ?_⟩
  refine List.forall_mem_cons.mpr ⟨sn_ifnonnull dX11_showing_10 (by decide) rfl, ?_⟩
  refine List.forall_mem_cons.mpr ⟨sn_iconst dX11_showing_13 rfl ⟨by decide, by decide⟩, ?_⟩
  refine List.forall_mem_cons.mpr ⟨sn_iret rfl dX11_showing_14, ?_⟩
  refine List.forall_mem_cons.mpr ⟨sn_iload_n dX11_showing_15 rfl rfl, ?_⟩
  refine List.forall_mem_cons.mpr ⟨sn_tsw dX11_showing_16 (by decide) (by decide) rfl, ?_⟩
  refine List.forall_mem_cons.mpr ⟨sn_aload dX11_showing_68 rfl, ?_⟩
  refine List.forall_mem_cons.mpr ⟨sn_geti mCl_6 (by decide) rfl kt_693 dX11_showing_70 rfl, ?_⟩
  refine List.forall_mem_cons.mpr ⟨sn_iret rfl dX11_showing_73, ?_⟩
  refine List.forall_mem_cons.mpr ⟨sn_aload dX11_showing_74 rfl, ?_⟩
  refine List.forall_mem_cons.mpr ⟨sn_geti mCl_6 (by decide) rfl kt_697 dX11_showing_76 rfl, ?_⟩
  refine List.forall_mem_cons.mpr ⟨sn_iret rfl dX11_showing_79, ?_⟩
  refine List.forall_mem_cons.mpr ⟨sn_aload dX11_showing_80 rfl, ?_⟩
  refine List.forall_mem_cons.mpr ⟨sn_geti mCl_6 (by decide) rfl kt_701 dX11_showing_82 rfl, ?_⟩
  refine List.forall_mem_cons.mpr ⟨sn_iret rfl dX11_showing_85, ?_⟩
  refine List.forall_mem_cons.mpr ⟨sn_aload dX11_showing_86 rfl, ?_⟩
  refine List.forall_mem_cons.mpr ⟨sn_geti mCl_6 (by decide) rfl kt_705 dX11_showing_88 rfl, ?_⟩
  refine List.forall_mem_cons.mpr ⟨sn_iret rfl dX11_showing_91, ?_⟩
  refine List.forall_mem_cons.mpr ⟨sn_aload dX11_showing_92 rfl, ?_⟩
  refine List.forall_mem_cons.mpr ⟨sn_geti mCl_6 (by decide) rfl kt_710 dX11_showing_94 rfl, ?_⟩
  refine List.forall_mem_cons.mpr ⟨sn_iret rfl dX11_showing_97, ?_⟩
  refine List.forall_mem_cons.mpr ⟨sn_aload dX11_showing_98 rfl, ?_⟩
  refine List.forall_mem_cons.mpr ⟨sn_geti mCl_6 (by decide) rfl kt_715 dX11_showing_100 rfl, ?_⟩
  refine List.forall_mem_cons.mpr ⟨sn_iret rfl dX11_showing_103, ?_⟩
  refine List.forall_mem_cons.mpr ⟨sn_aload_n dX11_showing_104 rfl rfl, ?_⟩
  refine List.forall_mem_cons.mpr ⟨sn_getr mCl_11 (by decide) rfl kt_289 dX11_showing_105 rfl, ?_⟩
  refine List.forall_mem_cons.mpr ⟨sn_aload dX11_showing_108 rfl, ?_⟩
  refine List.forall_mem_cons.mpr ⟨sn_callV mCl_10 mt_97 rfl kt_787 kt_788 kt_789 dX11_showing_110 rfl, ?_⟩
  refine List.forall_mem_cons.mpr ⟨sn_iret rfl dX11_showing_113, ?_⟩
  refine List.forall_mem_cons.mpr ⟨sn_aload dX11_showing_114 rfl, ?_⟩
  refine List.forall_mem_cons.mpr ⟨sn_geti mCl_6 (by decide) rfl kt_723 dX11_showing_116 rfl, ?_⟩
  refine List.forall_mem_cons.mpr ⟨sn_iret rfl dX11_showing_119, ?_⟩
  refine List.forall_mem_cons.mpr ⟨sn_aload_n dX11_showing_120 rfl rfl, ?_⟩
  refine List.forall_mem_cons.mpr ⟨sn_getr mCl_11 (by decide) rfl kt_285 dX11_showing_121 rfl, ?_⟩
  refine List.forall_mem_cons.mpr ⟨sn_aload dX11_showing_124 rfl, ?_⟩
  refine List.forall_mem_cons.mpr ⟨sn_callV mCl_1 mt_11 rfl kt_803 kt_804 kt_805 dX11_showing_126 rfl, ?_⟩
  refine List.forall_mem_cons.mpr ⟨sn_iret rfl dX11_showing_129, ?_⟩
  refine List.forall_mem_cons.mpr ⟨sn_iconst dX11_showing_130 rfl ⟨by decide, by decide⟩, ?_⟩
  refine List.forall_mem_cons.mpr ⟨sn_iret rfl dX11_showing_131, ?_⟩
  exact List.forall_mem_nil _
theorem sX11_showings : ∀ q ∈ tX11_showings, mSnd mInf iX11_showings q.1 q.2 := by
  unfold tX11_showings
  refine List.forall_mem_cons.mpr ⟨sn_aload_n dX11_showings_0 rfl rfl, ?_⟩
  refine List.forall_mem_cons.mpr ⟨sn_getr mCl_11 (by decide) rfl kt_284 dX11_showings_1 rfl, ?_⟩
  refine List.forall_mem_cons.mpr ⟨sn_iload_n dX11_showings_4 rfl rfl, ?_⟩
  refine List.forall_mem_cons.mpr ⟨sn_callV mCl_3 mt_27 rfl kt_623 kt_624 kt_625 dX11_showings_5 rfl, ?_⟩
  refine List.forall_mem_cons.mpr ⟨sn_ifne dX11_showings_8 (by decide) rfl, ?_⟩
  refine List.forall_mem_cons.mpr ⟨sn_iconst dX11_showings_11 rfl ⟨by decide, by decide⟩, ?_⟩
  refine List.forall_mem_cons.mpr ⟨sn_iret rfl dX11_showings_12, ?_⟩
  refine List.forall_mem_cons.mpr ⟨sn_aload_n dX11_showings_13 rfl rfl, ?_⟩
  refine List.forall_mem_cons.mpr ⟨sn_getr mCl_11 (by decide) rfl kt_285 dX11_showings_14 rfl, ?_⟩
  refine List.forall_mem_cons.mpr ⟨sn_aload_n dX11_showings_17 rfl rfl, ?_⟩
  refine List.forall_mem_cons.mpr ⟨sn_getr mCl_11 (by decide) rfl kt_284 dX11_showings_18 rfl, ?_⟩
  refine List.forall_mem_cons.mpr ⟨sn_iload_n dX11_showings_21 rfl rfl, ?_⟩
  refine List.forall_mem_cons.mpr ⟨sn_callV mCl_1 mt_8 rfl kt_627 kt_628 kt_629 dX11_showings_22 rfl, ?_⟩
  refine List.forall_mem_cons.mpr ⟨sn_aload_n dX11_showings_25 rfl rfl, ?_⟩
  refine List.forall_mem_cons.mpr ⟨sn_getr mCl_11 (by decide) rfl kt_285 dX11_showings_26 rfl, ?_⟩
  refine List.forall_mem_cons.mpr ⟨sn_geti mCl_1 (by decide) rfl kt_76 dX11_showings_29 rfl, ?_⟩
  refine List.forall_mem_cons.mpr ⟨sn_iret rfl dX11_showings_32, ?_⟩
  exact List.forall_mem_nil _
theorem sX11_holds : ∀ q ∈ tX11_holds, mSnd mInf iX11_holds q.1 q.2 := by
  unfold tX11_holds
  refine List.forall_mem_cons.mpr ⟨sn_aload_n dX11_holds_0 rfl rfl, ?_⟩
  refine List.forall_mem_cons.mpr ⟨sn_iload_n dX11_holds_1 rfl rfl, ?_⟩
  refine List.forall_mem_cons.mpr ⟨sn_iload_n dX11_holds_2 rfl rfl, ?_⟩
  refine List.forall_mem_cons.mpr ⟨sn_callV mCl_11 mt_121 rfl kt_779 kt_781 kp_24 dX11_holds_3 rfl, ?_⟩
  refine List.forall_mem_cons.mpr ⟨sn_astore dX11_holds_6 rfl, ?_⟩
  refine List.forall_mem_cons.mpr ⟨sn_aload dX11_holds_8 rfl, ?_⟩
  refine List.forall_mem_cons.mpr ⟨sn_ifnull dX11_holds_10 (by decide) rfl, ?_⟩
  refine List.forall_mem_cons.mpr ⟨sn_iload_n dX11_holds_13 rfl rfl, ?_⟩
  refine List.forall_mem_cons.mpr ⟨sn_iflt dX11_holds_14 (by decide) rfl, ?_⟩
  refine List.forall_mem_cons.mpr ⟨sn_iload_n dX11_holds_17 rfl rfl, ?_⟩
  refine List.forall_mem_cons.mpr ⟨sn_aload_n dX11_holds_18 rfl rfl, ?_⟩
  refine List.forall_mem_cons.mpr ⟨sn_getr mCl_11 (by decide) rfl kt_289 dX11_holds_19 rfl, ?_⟩
  refine List.forall_mem_cons.mpr ⟨sn_geti mCl_10 (by decide) rfl kt_233 dX11_holds_22 rfl, ?_⟩
  refine List.forall_mem_cons.mpr ⟨sn_icmplt dX11_holds_25 (by decide) rfl, ?_⟩
  refine List.forall_mem_cons.mpr ⟨sn_iconst dX11_holds_28 rfl ⟨by decide, by decide⟩, ?_⟩
  refine List.forall_mem_cons.mpr ⟨sn_iret rfl dX11_holds_29, ?_⟩
  refine List.forall_mem_cons.mpr ⟨sn_aload_n dX11_holds_30 rfl rfl, ?_⟩
  refine List.forall_mem_cons.mpr ⟨sn_getr mCl_11 (by decide) rfl kt_289 dX11_holds_31 rfl, ?_⟩
  refine List.forall_mem_cons.mpr ⟨sn_iload_n dX11_holds_34 rfl rfl, ?_⟩
  refine List.forall_mem_cons.mpr ⟨sn_aload dX11_holds_35 rfl, ?_⟩
  refine List.forall_mem_cons.mpr ⟨sn_callV mCl_10 mt_98 rfl kt_820 kt_792 kt_793 dX11_holds_37 rfl, ?_⟩
  refine List.forall_mem_cons.mpr ⟨sn_ifeq dX11_holds_40 (by decide) rfl, ?_⟩
  refine List.forall_mem_cons.mpr ⟨sn_iconst dX11_holds_43 rfl ⟨by decide, by decide⟩, ?_⟩
  refine List.forall_mem_cons.mpr ⟨sn_goto dX11_holds_44 (by decide), ?_⟩
  refine List.forall_mem_cons.mpr ⟨sn_iconst dX11_holds_47 rfl ⟨by decide, by decide⟩, ?_⟩
  refine List.forall_mem_cons.mpr ⟨sn_iret rfl dX11_holds_48, ?_⟩
  exact List.forall_mem_nil _
theorem sX11_plan : ∀ q ∈ tX11_plan, mSnd mInf iX11_plan q.1 q.2 := by
  unfold tX11_plan
  refine List.forall_mem_cons.mpr ⟨sn_aload_n dX11_plan_0 rfl rfl, ?_⟩
  refine List.forall_mem_cons.mpr ⟨sn_getr mCl_11 (by decide) rfl kt_284 dX11_plan_1 rfl, ?_⟩
  refine List.forall_mem_cons.mpr ⟨sn_iload_n dX11_plan_4 rfl rfl, ?_⟩
  refine List.forall_mem_cons.mpr ⟨sn_callV mCl_3 mt_27 rfl kt_623 kt_624 kt_625 dX11_plan_5 rfl, ?_⟩
  refine List.forall_mem_cons.mpr ⟨sn_ifne dX11_plan_8 (by decide) rfl, ?_⟩
  refine List.forall_mem_cons.mpr ⟨sn_iconst dX11_plan_11 rfl ⟨by decide, by decide⟩, ?_⟩
  refine List.forall_mem_cons.mpr ⟨sn_iret rfl dX11_plan_12, ?_⟩
  refine List.forall_mem_cons.mpr ⟨sn_aload_n dX11_plan_13 rfl rfl, ?_⟩
  refine List.forall_mem_cons.mpr ⟨sn_getr mCl_11 (by decide) rfl kt_285 dX11_plan_14 rfl, ?_⟩
  refine List.forall_mem_cons.mpr ⟨sn_aload_n dX11_plan_17 rfl rfl, ?_⟩
  refine List.forall_mem_cons.mpr ⟨sn_getr mCl_11 (by decide) rfl kt_284 dX11_plan_18 rfl, ?_⟩
  refine List.forall_mem_cons.mpr ⟨sn_iload_n dX11_plan_21 rfl rfl, ?_⟩
  refine List.forall_mem_cons.mpr ⟨sn_callV mCl_1 mt_8 rfl kt_627 kt_628 kt_629 dX11_plan_22 rfl, ?_⟩
  refine List.forall_mem_cons.mpr ⟨sn_aload_n dX11_plan_25 rfl rfl, ?_⟩
  refine List.forall_mem_cons.mpr ⟨sn_getr mCl_11 (by decide) rfl kt_292 dX11_plan_26 rfl, ?_⟩
  refine List.forall_mem_cons.mpr ⟨sn_aload_n dX11_plan_29 rfl rfl, ?_⟩
  refine List.forall_mem_cons.mpr ⟨sn_getr mCl_11 (by decide) rfl kt_285 dX11_plan_30 rfl, ?_⟩
  refine List.forall_mem_cons.mpr ⟨sn_aload_n dX11_plan_33 rfl rfl, ?_⟩
  refine List.forall_mem_cons.mpr ⟨sn_getr mCl_11 (by decide) rfl kt_289 dX11_plan_34 rfl, ?_⟩
  refine List.forall_mem_cons.mpr ⟨sn_aload_n dX11_plan_37 rfl rfl, ?_⟩
  refine List.forall_mem_cons.mpr ⟨sn_getr mCl_11 (by decide) rfl kt_288 dX11_plan_38 rfl, ?_⟩
  refine List.forall_mem_cons.mpr ⟨sn_callV mCl_4 mt_36 rfl kt_825 kt_826 kt_827 dX11_plan_41 rfl, ?_⟩
  refine List.forall_mem_cons.mpr ⟨sn_ifne dX11_plan_44 (by decide) rfl, ?_⟩
  refine List.forall_mem_cons.mpr ⟨sn_bipush dX11_plan_47 rfl (by decide) ⟨by decide, by decide⟩, ?_⟩
  refine List.forall_mem_cons.mpr ⟨sn_iret rfl dX11_plan_49, ?_⟩
  refine List.forall_mem_cons.mpr ⟨sn_aload_n dX11_plan_50 rfl rfl, ?_⟩
  refine List.forall_mem_cons.mpr ⟨sn_getr mCl_11 (by decide) rfl kt_292 dX11_plan_51 rfl, ?_⟩
  refine List.forall_mem_cons.mpr ⟨sn_aload_n dX11_plan_54 rfl rfl, ?_⟩
  refine List.forall_mem_cons.mpr ⟨sn_getr mCl_11 (by decide) rfl kt_291 dX11_plan_55 rfl, ?_⟩
  refine List.forall_mem_cons.mpr ⟨sn_aload_n dX11_plan_58 rfl rfl, ?_⟩
  refine List.forall_mem_cons.mpr ⟨sn_getr mCl_11 (by decide) rfl kt_288 dX11_plan_59 rfl, ?_⟩
  refine List.forall_mem_cons.mpr ⟨sn_geti mCl_5 (by decide) rfl kt_189 dX11_plan_62 rfl, ?_⟩
  refine List.forall_mem_cons.mpr ⟨sn_callV mCl_4 mt_37 rfl kt_911 kt_912 kt_913 dX11_plan_65 rfl, ?_⟩
  refine List.forall_mem_cons.mpr ⟨sn_aload_n dX11_plan_68 rfl rfl, ?_⟩
  refine List.forall_mem_cons.mpr ⟨sn_getr mCl_11 (by decide) rfl kt_288 dX11_plan_69 rfl, ?_⟩
  refine List.forall_mem_cons.mpr ⟨sn_aload_n dX11_plan_72 rfl rfl, ?_⟩
  refine List.forall_mem_cons.mpr ⟨sn_getr mCl_11 (by decide) rfl kt_292 dX11_plan_73 rfl, ?_⟩
  refine List.forall_mem_cons.mpr ⟨sn_callV mCl_5 mt_49 rfl kt_939 kt_940 kt_941 dX11_plan_76 rfl, ?_⟩
  refine List.forall_mem_cons.mpr ⟨sn_aload_n dX11_plan_79 rfl rfl, ?_⟩
  refine List.forall_mem_cons.mpr ⟨sn_getr mCl_11 (by decide) rfl kt_292 dX11_plan_80 rfl, ?_⟩
  refine List.forall_mem_cons.mpr ⟨sn_aload_n dX11_plan_83 rfl rfl, ?_⟩
  refine List.forall_mem_cons.mpr ⟨sn_getr mCl_11 (by decide) rfl kt_288 dX11_plan_84 rfl, ?_⟩
  refine List.forall_mem_cons.mpr ⟨sn_callV mCl_4 mt_41 rfl kt_979 kt_980 kt_981 dX11_plan_87 rfl, ?_⟩
  refine List.forall_mem_cons.mpr ⟨sn_aload_n dX11_plan_90 rfl rfl, ?_⟩
  refine List.forall_mem_cons.mpr ⟨sn_getr mCl_11 (by decide) rfl kt_291 dX11_plan_91 rfl, ?_⟩
  refine List.forall_mem_cons.mpr ⟨sn_astore_n dX11_plan_94 rfl rfl, ?_⟩
  refine List.forall_mem_cons.mpr ⟨sn_aload_n dX11_plan_95 rfl rfl, ?_⟩
  refine List.forall_mem_cons.mpr ⟨sn_aload_n dX11_plan_96 rfl rfl, ?_⟩
  refine List.forall_mem_cons.mpr ⟨sn_getr mCl_11 (by decide) rfl kt_292 dX11_plan_97 rfl, ?_⟩
  refine List.forall_mem_cons.mpr ⟨sn_putr mCl_11 (by decide) rfl (Or.inl rfl) kt_291 dX11_plan_100 rfl, ?_⟩
  refine List.forall_mem_cons.mpr ⟨sn_aload_n dX11_plan_103 rfl rfl, ?_⟩
  refine List.forall_mem_cons.mpr ⟨sn_aload_n dX11_plan_104 rfl rfl, ?_⟩
  refine List.forall_mem_cons.mpr ⟨sn_putr mCl_11 (by decide) rfl (Or.inl rfl) kt_292 dX11_plan_105 rfl, ?_⟩
  refine List.forall_mem_cons.mpr ⟨sn_aload_n dX11_plan_108 rfl rfl, ?_⟩
  refine List.forall_mem_cons.mpr ⟨sn_getr mCl_11 (by decide) rfl kt_291 dX11_plan_109 rfl, ?_⟩
  refine List.forall_mem_cons.mpr ⟨sn_geti mCl_4 (by decide) rfl kt_267 dX11_plan_112 rfl, ?_⟩
  refine List.forall_mem_cons.mpr ⟨sn_iret rfl dX11_plan_115, ?_⟩
  exact List.forall_mem_nil _
theorem sX11_candidate : ∀ q ∈ tX11_candidate, mSnd mInf iX11_candidate q.1 q.2 := by
  unfold tX11_candidate
  refine List.forall_mem_cons.mpr ⟨sn_aload_n dX11_candidate_0 rfl rfl, ?_⟩
  refine List.forall_mem_cons.mpr ⟨sn_getr mCl_11 (by decide) rfl kt_291 dX11_candidate_1 rfl, ?_⟩
  refine List.forall_mem_cons.mpr ⟨sn_iload_n dX11_candidate_4 rfl rfl, ?_⟩
  refine List.forall_mem_cons.mpr ⟨sn_callV mCl_4 mt_35 rfl kt_1015 kt_916 kt_917 dX11_candidate_5 rfl, ?_⟩
  refine List.forall_mem_cons.mpr ⟨sn_astore_n dX11_candidate_8 rfl rfl, ?_⟩
  refine List.forall_mem_cons.mpr ⟨sn_aload_n dX11_candidate_9 rfl rfl, ?_⟩
  refine List.forall_mem_cons.mpr ⟨sn_ifnonnull dX11_candidate_10 (by decide) rfl, ?_⟩
  refine List.forall_mem_cons.mpr ⟨sn_iconst dX11_candidate_13 rfl ⟨by decide, by decide⟩, ?_⟩
  refine List.forall_mem_cons.mpr ⟨sn_iret rfl dX11_candidate_14, ?_⟩
  refine List.forall_mem_cons.mpr ⟨sn_iload_n dX11_candidate_15 rfl rfl, ?_⟩
  refine List.forall_mem_cons.mpr ⟨sn_tsw dX11_candidate_16 (by decide) (by decide) rfl, ?_⟩
  refine List.forall_mem_cons.mpr ⟨sn_aload_n dX11_candidate_52 rfl rfl, ?_⟩
  refine List.forall_mem_cons.mpr ⟨sn_geti mCl_0 (by decide) rfl kt_837 dX11_candidate_53 rfl, ?_⟩
  refine List.forall_mem_cons.mpr ⟨sn_iret rfl dX11_candidate_56, ?_⟩
  refine List.forall_mem_cons.mpr ⟨sn_aload_n dX11_candidate_57 rfl rfl, ?_⟩
  refine List.forall_mem_cons.mpr ⟨sn_geti mCl_0 (by decide) rfl kt_855 dX11_candidate_58 rfl, ?_⟩
  refine List.forall_mem_cons.mpr ⟨sn_ifeq dX11_candidate_61 (by decide) rfl, ?_⟩
  refine List.forall_mem_cons.mpr ⟨sn_iconst dX11_candidate_64 rfl ⟨by decide, by decide⟩, ?_⟩
  refine List.forall_mem_cons.mpr ⟨sn_goto dX11_candidate_65 (by decide), ?_⟩
  refine List.forall_mem_cons.mpr ⟨sn_iconst dX11_candidate_68 rfl ⟨by decide, by decide⟩, ?_⟩
  refine List.forall_mem_cons.mpr ⟨sn_iret rfl dX11_candidate_69, ?_⟩
  refine List.forall_mem_cons.mpr ⟨sn_aload_n dX11_candidate_70 rfl rfl, ?_⟩
  refine List.forall_mem_cons.mpr ⟨sn_geti mCl_0 (by decide) rfl kt_857 dX11_candidate_71 rfl, ?_⟩
  refine List.forall_mem_cons.mpr ⟨sn_iret rfl dX11_candidate_74, ?_⟩
  refine List.forall_mem_cons.mpr ⟨sn_aload_n dX11_candidate_75 rfl rfl, ?_⟩
  refine List.forall_mem_cons.mpr ⟨sn_geti mCl_0 (by decide) rfl kt_859 dX11_candidate_76 rfl, ?_⟩
  refine List.forall_mem_cons.mpr ⟨sn_iret rfl dX11_candidate_79, ?_⟩
  refine List.forall_mem_cons.mpr ⟨sn_aload_n dX11_candidate_80 rfl rfl, ?_⟩
  refine List.forall_mem_cons.mpr ⟨sn_geti mCl_0 (by decide) rfl kt_851 dX11_candidate_81 rfl, ?_⟩
  refine List.forall_mem_cons.mpr ⟨sn_ifeq dX11_candidate_84 (by decide) rfl, ?_⟩
  refine List.forall_mem_cons.mpr ⟨sn_iconst dX11_candidate_87 rfl ⟨by decide, by decide⟩, ?_⟩
  refine List.forall_mem_cons.mpr ⟨sn_goto dX11_candidate_88 (by decide), ?_⟩
  refine List.forall_mem_cons.mpr ⟨sn_iconst dX11_candidate_91 rfl ⟨by decide, by decide⟩, ?_⟩
  refine List.forall_mem_cons.mpr ⟨sn_iret rfl dX11_candidate_92, ?_⟩
  refine List.forall_mem_cons.mpr ⟨sn_iconst dX11_candidate_93 rfl ⟨by decide, by decide⟩, ?_⟩
  refine List.forall_mem_cons.mpr ⟨sn_iret rfl dX11_candidate_94, ?_⟩
  exact List.forall_mem_nil _
theorem sX11_count : ∀ q ∈ tX11_count, mSnd mInf iX11_count q.1 q.2 := by
  unfold tX11_count
  refine List.forall_mem_cons.mpr ⟨sn_iload_n dX11_count_0 rfl rfl, ?_⟩
  refine List.forall_mem_cons.mpr ⟨sn_tsw dX11_count_1 (by decide) (by decide) rfl, ?_⟩
  refine List.forall_mem_cons.mpr ⟨sn_aload_n dX11_count_56 rfl rfl, ?_⟩
  refine List.forall_mem_cons.mpr ⟨sn_getr mCl_11 (by decide) rfl kt_284 dX11_count_57 rfl, ?_⟩
  refine List.forall_mem_cons.mpr ⟨sn_geti mCl_3 (by decide) rfl kt_42 dX11_count_60 rfl, ?_⟩
  refine List.forall_mem_cons.mpr ⟨sn_iret rfl dX11_count_63, ?_⟩
  refine List.forall_mem_cons.mpr ⟨sn_aload_n dX11_count_64 rfl rfl, ?_⟩
  refine List.forall_mem_cons.mpr ⟨sn_getr mCl_11 (by decide) rfl kt_284 dX11_count_65 rfl, ?_⟩
  refine List.forall_mem_cons.mpr ⟨sn_geti mCl_3 (by decide) rfl kt_45 dX11_count_68 rfl, ?_⟩
  refine List.forall_mem_cons.mpr ⟨sn_iret rfl dX11_count_71, ?_⟩
  refine List.forall_mem_cons.mpr ⟨sn_aload_n dX11_count_72 rfl rfl, ?_⟩
  refine List.forall_mem_cons.mpr ⟨sn_getr mCl_11 (by decide) rfl kt_284 dX11_count_73 rfl, ?_⟩
  refine List.forall_mem_cons.mpr ⟨sn_geti mCl_3 (by decide) rfl kt_47 dX11_count_76 rfl, ?_⟩
  refine List.forall_mem_cons.mpr ⟨sn_iret rfl dX11_count_79, ?_⟩
  refine List.forall_mem_cons.mpr ⟨sn_aload_n dX11_count_80 rfl rfl, ?_⟩
  refine List.forall_mem_cons.mpr ⟨sn_getr mCl_11 (by decide) rfl kt_289 dX11_count_81 rfl, ?_⟩
  refine List.forall_mem_cons.mpr ⟨sn_geti mCl_10 (by decide) rfl kt_233 dX11_count_84 rfl, ?_⟩
  refine List.forall_mem_cons.mpr ⟨sn_iret rfl dX11_count_87, ?_⟩
  refine List.forall_mem_cons.mpr ⟨sn_aload_n dX11_count_88 rfl rfl, ?_⟩
  refine List.forall_mem_cons.mpr ⟨sn_getr mCl_11 (by decide) rfl kt_288 dX11_count_89 rfl, ?_⟩
  refine List.forall_mem_cons.mpr ⟨sn_geti mCl_5 (by decide) rfl kt_189 dX11_count_92 rfl, ?_⟩
  refine List.forall_mem_cons.mpr ⟨sn_iret rfl dX11_count_95, ?_⟩
  refine List.forall_mem_cons.mpr ⟨sn_aload_n dX11_count_96 rfl rfl, ?_⟩
  refine List.forall_mem_cons.mpr ⟨sn_getr mCl_11 (by decide) rfl kt_286 dX11_count_97 rfl, ?_⟩
  refine List.forall_mem_cons.mpr ⟨sn_geti mCl_8 (by decide) rfl kt_107 dX11_count_100 rfl, ?_⟩
  refine List.forall_mem_cons.mpr ⟨sn_iret rfl dX11_count_103, ?_⟩
  refine List.forall_mem_cons.mpr ⟨sn_aload_n dX11_count_104 rfl rfl, ?_⟩
  refine List.forall_mem_cons.mpr ⟨sn_getr mCl_11 (by decide) rfl kt_291 dX11_count_105 rfl, ?_⟩
  refine List.forall_mem_cons.mpr ⟨sn_geti mCl_4 (by decide) rfl kt_263 dX11_count_108 rfl, ?_⟩
  refine List.forall_mem_cons.mpr ⟨sn_iconst dX11_count_111 rfl ⟨by decide, by decide⟩, ?_⟩
  refine List.forall_mem_cons.mpr ⟨sn_icmpne dX11_count_112 (by decide) rfl, ?_⟩
  refine List.forall_mem_cons.mpr ⟨sn_iconst dX11_count_115 rfl ⟨by decide, by decide⟩, ?_⟩
  refine List.forall_mem_cons.mpr ⟨sn_goto dX11_count_116 (by decide), ?_⟩
  refine List.forall_mem_cons.mpr ⟨sn_aload_n dX11_count_119 rfl rfl, ?_⟩
  refine List.forall_mem_cons.mpr ⟨sn_iload_n dX11_count_120 rfl rfl, ?_⟩
  refine List.forall_mem_cons.mpr ⟨sn_callV mCl_11 mt_120 rfl kt_1020 kt_1022 kp_38 dX11_count_121 rfl, ?_⟩
  refine List.forall_mem_cons.mpr ⟨sn_iret rfl dX11_count_124, ?_⟩
  exact List.forall_mem_nil _
theorem sX11_countInPlan : ∀ q ∈ tX11_countInPlan, mSnd mInf iX11_countInPlan q.1 q.2 := by
  unfold tX11_countInPlan
  refine List.forall_mem_cons.mpr ⟨sn_iload_n dX11_countInPlan_0 rfl rfl, ?_⟩
  refine List.forall_mem_cons.mpr ⟨sn_tsw dX11_countInPlan_1 (by decide) (by decide) rfl, ?_⟩
  refine List.forall_mem_cons.mpr ⟨sn_aload_n dX11_countInPlan_32 rfl rfl, ?_⟩
  refine List.forall_mem_cons.mpr ⟨sn_getr mCl_11 (by decide) rfl kt_291 dX11_countInPlan_33 rfl, ?_⟩
  refine List.forall_mem_cons.mpr ⟨sn_geti mCl_4 (by decide) rfl kt_261 dX11_countInPlan_36 rfl, ?_⟩
  refine List.forall_mem_cons.mpr ⟨sn_iret rfl dX11_countInPlan_39, ?_⟩
  refine List.forall_mem_cons.mpr ⟨sn_aload_n dX11_countInPlan_40 rfl rfl, ?_⟩
  refine List.forall_mem_cons.mpr ⟨sn_getr mCl_11 (by decide) rfl kt_291 dX11_countInPlan_41 rfl, ?_⟩
  refine List.forall_mem_cons.mpr ⟨sn_geti mCl_4 (by decide) rfl kt_265 dX11_countInPlan_44 rfl, ?_⟩
  refine List.forall_mem_cons.mpr ⟨sn_iret rfl dX11_countInPlan_47, ?_⟩
  refine List.forall_mem_cons.mpr ⟨sn_aload_n dX11_countInPlan_48 rfl rfl, ?_⟩
  refine List.forall_mem_cons.mpr ⟨sn_getr mCl_11 (by decide) rfl kt_291 dX11_countInPlan_49 rfl, ?_⟩
  refine List.forall_mem_cons.mpr ⟨sn_geti mCl_4 (by decide) rfl kt_269 dX11_countInPlan_52 rfl, ?_⟩
  refine List.forall_mem_cons.mpr ⟨sn_iret rfl dX11_countInPlan_55, ?_⟩
  refine List.forall_mem_cons.mpr ⟨sn_aload_n dX11_countInPlan_56 rfl rfl, ?_⟩
  refine List.forall_mem_cons.mpr ⟨sn_getr mCl_11 (by decide) rfl kt_291 dX11_countInPlan_57 rfl, ?_⟩
  refine List.forall_mem_cons.mpr ⟨sn_geti mCl_4 (by decide) rfl kt_263 dX11_countInPlan_60 rfl, ?_⟩
  refine List.forall_mem_cons.mpr ⟨sn_iret rfl dX11_countInPlan_63, ?_⟩
  refine List.forall_mem_cons.mpr ⟨sn_iconst dX11_countInPlan_64 rfl ⟨by decide, by decide⟩, ?_⟩
  refine List.forall_mem_cons.mpr ⟨sn_iret rfl dX11_countInPlan_65, ?_⟩
  exact List.forall_mem_nil _
theorem sX11_findShowing : ∀ q ∈ tX11_findShowing, mSnd mInf iX11_findShowing q.1 q.2 := by
  unfold tX11_findShowing
  refine List.forall_mem_cons.mpr ⟨sn_aload_n dX11_findShowing_0 rfl rfl, ?_⟩
  refine List.forall_mem_cons.mpr ⟨sn_getr mCl_11 (by decide) rfl kt_284 dX11_findShowing_1 rfl, ?_⟩
  refine List.forall_mem_cons.mpr ⟨sn_iload_n dX11_findShowing_4 rfl rfl, ?_⟩
  refine List.forall_mem_cons.mpr ⟨sn_callV mCl_3 mt_27 rfl kt_623 kt_624 kt_625 dX11_findShowing_5 rfl, ?_⟩
  refine List.forall_mem_cons.mpr ⟨sn_ifne dX11_findShowing_8 (by decide) rfl, ?_⟩
  refine List.forall_mem_cons.mpr ⟨sn_null dX11_findShowing_11 rfl, ?_⟩
  refine List.forall_mem_cons.mpr ⟨sn_aret rfl dX11_findShowing_12, ?_⟩
  refine List.forall_mem_cons.mpr ⟨sn_aload_n dX11_findShowing_13 rfl rfl, ?_⟩
  refine List.forall_mem_cons.mpr ⟨sn_getr mCl_11 (by decide) rfl kt_285 dX11_findShowing_14 rfl, ?_⟩
  refine List.forall_mem_cons.mpr ⟨sn_aload_n dX11_findShowing_17 rfl rfl, ?_⟩
  refine List.forall_mem_cons.mpr ⟨sn_getr mCl_11 (by decide) rfl kt_284 dX11_findShowing_18 rfl, ?_⟩
  refine List.forall_mem_cons.mpr ⟨sn_iload_n dX11_findShowing_21 rfl rfl, ?_⟩
  refine List.forall_mem_cons.mpr ⟨sn_callV mCl_1 mt_8 rfl kt_627 kt_628 kt_629 dX11_findShowing_22 rfl, ?_⟩
  refine List.forall_mem_cons.mpr ⟨sn_aload_n dX11_findShowing_25 rfl rfl, ?_⟩
  refine List.forall_mem_cons.mpr ⟨sn_getr mCl_11 (by decide) rfl kt_285 dX11_findShowing_26 rfl, ?_⟩
  refine List.forall_mem_cons.mpr ⟨sn_iload_n dX11_findShowing_29 rfl rfl, ?_⟩
  refine List.forall_mem_cons.mpr ⟨sn_callV mCl_1 mt_10 rfl kt_783 kt_784 kt_785 dX11_findShowing_30 rfl, ?_⟩
  refine List.forall_mem_cons.mpr ⟨sn_aret rfl dX11_findShowing_33, ?_⟩
  exact List.forall_mem_nil _
