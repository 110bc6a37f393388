theorem sX5_init : ∀ q ∈ tX5_init, mSnd mInf iX5_init q.1 q.2 := by
  unfold tX5_init
  refine List.forall_mem_cons.mpr ⟨sn_aload_n dX5_init_0 rfl rfl, ?_⟩
  refine List.forall_mem_cons.mpr ⟨sn_objinit kt_175 kt_28 kt_29 dX5_init_1 rfl, ?_⟩
  refine List.forall_mem_cons.mpr ⟨sn_aload_n dX5_init_4 rfl rfl, ?_⟩
  refine List.forall_mem_cons.mpr ⟨sn_iconst dX5_init_5 rfl ⟨by decide, by decide⟩, ?_⟩
  refine List.forall_mem_cons.mpr ⟨sn_puti mCl_5 (by decide) rfl (Or.inl rfl) kt_176 dX5_init_6 rfl, ?_⟩
  refine List.forall_mem_cons.mpr ⟨sn_aload_n dX5_init_9 rfl rfl, ?_⟩
  refine List.forall_mem_cons.mpr ⟨sn_iconst dX5_init_10 rfl ⟨by decide, by decide⟩, ?_⟩
  refine List.forall_mem_cons.mpr ⟨sn_puti mCl_5 (by decide) rfl (Or.inl rfl) kt_179 dX5_init_11 rfl, ?_⟩
  refine List.forall_mem_cons.mpr ⟨sn_aload_n dX5_init_14 rfl rfl, ?_⟩
  refine List.forall_mem_cons.mpr ⟨sn_iconst dX5_init_15 rfl ⟨by decide, by decide⟩, ?_⟩
  refine List.forall_mem_cons.mpr ⟨sn_puti mCl_5 (by decide) rfl (Or.inl rfl) kt_182 dX5_init_16 rfl, ?_⟩
  refine List.forall_mem_cons.mpr ⟨sn_aload_n dX5_init_19 rfl rfl, ?_⟩
  refine List.forall_mem_cons.mpr ⟨sn_sipush dX5_init_20 rfl (by decide) ⟨by decide, by decide⟩, ?_⟩
  refine List.forall_mem_cons.mpr ⟨sn_puti mCl_5 (by decide) rfl (Or.inl rfl) kt_185 dX5_init_23 rfl, ?_⟩
  refine List.forall_mem_cons.mpr ⟨sn_aload_n dX5_init_26 rfl rfl, ?_⟩
  refine List.forall_mem_cons.mpr ⟨sn_iconst dX5_init_27 rfl ⟨by decide, by decide⟩, ?_⟩
  refine List.forall_mem_cons.mpr ⟨sn_puti mCl_5 (by decide) rfl (Or.inl rfl) kt_188 dX5_init_28 rfl, ?_⟩
  refine List.forall_mem_cons.mpr ⟨sn_aload_n dX5_init_31 rfl rfl, ?_⟩
  refine List.forall_mem_cons.mpr ⟨sn_iconst dX5_init_32 rfl ⟨by decide, by decide⟩, ?_⟩
  refine List.forall_mem_cons.mpr ⟨sn_puti mCl_5 (by decide) rfl (Or.inl rfl) kt_190 dX5_init_33 rfl, ?_⟩
  refine List.forall_mem_cons.mpr ⟨sn_aload_n dX5_init_36 rfl rfl, ?_⟩
  refine List.forall_mem_cons.mpr ⟨sn_iconst dX5_init_37 rfl ⟨by decide, by decide⟩, ?_⟩
  refine List.forall_mem_cons.mpr ⟨sn_puti mCl_5 (by decide) rfl (Or.inl rfl) kt_191 dX5_init_38 rfl, ?_⟩
  refine List.forall_mem_cons.mpr ⟨sn_aload_n dX5_init_41 rfl rfl, ?_⟩
  refine List.forall_mem_cons.mpr ⟨sn_iconst dX5_init_42 rfl ⟨by decide, by decide⟩, ?_⟩
  refine List.forall_mem_cons.mpr ⟨sn_puti mCl_5 (by decide) rfl (Or.inl rfl) kt_192 dX5_init_43 rfl, ?_⟩
  refine List.forall_mem_cons.mpr ⟨sn_aload_n dX5_init_46 rfl rfl, ?_⟩
  refine List.forall_mem_cons.mpr ⟨sn_iconst dX5_init_47 rfl ⟨by decide, by decide⟩, ?_⟩
  refine List.forall_mem_cons.mpr ⟨sn_puti mCl_5 (by decide) rfl (Or.inl rfl) kt_193 dX5_init_48 rfl, ?_⟩
  refine List.forall_mem_cons.mpr ⟨sn_aload_n dX5_init_51 rfl rfl, ?_⟩
  refine List.forall_mem_cons.mpr ⟨sn_iconst dX5_init_52 rfl ⟨by decide, by decide⟩, ?_⟩
  refine List.forall_mem_cons.mpr ⟨sn_puti mCl_5 (by decide) rfl (Or.inl rfl) kt_194 dX5_init_53 rfl, ?_⟩
  refine List.forall_mem_cons.mpr ⟨sn_aload_n dX5_init_56 rfl rfl, ?_⟩
  refine List.forall_mem_cons.mpr ⟨sn_iconst dX5_init_57 rfl ⟨by decide, by decide⟩, ?_⟩
  refine List.forall_mem_cons.mpr ⟨sn_puti mCl_5 (by decide) rfl (Or.inl rfl) kt_195 dX5_init_58 rfl, ?_⟩
  refine List.forall_mem_cons.mpr ⟨sn_aload_n dX5_init_61 rfl rfl, ?_⟩
  refine List.forall_mem_cons.mpr ⟨sn_iconst dX5_init_62 rfl ⟨by decide, by decide⟩, ?_⟩
  refine List.forall_mem_cons.mpr ⟨sn_puti mCl_5 (by decide) rfl (Or.inl rfl) kt_196 dX5_init_63 rfl, ?_⟩
  refine List.forall_mem_cons.mpr ⟨sn_aload_n dX5_init_66 rfl rfl, ?_⟩
  refine List.forall_mem_cons.mpr ⟨sn_iconst dX5_init_67 rfl ⟨by decide, by decide⟩, ?_⟩
  refine List.forall_mem_cons.mpr ⟨sn_puti mCl_5 (by decide) rfl (Or.inl rfl) kt_197 dX5_init_68 rfl, ?_⟩
  refine List.forall_mem_cons.mpr ⟨sn_vret rfl dX5_init_71, ?_⟩
  exact List.forall_mem_nil _
theorem sX5_choose : ∀ q ∈ tX5_choose, mSnd mInf iX5_choose q.1 q.2 := by
  unfold tX5_choose
  refine List.forall_mem_cons.mpr ⟨sn_aload_n dX5_choose_0 rfl rfl, ?_⟩
  refine List.forall_mem_cons.mpr ⟨sn_iconst dX5_choose_1 rfl ⟨by decide, by decide⟩, ?_⟩
  refine List.forall_mem_cons.mpr ⟨sn_puti mCl_5 (by decide) rfl (Or.inl rfl) kt_190 dX5_choose_2 rfl, ?_⟩
  refine List.forall_mem_cons.mpr ⟨sn_aload_n dX5_choose_5 rfl rfl, ?_⟩
  refine List.forall_mem_cons.mpr ⟨sn_iconst dX5_choose_6 rfl ⟨by decide, by decide⟩, ?_⟩
  refine List.forall_mem_cons.mpr ⟨sn_puti mCl_5 (by decide) rfl (Or.inl rfl) kt_191 dX5_choose_7 rfl, ?_⟩
  refine List.forall_mem_cons.mpr ⟨sn_aload_n dX5_choose_10 rfl rfl, ?_⟩
  refine List.forall_mem_cons.mpr ⟨sn_iconst dX5_choose_11 rfl ⟨by decide, by decide⟩, ?_⟩
  refine List.forall_mem_cons.mpr ⟨sn_puti mCl_5 (by decide) rfl (Or.inl rfl) kt_192 dX5_choose_12 rfl, ?_⟩
  refine List.forall_mem_cons.mpr ⟨sn_aload_n dX5_choose_15 rfl rfl, ?_⟩
  refine List.forall_mem_cons.mpr ⟨sn_iconst dX5_choose_16 rfl ⟨by decide, by decide⟩, ?_⟩
  refine List.forall_mem_cons.mpr ⟨sn_puti mCl_5 (by decide) rfl (Or.inl rfl) kt_193 dX5_choose_17 rfl, ?_⟩
  refine List.forall_mem_cons.mpr ⟨sn_aload_n dX5_choose_20 rfl rfl, ?_⟩
  refine List.forall_mem_cons.mpr ⟨sn_iconst dX5_choose_21 rfl ⟨by decide, by decide⟩, ?_⟩
  refine List.forall_mem_cons.mpr ⟨sn_puti mCl_5 (by decide) rfl (Or.inl rfl) kt_194 dX5_choose_22 rfl, ?_⟩
  refine List.forall_mem_cons.mpr ⟨sn_aload_n dX5_choose_25 rfl rfl, ?_⟩
  refine List.forall_mem_cons.mpr ⟨sn_iconst dX5_choose_26 rfl ⟨by decide, by decide⟩, ?_⟩
  refine List.forall_mem_cons.mpr ⟨sn_puti mCl_5 (by decide) rfl (Or.inl rfl) kt_195 dX5_choose_27 rfl, ?_⟩
  refine List.forall_mem_cons.mpr ⟨sn_aload_n dX5_choose_30 rfl rfl, ?_⟩
  refine List.forall_mem_cons.mpr ⟨sn_aload_n dX5_choose_31 rfl rfl, ?_⟩
  refine List.forall_mem_cons.mpr ⟨sn_iconst dX5_choose_32 rfl ⟨by decide, by decide⟩, ?_⟩
  refine List.forall_mem_cons.mpr ⟨sn_callV mCl_5 mt_50 rfl kt_943 kt_945 kp_27 dX5_choose_33 rfl, ?_⟩
  refine List.forall_mem_cons.mpr ⟨sn_aload_n dX5_choose_36 rfl rfl, ?_⟩
  refine List.forall_mem_cons.mpr ⟨sn_aload_n dX5_choose_37 rfl rfl, ?_⟩
  refine List.forall_mem_cons.mpr ⟨sn_geti mCl_5 (by decide) rfl kt_194 dX5_choose_38 rfl, ?_⟩
  refine List.forall_mem_cons.mpr ⟨sn_callV mCl_4 mt_40 rfl kt_974 kt_975 kt_976 dX5_choose_41 rfl, ?_⟩
  refine List.forall_mem_cons.mpr ⟨sn_vret rfl dX5_choose_44, ?_⟩
  exact List.forall_mem_nil _
theorem sX5_search : ∀ q ∈ tX5_search, mSnd mInf iX5_search q.1 q.2 := by
  unfold tX5_search
  refine List.forall_mem_cons.mpr ⟨sn_aload_n dX5_search_0 rfl rfl, ?_⟩
  refine List.forall_mem_cons.mpr ⟨sn_iload_n dX5_search_1 rfl rfl, ?_⟩
  refine List.forall_mem_cons.mpr ⟨sn_callV mCl_4 mt_35 rfl kt_947 kt_916 kt_917 dX5_search_2 rfl, ?_⟩
  refine List.forall_mem_cons.mpr ⟨sn_astore_n dX5_search_5 rfl rfl, ?_⟩
  refine List.forall_mem_cons.mpr ⟨sn_aload_n dX5_search_6 rfl rfl, ?_⟩
  refine List.forall_mem_cons.mpr ⟨sn_aload_n dX5_search_7 rfl rfl, ?_⟩
  refine List.forall_mem_cons.mpr ⟨sn_callV mCl_5 mt_51 rfl kt_948 kt_950 kp_28 dX5_search_8 rfl, ?_⟩
  refine List.forall_mem_cons.mpr ⟨sn_ifne dX5_search_11 (by decide) rfl, ?_⟩
  refine List.forall_mem_cons.mpr ⟨sn_vret rfl dX5_search_14, ?_⟩
  refine List.forall_mem_cons.mpr ⟨sn_aload_n dX5_search_15 rfl rfl, ?_⟩
  refine List.forall_mem_cons.mpr ⟨sn_ifnonnull dX5_search_16 (by decide) rfl, ?_⟩
  refine List.forall_mem_cons.mpr ⟨sn_aload_n dX5_search_19 rfl rfl, ?_⟩
  refine List.forall_mem_cons.mpr ⟨sn_callV mCl_5 mt_52 rfl kt_952 kt_954 kp_29 dX5_search_20 rfl, ?_⟩
  refine List.forall_mem_cons.mpr ⟨sn_vret rfl dX5_search_23, ?_⟩
  refine List.forall_mem_cons.mpr ⟨sn_aload_n dX5_search_24 rfl rfl, ?_⟩
  refine List.forall_mem_cons.mpr ⟨sn_aload_n dX5_search_25 rfl rfl, ?_⟩
  refine List.forall_mem_cons.mpr ⟨sn_callV mCl_5 mt_53 rfl kt_956 kt_958 kp_30 dX5_search_26 rfl, ?_⟩
  refine List.forall_mem_cons.mpr ⟨sn_ifeq dX5_search_29 (by decide) rfl, ?_⟩
  refine List.forall_mem_cons.mpr ⟨sn_aload_n dX5_search_32 rfl rfl, ?_⟩
  refine List.forall_mem_cons.mpr ⟨sn_aload_n dX5_search_33 rfl rfl, ?_⟩
  refine List.forall_mem_cons.mpr ⟨sn_iload_n dX5_search_34 rfl rfl, ?_⟩
  refine List.forall_mem_cons.mpr ⟨sn_iconst dX5_search_35 rfl ⟨by decide, by decide⟩, ?_⟩
  refine List.forall_mem_cons.mpr ⟨sn_callV mCl_5 mt_54 rfl kt_970 kt_972 kp_31 dX5_search_36 rfl, ?_⟩
  refine List.forall_mem_cons.mpr ⟨sn_aload_n dX5_search_39 rfl rfl, ?_⟩
  refine List.forall_mem_cons.mpr ⟨sn_aload_n dX5_search_40 rfl rfl, ?_⟩
  refine List.forall_mem_cons.mpr ⟨sn_iload_n dX5_search_41 rfl rfl, ?_⟩
  refine List.forall_mem_cons.mpr ⟨sn_iconst dX5_search_42 rfl ⟨by decide, by decide⟩, ?_⟩
  refine List.forall_mem_cons.mpr ⟨sn_iadd dX5_search_43 rfl, ?_⟩
  refine List.forall_mem_cons.mpr ⟨sn_callV mCl_5 mt_50 rfl kt_943 kt_945 kp_27 dX5_search_44 rfl, ?_⟩
  refine List.forall_mem_cons.mpr ⟨sn_aload_n dX5_search_47 rfl rfl, ?_⟩
  refine List.forall_mem_cons.mpr ⟨sn_aload_n dX5_search_48 rfl rfl, ?_⟩
  refine List.forall_mem_cons.mpr ⟨sn_iload_n dX5_search_49 rfl rfl, ?_⟩
  refine List.forall_mem_cons.mpr ⟨sn_iconst dX5_search_50 rfl ⟨by decide, by decide⟩, ?_⟩
  refine List.forall_mem_cons.mpr ⟨sn_callV mCl_5 mt_54 rfl kt_970 kt_972 kp_31 dX5_search_51 rfl, ?_⟩
  refine List.forall_mem_cons.mpr ⟨sn_aload_n dX5_search_54 rfl rfl, ?_⟩
  refine List.forall_mem_cons.mpr ⟨sn_aload_n dX5_search_55 rfl rfl, ?_⟩
  refine List.forall_mem_cons.mpr ⟨sn_iload_n dX5_search_56 rfl rfl, ?_⟩
  refine List.forall_mem_cons.mpr ⟨sn_iconst dX5_search_57 rfl ⟨by decide, by decide⟩, ?_⟩
  refine List.forall_mem_cons.mpr ⟨sn_iadd dX5_search_58 rfl, ?_⟩
  refine List.forall_mem_cons.mpr ⟨sn_callV mCl_5 mt_50 rfl kt_943 kt_945 kp_27 dX5_search_59 rfl, ?_⟩
  refine List.forall_mem_cons.mpr ⟨sn_vret rfl dX5_search_62, ?_⟩
  exact List.forall_mem_nil _
theorem sX5_canBeatBest : ∀ q ∈ tX5_canBeatBest, mSnd mInf iX5_canBeatBest q.1 q.2 := by
  unfold tX5_canBeatBest
  refine List.forall_mem_cons.mpr ⟨sn_aload_n dX5_canBeatBest_0 rfl rfl, ?_⟩
  refine List.forall_mem_cons.mpr ⟨sn_geti mCl_5 (by decide) rfl kt_191 dX5_canBeatBest_1 rfl, ?_⟩
  refine List.forall_mem_cons.mpr ⟨sn_aload_n dX5_canBeatBest_4 rfl rfl, ?_⟩
  refine List.forall_mem_cons.mpr ⟨sn_ifnonnull dX5_canBeatBest_5 (by decide) rfl, ?_⟩
  refine List.forall_mem_cons.mpr ⟨sn_iconst dX5_canBeatBest_8 rfl ⟨by decide, by decide⟩, ?_⟩
  refine List.forall_mem_cons.mpr ⟨sn_goto dX5_canBeatBest_9 (by decide), ?_⟩
  refine List.forall_mem_cons.mpr ⟨sn_aload_n dX5_canBeatBest_12 rfl rfl, ?_⟩
  refine List.forall_mem_cons.mpr ⟨sn_geti mCl_0 (by decide) rfl kt_864 dX5_canBeatBest_13 rfl, ?_⟩
  refine List.forall_mem_cons.mpr ⟨sn_iadd dX5_canBeatBest_16 rfl, ?_⟩
  refine List.forall_mem_cons.mpr ⟨sn_istore_n dX5_canBeatBest_17 rfl rfl, ?_⟩
  refine List.forall_mem_cons.mpr ⟨sn_iload_n dX5_canBeatBest_18 rfl rfl, ?_⟩
  refine List.forall_mem_cons.mpr ⟨sn_aload_n dX5_canBeatBest_19 rfl rfl, ?_⟩
  refine List.forall_mem_cons.mpr ⟨sn_geti mCl_5 (by decide) rfl kt_195 dX5_canBeatBest_20 rfl, ?_⟩
  refine List.forall_mem_cons.mpr ⟨sn_icmpeq dX5_canBeatBest_23 (by decide) rfl, ?_⟩
  refine List.forall_mem_cons.mpr ⟨sn_iload_n dX5_canBeatBest_26 rfl rfl, ?_⟩
  refine List.forall_mem_cons.mpr ⟨sn_aload_n dX5_canBeatBest_27 rfl rfl, ?_⟩
  refine List.forall_mem_cons.mpr ⟨sn_geti mCl_5 (by decide) rfl kt_195 dX5_canBeatBest_28 rfl, ?_⟩
  refine List.forall_mem_cons.mpr ⟨sn_icmple dX5_canBeatBest_31 (by decide) rfl, ?_⟩
  refine List.forall_mem_cons.mpr ⟨sn_iconst dX5_canBeatBest_34 rfl ⟨by decide, by decide⟩, ?_⟩
  refine List.forall_mem_cons.mpr ⟨sn_goto dX5_canBeatBest_35 (by decide), ?_⟩
  refine List.forall_mem_cons.mpr ⟨sn_iconst dX5_canBeatBest_38 rfl ⟨by decide, by decide⟩, ?_⟩
  refine List.forall_mem_cons.mpr ⟨sn_zret rfl dX5_canBeatBest_39, ?_⟩
  refine List.forall_mem_cons.mpr ⟨sn_aload_n dX5_canBeatBest_40 rfl rfl, ?_⟩
  refine List.forall_mem_cons.mpr ⟨sn_geti mCl_5 (by decide) rfl kt_192 dX5_canBeatBest_41 rfl, ?_⟩
  refine List.forall_mem_cons.mpr ⟨sn_aload_n dX5_canBeatBest_44 rfl rfl, ?_⟩
  refine List.forall_mem_cons.mpr ⟨sn_ifnonnull dX5_canBeatBest_45 (by decide) rfl, ?_⟩
  refine List.forall_mem_cons.mpr ⟨sn_iconst dX5_canBeatBest_48 rfl ⟨by decide, by decide⟩, ?_⟩
  refine List.forall_mem_cons.mpr ⟨sn_goto dX5_canBeatBest_49 (by decide), ?_⟩
  refine List.forall_mem_cons.mpr ⟨sn_aload_n dX5_canBeatBest_52 rfl rfl, ?_⟩
  refine List.forall_mem_cons.mpr ⟨sn_geti mCl_0 (by decide) rfl kt_866 dX5_canBeatBest_53 rfl, ?_⟩
  refine List.forall_mem_cons.mpr ⟨sn_iadd dX5_canBeatBest_56 rfl, ?_⟩
  refine List.forall_mem_cons.mpr ⟨sn_istore_n dX5_canBeatBest_57 rfl rfl, ?_⟩
  refine List.forall_mem_cons.mpr ⟨sn_iload_n dX5_canBeatBest_58 rfl rfl, ?_⟩
  refine List.forall_mem_cons.mpr ⟨sn_aload_n dX5_canBeatBest_59 rfl rfl, ?_⟩
  refine List.forall_mem_cons.mpr ⟨sn_geti mCl_5 (by decide) rfl kt_196 dX5_canBeatBest_60 rfl, ?_⟩
  refine List.forall_mem_cons.mpr ⟨sn_icmpeq dX5_canBeatBest_63 (by decide) rfl, ?_⟩
  refine List.forall_mem_cons.mpr ⟨sn_iload_n dX5_canBeatBest_66 rfl rfl, ?_⟩
  refine List.forall_mem_cons.mpr ⟨sn_aload_n dX5_canBeatBest_67 rfl rfl, ?_⟩
  refine List.forall_mem_cons.mpr ⟨sn_geti mCl_5 (by decide) rfl kt_196 dX5_canBeatBest_68 rfl, ?_⟩
  refine List.forall_mem_cons.mpr ⟨sn_icmple dX5_canBeatBest_71 (by decide) rfl, ?_⟩
  refine List.forall_mem_cons.mpr ⟨sn_iconst dX5_canBeatBest_74 rfl ⟨by decide, by decide⟩, ?_⟩
  refine List.forall_mem_cons.mpr ⟨sn_goto dX5_canBeatBest_75 (by decide), ?_⟩
  refine List.forall_mem_cons.mpr ⟨sn_iconst dX5_canBeatBest_78 rfl ⟨by decide, by decide⟩, ?_⟩
  refine List.forall_mem_cons.mpr ⟨sn_zret rfl dX5_canBeatBest_79, ?_⟩
  refine List.forall_mem_cons.mpr ⟨sn_aload_n dX5_canBeatBest_80 rfl rfl, ?_⟩
  refine List.forall_mem_cons.mpr ⟨sn_geti mCl_5 (by decide) rfl kt_193 dX5_canBeatBest_81 rfl, ?_⟩
  refine List.forall_mem_cons.mpr ⟨sn_aload_n dX5_canBeatBest_84 rfl rfl, ?_⟩
  refine List.forall_mem_cons.mpr ⟨sn_geti mCl_5 (by decide) rfl kt_197 dX5_canBeatBest_85 rfl, ?_⟩
  refine List.forall_mem_cons.mpr ⟨sn_icmpge dX5_canBeatBest_88 (by decide) rfl, ?_⟩
  refine List.forall_mem_cons.mpr ⟨sn_iconst dX5_canBeatBest_91 rfl ⟨by decide, by decide⟩, ?_⟩
  refine List.forall_mem_cons.mpr ⟨sn_goto dX5_canBeatBest_92 (by decide), ?_⟩
  refine List.forall_mem_cons.mpr ⟨sn_iconst dX5_canBeatBest_95 rfl ⟨by decide, by decide⟩, ?_⟩
  refine List.forall_mem_cons.mpr ⟨sn_zret rfl dX5_canBeatBest_96, ?_⟩
  exact List.forall_mem_nil _
theorem sX5_keepAsBest : ∀ q ∈ tX5_keepAsBest, mSnd mInf iX5_keepAsBest q.1 q.2 := by
  unfold tX5_keepAsBest
  refine List.forall_mem_cons.mpr ⟨sn_aload_n dX5_keepAsBest_0 rfl rfl, ?_⟩
  refine List.forall_mem_cons.mpr ⟨sn_aload_n dX5_keepAsBest_1 rfl rfl, ?_⟩
  refine List.forall_mem_cons.mpr ⟨sn_geti mCl_5 (by decide) rfl kt_190 dX5_keepAsBest_2 rfl, ?_⟩
  refine List.forall_mem_cons.mpr ⟨sn_puti mCl_5 (by decide) rfl (Or.inl rfl) kt_194 dX5_keepAsBest_5 rfl, ?_⟩
  refine List.forall_mem_cons.mpr ⟨sn_aload_n dX5_keepAsBest_8 rfl rfl, ?_⟩
  refine List.forall_mem_cons.mpr ⟨sn_aload_n dX5_keepAsBest_9 rfl rfl, ?_⟩
  refine List.forall_mem_cons.mpr ⟨sn_geti mCl_5 (by decide) rfl kt_191 dX5_keepAsBest_10 rfl, ?_⟩
  refine List.forall_mem_cons.mpr ⟨sn_puti mCl_5 (by decide) rfl (Or.inl rfl) kt_195 dX5_keepAsBest_13 rfl, ?_⟩
  refine List.forall_mem_cons.mpr ⟨sn_aload_n dX5_keepAsBest_16 rfl rfl, ?_⟩
  refine List.forall_mem_cons.mpr ⟨sn_aload_n dX5_keepAsBest_17 rfl rfl, ?_⟩
  refine List.forall_mem_cons.mpr ⟨sn_geti mCl_5 (by decide) rfl kt_192 dX5_keepAsBest_18 rfl, ?_⟩
  refine List.forall_mem_cons.mpr ⟨sn_puti mCl_5 (by decide) rfl (Or.inl rfl) kt_196 dX5_keepAsBest_21 rfl, ?_⟩
  refine List.forall_mem_cons.mpr ⟨sn_aload_n dX5_keepAsBest_24 rfl rfl, ?_⟩
  refine List.forall_mem_cons.mpr ⟨sn_aload_n dX5_keepAsBest_25 rfl rfl, ?_⟩
  refine List.forall_mem_cons.mpr ⟨sn_geti mCl_5 (by decide) rfl kt_193 dX5_keepAsBest_26 rfl, ?_⟩
  refine List.forall_mem_cons.mpr ⟨sn_puti mCl_5 (by decide) rfl (Or.inl rfl) kt_197 dX5_keepAsBest_29 rfl, ?_⟩
  refine List.forall_mem_cons.mpr ⟨sn_vret rfl dX5_keepAsBest_32, ?_⟩
  exact List.forall_mem_nil _
theorem sX5_canAdd : ∀ q ∈ tX5_canAdd, mSnd mInf iX5_canAdd q.1 q.2 := by
  unfold tX5_canAdd
  refine List.forall_mem_cons.mpr ⟨sn_aload_n dX5_canAdd_0 rfl rfl, ?_⟩
  refine List.forall_mem_cons.mpr ⟨sn_geti mCl_0 (by decide) rfl kt_853 dX5_canAdd_1 rfl, ?_⟩
  refine List.forall_mem_cons.mpr ⟨sn_ifeq dX5_canAdd_4 (by decide) rfl, ?_⟩
  refine List.forall_mem_cons.mpr ⟨sn_aload_n dX5_canAdd_7 rfl rfl, ?_⟩
  refine List.forall_mem_cons.mpr ⟨sn_geti mCl_5 (by decide) rfl kt_190 dX5_canAdd_8 rfl, ?_⟩
  refine List.forall_mem_cons.mpr ⟨sn_aload_n dX5_canAdd_11 rfl rfl, ?_⟩
  refine List.forall_mem_cons.mpr ⟨sn_geti mCl_0 (by decide) rfl kt_863 dX5_canAdd_12 rfl, ?_⟩
  refine List.forall_mem_cons.mpr ⟨sn_iand dX5_canAdd_15 rfl, ?_⟩
  refine List.forall_mem_cons.mpr ⟨sn_ifne dX5_canAdd_16 (by decide) rfl, ?_⟩
  refine List.forall_mem_cons.mpr ⟨sn_aload_n dX5_canAdd_19 rfl rfl, ?_⟩
  refine List.forall_mem_cons.mpr ⟨sn_geti mCl_5 (by decide) rfl kt_190 dX5_canAdd_20 rfl, ?_⟩
  refine List.forall_mem_cons.mpr ⟨sn_aload_n dX5_canAdd_23 rfl rfl, ?_⟩
  refine List.forall_mem_cons.mpr ⟨sn_geti mCl_0 (by decide) rfl kt_861 dX5_canAdd_24 rfl, ?_⟩
  refine List.forall_mem_cons.mpr ⟨sn_iand dX5_canAdd_27 rfl, ?_⟩
  refine List.forall_mem_cons.mpr ⟨sn_callS mt_182 kt_960 kt_961 dX5_canAdd_28 rfl, ?_⟩
  refine List.forall_mem_cons.mpr ⟨sn_aload_n dX5_canAdd_31 rfl rfl, ?_⟩
  refine List.forall_mem_cons.mpr ⟨sn_geti mCl_5 (by decide) rfl kt_176 dX5_canAdd_32 rfl, ?_⟩
  refine List.forall_mem_cons.mpr ⟨sn_icmpge dX5_canAdd_35 (by decide) rfl, ?_⟩
  refine List.forall_mem_cons.mpr ⟨sn_aload_n dX5_canAdd_38 rfl rfl, ?_⟩
  refine List.forall_mem_cons.mpr ⟨sn_geti mCl_5 (by decide) rfl kt_193 dX5_canAdd_39 rfl, ?_⟩
  refine List.forall_mem_cons.mpr ⟨sn_aload_n dX5_canAdd_42 rfl rfl, ?_⟩
  refine List.forall_mem_cons.mpr ⟨sn_callV mCl_0 mt_2 rfl kt_966 kt_967 kt_968 dX5_canAdd_43 rfl, ?_⟩
  refine List.forall_mem_cons.mpr ⟨sn_iadd dX5_canAdd_46 rfl, ?_⟩
  refine List.forall_mem_cons.mpr ⟨sn_aload_n dX5_canAdd_47 rfl rfl, ?_⟩
  refine List.forall_mem_cons.mpr ⟨sn_geti mCl_5 (by decide) rfl kt_185 dX5_canAdd_48 rfl, ?_⟩
  refine List.forall_mem_cons.mpr ⟨sn_icmpgt dX5_canAdd_51 (by decide) rfl, ?_⟩
  refine List.forall_mem_cons.mpr ⟨sn_iconst dX5_canAdd_54 rfl ⟨by decide, by decide⟩, ?_⟩
  refine List.forall_mem_cons.mpr ⟨sn_goto dX5_canAdd_55 (by decide), ?_⟩
  refine List.forall_mem_cons.mpr ⟨sn_iconst dX5_canAdd_58 rfl ⟨by decide, by decide⟩, ?_⟩
  refine List.forall_mem_cons.mpr ⟨sn_zret rfl dX5_canAdd_59, ?_⟩
  exact List.forall_mem_nil _
theorem sX5_addOrDrop : ∀ q ∈ tX5_addOrDrop, mSnd mInf iX5_addOrDrop q.1 q.2 := by
  unfold tX5_addOrDrop
  refine List.forall_mem_cons.mpr ⟨sn_aload_n dX5_addOrDrop_0 rfl rfl, ?_⟩
  refine List.forall_mem_cons.mpr ⟨sn_dup dX5_addOrDrop_1 rfl, ?_⟩
  refine List.forall_mem_cons.mpr ⟨sn_geti mCl_5 (by decide) rfl kt_190 dX5_addOrDrop_2 rfl, ?_⟩
  refine List.forall_mem_cons.mpr ⟨sn_iconst dX5_addOrDrop_5 rfl ⟨by decide, by decide⟩, ?_⟩
  refine List.forall_mem_cons.mpr ⟨sn_iload_n dX5_addOrDrop_6 rfl rfl, ?_⟩
  refine List.forall_mem_cons.mpr ⟨sn_ishl dX5_addOrDrop_7 rfl, ?_⟩
  refine List.forall_mem_cons.mpr ⟨sn_ixor dX5_addOrDrop_8 rfl, ?_⟩
  refine List.forall_mem_cons.mpr ⟨sn_puti mCl_5 (by decide) rfl (Or.inl rfl) kt_190 dX5_addOrDrop_9 rfl, ?_⟩
  refine List.forall_mem_cons.mpr ⟨sn_aload_n dX5_addOrDrop_12 rfl rfl, ?_⟩
  refine List.forall_mem_cons.mpr ⟨sn_dup dX5_addOrDrop_13 rfl, ?_⟩
  refine List.forall_mem_cons.mpr ⟨sn_geti mCl_5 (by decide) rfl kt_191 dX5_addOrDrop_14 rfl, ?_⟩
  refine List.forall_mem_cons.mpr ⟨sn_aload_n dX5_addOrDrop_17 rfl rfl, ?_⟩
  refine List.forall_mem_cons.mpr ⟨sn_geti mCl_0 (by decide) rfl kt_850 dX5_addOrDrop_18 rfl, ?_⟩
  refine List.forall_mem_cons.mpr ⟨sn_ifeq dX5_addOrDrop_21 (by decide) rfl, ?_⟩
  refine List.forall_mem_cons.mpr ⟨sn_iload_n dX5_addOrDrop_24 rfl rfl, ?_⟩
  refine List.forall_mem_cons.mpr ⟨sn_goto dX5_addOrDrop_25 (by decide), ?_⟩
  refine List.forall_mem_cons.mpr ⟨sn_iconst dX5_addOrDrop_28 rfl ⟨by decide, by decide⟩, ?_⟩
  refine List.forall_mem_cons.mpr ⟨sn_iadd dX5_addOrDrop_29 rfl, ?_⟩
  refine List.forall_mem_cons.mpr ⟨sn_puti mCl_5 (by decide) rfl (Or.inl rfl) kt_191 dX5_addOrDrop_30 rfl, ?_⟩
  refine List.forall_mem_cons.mpr ⟨sn_aload_n dX5_addOrDrop_33 rfl rfl, ?_⟩
  refine List.forall_mem_cons.mpr ⟨sn_dup dX5_addOrDrop_34 rfl, ?_⟩
  refine List.forall_mem_cons.mpr ⟨sn_geti mCl_5 (by decide) rfl kt_192 dX5_addOrDrop_35 rfl, ?_⟩
  refine List.forall_mem_cons.mpr ⟨sn_iload_n dX5_addOrDrop_38 rfl rfl, ?_⟩
  refine List.forall_mem_cons.mpr ⟨sn_aload_n dX5_addOrDrop_39 rfl rfl, ?_⟩
  refine List.forall_mem_cons.mpr ⟨sn_geti mCl_0 (by decide) rfl kt_845 dX5_addOrDrop_40 rfl, ?_⟩
  refine List.forall_mem_cons.mpr ⟨sn_imul dX5_addOrDrop_43 rfl, ?_⟩
  refine List.forall_mem_cons.mpr ⟨sn_iadd dX5_addOrDrop_44 rfl, ?_⟩
  refine List.forall_mem_cons.mpr ⟨sn_puti mCl_5 (by decide) rfl (Or.inl rfl) kt_192 dX5_addOrDrop_45 rfl, ?_⟩
  refine List.forall_mem_cons.mpr ⟨sn_aload_n dX5_addOrDrop_48 rfl rfl, ?_⟩
  refine List.forall_mem_cons.mpr ⟨sn_dup dX5_addOrDrop_49 rfl, ?_⟩
  refine List.forall_mem_cons.mpr ⟨sn_geti mCl_5 (by decide) rfl kt_193 dX5_addOrDrop_50 rfl, ?_⟩
  refine List.forall_mem_cons.mpr ⟨sn_iload_n dX5_addOrDrop_53 rfl rfl, ?_⟩
  refine List.forall_mem_cons.mpr ⟨sn_aload_n dX5_addOrDrop_54 rfl rfl, ?_⟩
  refine List.forall_mem_cons.mpr ⟨sn_callV mCl_0 mt_2 rfl kt_966 kt_967 kt_968 dX5_addOrDrop_55 rfl, ?_⟩
  refine List.forall_mem_cons.mpr ⟨sn_imul dX5_addOrDrop_58 rfl, ?_⟩
  refine List.forall_mem_cons.mpr ⟨sn_iadd dX5_addOrDrop_59 rfl, ?_⟩
  refine List.forall_mem_cons.mpr ⟨sn_puti mCl_5 (by decide) rfl (Or.inl rfl) kt_193 dX5_addOrDrop_60 rfl, ?_⟩
  refine List.forall_mem_cons.mpr ⟨sn_vret rfl dX5_addOrDrop_63, ?_⟩
  exact List.forall_mem_nil _
