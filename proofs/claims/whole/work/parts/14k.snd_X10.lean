theorem sX10_init : ∀ q ∈ tX10_init, mSnd mInf iX10_init q.1 q.2 := by
  unfold tX10_init
  refine List.forall_mem_cons.mpr ⟨sn_aload_n dX10_init_0 rfl rfl, ?_⟩
  refine List.forall_mem_cons.mpr ⟨sn_objinit kt_230 kt_28 kt_29 dX10_init_1 rfl, ?_⟩
  refine List.forall_mem_cons.mpr ⟨sn_aload_n dX10_init_4 rfl rfl, ?_⟩
  refine List.forall_mem_cons.mpr ⟨sn_iconst dX10_init_5 rfl ⟨by decide, by decide⟩, ?_⟩
  refine List.forall_mem_cons.mpr ⟨sn_puti mCl_10 (by decide) rfl (Or.inl rfl) kt_231 dX10_init_6 rfl, ?_⟩
  refine List.forall_mem_cons.mpr ⟨sn_aload_n dX10_init_9 rfl rfl, ?_⟩
  refine List.forall_mem_cons.mpr ⟨sn_iconst dX10_init_10 rfl ⟨by decide, by decide⟩, ?_⟩
  refine List.forall_mem_cons.mpr ⟨sn_puti mCl_10 (by decide) rfl (Or.inl rfl) kt_234 dX10_init_11 rfl, ?_⟩
  refine List.forall_mem_cons.mpr ⟨sn_aload_n dX10_init_14 rfl rfl, ?_⟩
  refine List.forall_mem_cons.mpr ⟨sn_sipush dX10_init_15 rfl (by decide) ⟨by decide, by decide⟩, ?_⟩
  refine List.forall_mem_cons.mpr ⟨sn_newI kt_99 dX10_init_18 rfl, ?_⟩
  refine List.forall_mem_cons.mpr ⟨sn_putr mCl_10 (by decide) rfl (Or.inr ⟨rfl, rfl, rfl⟩) kt_235 dX10_init_20 rfl, ?_⟩
  refine List.forall_mem_cons.mpr ⟨sn_aload_n dX10_init_23 rfl rfl, ?_⟩
  refine List.forall_mem_cons.mpr ⟨sn_bipush dX10_init_24 rfl (by decide) ⟨by decide, by decide⟩, ?_⟩
  refine List.forall_mem_cons.mpr ⟨sn_newI kt_99 dX10_init_26 rfl, ?_⟩
  refine List.forall_mem_cons.mpr ⟨sn_putr mCl_10 (by decide) rfl (Or.inr ⟨rfl, rfl, rfl⟩) kt_236 dX10_init_28 rfl, ?_⟩
  refine List.forall_mem_cons.mpr ⟨sn_aload_n dX10_init_31 rfl rfl, ?_⟩
  refine List.forall_mem_cons.mpr ⟨sn_bipush dX10_init_32 rfl (by decide) ⟨by decide, by decide⟩, ?_⟩
  refine List.forall_mem_cons.mpr ⟨sn_newI kt_99 dX10_init_34 rfl, ?_⟩
  refine List.forall_mem_cons.mpr ⟨sn_putr mCl_10 (by decide) rfl (Or.inr ⟨rfl, rfl, rfl⟩) kt_237 dX10_init_36 rfl, ?_⟩
  refine List.forall_mem_cons.mpr ⟨sn_aload_n dX10_init_39 rfl rfl, ?_⟩
  refine List.forall_mem_cons.mpr ⟨sn_bipush dX10_init_40 rfl (by decide) ⟨by decide, by decide⟩, ?_⟩
  refine List.forall_mem_cons.mpr ⟨sn_newI kt_99 dX10_init_42 rfl, ?_⟩
  refine List.forall_mem_cons.mpr ⟨sn_putr mCl_10 (by decide) rfl (Or.inr ⟨rfl, rfl, rfl⟩) kt_238 dX10_init_44 rfl, ?_⟩
  refine List.forall_mem_cons.mpr ⟨sn_vret rfl dX10_init_47, ?_⟩
  exact List.forall_mem_nil _
theorem sX10_clear : ∀ q ∈ tX10_clear, mSnd mInf iX10_clear q.1 q.2 := by
  unfold tX10_clear
  refine List.forall_mem_cons.mpr ⟨sn_aload_n dX10_clear_0 rfl rfl, ?_⟩
  refine List.forall_mem_cons.mpr ⟨sn_iconst dX10_clear_1 rfl ⟨by decide, by decide⟩, ?_⟩
  refine List.forall_mem_cons.mpr ⟨sn_puti mCl_10 (by decide) rfl (Or.inl rfl) kt_231 dX10_clear_2 rfl, ?_⟩
  refine List.forall_mem_cons.mpr ⟨sn_aload_n dX10_clear_5 rfl rfl, ?_⟩
  refine List.forall_mem_cons.mpr ⟨sn_iconst dX10_clear_6 rfl ⟨by decide, by decide⟩, ?_⟩
  refine List.forall_mem_cons.mpr ⟨sn_puti mCl_10 (by decide) rfl (Or.inl rfl) kt_234 dX10_clear_7 rfl, ?_⟩
  refine List.forall_mem_cons.mpr ⟨sn_vret rfl dX10_clear_10, ?_⟩
  exact List.forall_mem_nil _
theorem sX10_write : ∀ q ∈ tX10_write, mSnd mInf iX10_write q.1 q.2 := by
  unfold tX10_write
  refine List.forall_mem_cons.mpr ⟨sn_aload_n dX10_write_0 rfl rfl, ?_⟩
  refine List.forall_mem_cons.mpr ⟨sn_geti mCl_10 (by decide) rfl kt_234 dX10_write_1 rfl, ?_⟩
  refine List.forall_mem_cons.mpr ⟨sn_aload_n dX10_write_4 rfl rfl, ?_⟩
  refine List.forall_mem_cons.mpr ⟨sn_getr mCl_10 (by decide) rfl kt_235 dX10_write_5 rfl, ?_⟩
  refine List.forall_mem_cons.mpr ⟨sn_alen dX10_write_8 rfl, ?_⟩
  refine List.forall_mem_cons.mpr ⟨sn_icmpge dX10_write_9 (by decide) rfl, ?_⟩
  refine List.forall_mem_cons.mpr ⟨sn_aload_n dX10_write_12 rfl rfl, ?_⟩
  refine List.forall_mem_cons.mpr ⟨sn_getr mCl_10 (by decide) rfl kt_235 dX10_write_13 rfl, ?_⟩
  refine List.forall_mem_cons.mpr ⟨sn_aload_n dX10_write_16 rfl rfl, ?_⟩
  refine List.forall_mem_cons.mpr ⟨sn_geti mCl_10 (by decide) rfl kt_234 dX10_write_17 rfl, ?_⟩
  refine List.forall_mem_cons.mpr ⟨sn_iload_n dX10_write_20 rfl rfl, ?_⟩
  refine List.forall_mem_cons.mpr ⟨sn_iast dX10_write_21 rfl, ?_⟩
  refine List.forall_mem_cons.mpr ⟨sn_aload_n dX10_write_22 rfl rfl, ?_⟩
  refine List.forall_mem_cons.mpr ⟨sn_dup dX10_write_23 rfl, ?_⟩
  refine List.forall_mem_cons.mpr ⟨sn_geti mCl_10 (by decide) rfl kt_234 dX10_write_24 rfl, ?_⟩
  refine List.forall_mem_cons.mpr ⟨sn_iconst dX10_write_27 rfl ⟨by decide, by decide⟩, ?_⟩
  refine List.forall_mem_cons.mpr ⟨sn_iadd dX10_write_28 rfl, ?_⟩
  refine List.forall_mem_cons.mpr ⟨sn_puti mCl_10 (by decide) rfl (Or.inl rfl) kt_234 dX10_write_29 rfl, ?_⟩
  refine List.forall_mem_cons.mpr ⟨sn_vret rfl dX10_write_32, ?_⟩
  exact List.forall_mem_nil _
theorem sX10_endRule : ∀ q ∈ tX10_endRule, mSnd mInf iX10_endRule q.1 q.2 := by
  unfold tX10_endRule
  refine List.forall_mem_cons.mpr ⟨sn_aload_n dX10_endRule_0 rfl rfl, ?_⟩
  refine List.forall_mem_cons.mpr ⟨sn_geti mCl_10 (by decide) rfl kt_231 dX10_endRule_1 rfl, ?_⟩
  refine List.forall_mem_cons.mpr ⟨sn_aload_n dX10_endRule_4 rfl rfl, ?_⟩
  refine List.forall_mem_cons.mpr ⟨sn_getr mCl_10 (by decide) rfl kt_236 dX10_endRule_5 rfl, ?_⟩
  refine List.forall_mem_cons.mpr ⟨sn_alen dX10_endRule_8 rfl, ?_⟩
  refine List.forall_mem_cons.mpr ⟨sn_icmpge dX10_endRule_9 (by decide) rfl, ?_⟩
  refine List.forall_mem_cons.mpr ⟨sn_aload_n dX10_endRule_12 rfl rfl, ?_⟩
  refine List.forall_mem_cons.mpr ⟨sn_geti mCl_10 (by decide) rfl kt_231 dX10_endRule_13 rfl, ?_⟩
  refine List.forall_mem_cons.mpr ⟨sn_aload_n dX10_endRule_16 rfl rfl, ?_⟩
  refine List.forall_mem_cons.mpr ⟨sn_getr mCl_10 (by decide) rfl kt_237 dX10_endRule_17 rfl, ?_⟩
  refine List.forall_mem_cons.mpr ⟨sn_alen dX10_endRule_20 rfl, ?_⟩
  refine List.forall_mem_cons.mpr ⟨sn_icmpge dX10_endRule_21 (by decide) rfl, ?_⟩
  refine List.forall_mem_cons.mpr ⟨sn_aload_n dX10_endRule_24 rfl rfl, ?_⟩
  refine List.forall_mem_cons.mpr ⟨sn_getr mCl_10 (by decide) rfl kt_236 dX10_endRule_25 rfl, ?_⟩
  refine List.forall_mem_cons.mpr ⟨sn_aload_n dX10_endRule_28 rfl rfl, ?_⟩
  refine List.forall_mem_cons.mpr ⟨sn_geti mCl_10 (by decide) rfl kt_231 dX10_endRule_29 rfl, ?_⟩
  refine List.forall_mem_cons.mpr ⟨sn_aload_n dX10_endRule_32 rfl rfl, ?_⟩
  refine List.forall_mem_cons.mpr ⟨sn_geti mCl_10 (by decide) rfl kt_234 dX10_endRule_33 rfl, ?_⟩
  refine List.forall_mem_cons.mpr ⟨sn_iast dX10_endRule_36 rfl, ?_⟩
  refine List.forall_mem_cons.mpr ⟨sn_aload_n dX10_endRule_37 rfl rfl, ?_⟩
  refine List.forall_mem_cons.mpr ⟨sn_getr mCl_10 (by decide) rfl kt_237 dX10_endRule_38 rfl, ?_⟩
  refine List.forall_mem_cons.mpr ⟨sn_aload_n dX10_endRule_41 rfl rfl, ?_⟩
  refine List.forall_mem_cons.mpr ⟨sn_geti mCl_10 (by decide) rfl kt_231 dX10_endRule_42 rfl, ?_⟩
  refine List.forall_mem_cons.mpr ⟨sn_iload_n dX10_endRule_45 rfl rfl, ?_⟩
  refine List.forall_mem_cons.mpr ⟨sn_iast dX10_endRule_46 rfl, ?_⟩
  refine List.forall_mem_cons.mpr ⟨sn_aload_n dX10_endRule_47 rfl rfl, ?_⟩
  refine List.forall_mem_cons.mpr ⟨sn_dup dX10_endRule_48 rfl, ?_⟩
  refine List.forall_mem_cons.mpr ⟨sn_geti mCl_10 (by decide) rfl kt_231 dX10_endRule_49 rfl, ?_⟩
  refine List.forall_mem_cons.mpr ⟨sn_iconst dX10_endRule_52 rfl ⟨by decide, by decide⟩, ?_⟩
  refine List.forall_mem_cons.mpr ⟨sn_iadd dX10_endRule_53 rfl, ?_⟩
  refine List.forall_mem_cons.mpr ⟨sn_puti mCl_10 (by decide) rfl (Or.inl rfl) kt_231 dX10_endRule_54 rfl, ?_⟩
  refine List.forall_mem_cons.mpr ⟨sn_vret rfl dX10_endRule_57, ?_⟩
  exact List.forall_mem_nil _
theorem sX10_weigh : ∀ q ∈ tX10_weigh, mSnd mInf iX10_weigh q.1 q.2 := by
  unfold tX10_weigh
  refine List.forall_mem_cons.mpr ⟨sn_iconst dX10_weigh_0 rfl ⟨by decide, by decide⟩, ?_⟩
  refine List.forall_mem_cons.mpr ⟨sn_istore_n dX10_weigh_1 rfl rfl, ?_⟩
  refine List.forall_mem_cons.mpr ⟨sn_iconst dX10_weigh_2 rfl ⟨by decide, by decide⟩, ?_⟩
  refine List.forall_mem_cons.mpr ⟨sn_istore_n dX10_weigh_3 rfl rfl, ?_⟩
  refine List.forall_mem_cons.mpr ⟨sn_iload_n dX10_weigh_4 rfl rfl, ?_⟩
  refine List.forall_mem_cons.mpr ⟨sn_aload_n dX10_weigh_5 rfl rfl, ?_⟩
  refine List.forall_mem_cons.mpr ⟨sn_geti mCl_10 (by decide) rfl kt_231 dX10_weigh_6 rfl, ?_⟩
  refine List.forall_mem_cons.mpr ⟨sn_icmpge dX10_weigh_9 (by decide) rfl, ?_⟩
  refine List.forall_mem_cons.mpr ⟨sn_iload_n dX10_weigh_12 rfl rfl, ?_⟩
  refine List.forall_mem_cons.mpr ⟨sn_aload_n dX10_weigh_13 rfl rfl, ?_⟩
  refine List.forall_mem_cons.mpr ⟨sn_getr mCl_10 (by decide) rfl kt_237 dX10_weigh_14 rfl, ?_⟩
  refine List.forall_mem_cons.mpr ⟨sn_alen dX10_weigh_17 rfl, ?_⟩
  refine List.forall_mem_cons.mpr ⟨sn_icmpge dX10_weigh_18 (by decide) rfl, ?_⟩
  refine List.forall_mem_cons.mpr ⟨sn_aload_n dX10_weigh_21 rfl rfl, ?_⟩
  refine List.forall_mem_cons.mpr ⟨sn_getr mCl_10 (by decide) rfl kt_237 dX10_weigh_22 rfl, ?_⟩
  refine List.forall_mem_cons.mpr ⟨sn_iload_n dX10_weigh_25 rfl rfl, ?_⟩
  refine List.forall_mem_cons.mpr ⟨sn_iald dX10_weigh_26 rfl, ?_⟩
  refine List.forall_mem_cons.mpr ⟨sn_ifne dX10_weigh_27 (by decide) rfl, ?_⟩
  refine List.forall_mem_cons.mpr ⟨sn_iconst dX10_weigh_30 rfl ⟨by decide, by decide⟩, ?_⟩
  refine List.forall_mem_cons.mpr ⟨sn_goto dX10_weigh_31 (by decide), ?_⟩
  refine List.forall_mem_cons.mpr ⟨sn_iconst dX10_weigh_34 rfl ⟨by decide, by decide⟩, ?_⟩
  refine List.forall_mem_cons.mpr ⟨sn_istore dX10_weigh_35 rfl, ?_⟩
  refine List.forall_mem_cons.mpr ⟨sn_iload dX10_weigh_37 rfl, ?_⟩
  refine List.forall_mem_cons.mpr ⟨sn_ifne dX10_weigh_39 (by decide) rfl, ?_⟩
  refine List.forall_mem_cons.mpr ⟨sn_aload_n dX10_weigh_42 rfl rfl, ?_⟩
  refine List.forall_mem_cons.mpr ⟨sn_getr mCl_10 (by decide) rfl kt_237 dX10_weigh_43 rfl, ?_⟩
  refine List.forall_mem_cons.mpr ⟨sn_iload_n dX10_weigh_46 rfl rfl, ?_⟩
  refine List.forall_mem_cons.mpr ⟨sn_iald dX10_weigh_47 rfl, ?_⟩
  refine List.forall_mem_cons.mpr ⟨sn_iload_n dX10_weigh_48 rfl rfl, ?_⟩
  refine List.forall_mem_cons.mpr ⟨sn_icmple dX10_weigh_49 (by decide) rfl, ?_⟩
  refine List.forall_mem_cons.mpr ⟨sn_aload_n dX10_weigh_52 rfl rfl, ?_⟩
  refine List.forall_mem_cons.mpr ⟨sn_iload_n dX10_weigh_53 rfl rfl, ?_⟩
  refine List.forall_mem_cons.mpr ⟨sn_aload_n dX10_weigh_54 rfl rfl, ?_⟩
  refine List.forall_mem_cons.mpr ⟨sn_callV mCl_10 mt_98 rfl kt_791 kt_792 kt_793 dX10_weigh_55 rfl, ?_⟩
  refine List.forall_mem_cons.mpr ⟨sn_ifeq dX10_weigh_58 (by decide) rfl, ?_⟩
  refine List.forall_mem_cons.mpr ⟨sn_iload dX10_weigh_61 rfl, ?_⟩
  refine List.forall_mem_cons.mpr ⟨sn_ifeq dX10_weigh_63 (by decide) rfl, ?_⟩
  refine List.forall_mem_cons.mpr ⟨sn_iconst dX10_weigh_66 rfl ⟨by decide, by decide⟩, ?_⟩
  refine List.forall_mem_cons.mpr ⟨sn_iret rfl dX10_weigh_67, ?_⟩
  refine List.forall_mem_cons.mpr ⟨sn_aload_n dX10_weigh_68 rfl rfl, ?_⟩
  refine List.forall_mem_cons.mpr ⟨sn_getr mCl_10 (by decide) rfl kt_237 dX10_weigh_69 rfl, ?_⟩
  refine List.forall_mem_cons.mpr ⟨sn_iload_n dX10_weigh_72 rfl rfl, ?_⟩
  refine List.forall_mem_cons.mpr ⟨sn_iald dX10_weigh_73 rfl, ?_⟩
  refine List.forall_mem_cons.mpr ⟨sn_istore_n dX10_weigh_74 rfl rfl, ?_⟩
  refine List.forall_mem_cons.mpr ⟨sn_iinc dX10_weigh_75 rfl, ?_⟩
  refine List.forall_mem_cons.mpr ⟨sn_goto dX10_weigh_78 (by decide), ?_⟩
  refine List.forall_mem_cons.mpr ⟨sn_iload_n dX10_weigh_81 rfl rfl, ?_⟩
  refine List.forall_mem_cons.mpr ⟨sn_iret rfl dX10_weigh_82, ?_⟩
  exact List.forall_mem_nil _
theorem sX10_isMet : ∀ q ∈ tX10_isMet, mSnd mInf iX10_isMet q.1 q.2 := by
  unfold tX10_isMet
  refine List.forall_mem_cons.mpr ⟨sn_iload_n dX10_isMet_0 rfl rfl, ?_⟩
  refine List.forall_mem_cons.mpr ⟨sn_iflt dX10_isMet_1 (by decide) rfl, ?_⟩
  refine List.forall_mem_cons.mpr ⟨sn_iload_n dX10_isMet_4 rfl rfl, ?_⟩
  refine List.forall_mem_cons.mpr ⟨sn_aload_n dX10_isMet_5 rfl rfl, ?_⟩
  refine List.forall_mem_cons.mpr ⟨sn_geti mCl_10 (by decide) rfl kt_231 dX10_isMet_6 rfl, ?_⟩
  refine List.forall_mem_cons.mpr ⟨sn_icmpge dX10_isMet_9 (by decide) rfl, ?_⟩
  refine List.forall_mem_cons.mpr ⟨sn_iload_n dX10_isMet_12 rfl rfl, ?_⟩
  refine List.forall_mem_cons.mpr ⟨sn_aload_n dX10_isMet_13 rfl rfl, ?_⟩
  refine List.forall_mem_cons.mpr ⟨sn_getr mCl_10 (by decide) rfl kt_236 dX10_isMet_14 rfl, ?_⟩
  refine List.forall_mem_cons.mpr ⟨sn_alen dX10_isMet_17 rfl, ?_⟩
  refine List.forall_mem_cons.mpr ⟨sn_icmplt dX10_isMet_18 (by decide) rfl, ?_⟩
  refine List.forall_mem_cons.mpr ⟨sn_iconst dX10_isMet_21 rfl ⟨by decide, by decide⟩, ?_⟩
  refine List.forall_mem_cons.mpr ⟨sn_zret rfl dX10_isMet_22, ?_⟩
  refine List.forall_mem_cons.mpr ⟨sn_iconst dX10_isMet_23 rfl ⟨by decide, by decide⟩, ?_⟩
  refine List.forall_mem_cons.mpr ⟨sn_istore_n dX10_isMet_24 rfl rfl, ?_⟩
  refine List.forall_mem_cons.mpr ⟨sn_aload_n dX10_isMet_25 rfl rfl, ?_⟩
  refine List.forall_mem_cons.mpr ⟨sn_getr mCl_10 (by decide) rfl kt_236 dX10_isMet_26 rfl, ?_⟩
  refine List.forall_mem_cons.mpr ⟨sn_iload_n dX10_isMet_29 rfl rfl, ?_⟩
  refine List.forall_mem_cons.mpr ⟨sn_iald dX10_isMet_30 rfl, ?_⟩
  refine List.forall_mem_cons.mpr ⟨sn_aload_n dX10_isMet_31 rfl rfl, ?_⟩
  refine List.forall_mem_cons.mpr ⟨sn_getr mCl_10 (by decide) rfl kt_235 dX10_isMet_32 rfl, ?_⟩
  refine List.forall_mem_cons.mpr ⟨sn_alen dX10_isMet_35 rfl, ?_⟩
  refine List.forall_mem_cons.mpr ⟨sn_min kt_795 kt_632 kt_14 kt_633 dX10_isMet_36 rfl, ?_⟩
  refine List.forall_mem_cons.mpr ⟨sn_istore dX10_isMet_39 rfl, ?_⟩
  refine List.forall_mem_cons.mpr ⟨sn_iload_n dX10_isMet_41 rfl rfl, ?_⟩
  refine List.forall_mem_cons.mpr ⟨sn_ifne dX10_isMet_42 (by decide) rfl, ?_⟩
  refine List.forall_mem_cons.mpr ⟨sn_iconst dX10_isMet_45 rfl ⟨by decide, by decide⟩, ?_⟩
  refine List.forall_mem_cons.mpr ⟨sn_goto dX10_isMet_46 (by decide), ?_⟩
  refine List.forall_mem_cons.mpr ⟨sn_aload_n dX10_isMet_49 rfl rfl, ?_⟩
  refine List.forall_mem_cons.mpr ⟨sn_getr mCl_10 (by decide) rfl kt_236 dX10_isMet_50 rfl, ?_⟩
  refine List.forall_mem_cons.mpr ⟨sn_iload_n dX10_isMet_53 rfl rfl, ?_⟩
  refine List.forall_mem_cons.mpr ⟨sn_iconst dX10_isMet_54 rfl ⟨by decide, by decide⟩, ?_⟩
  refine List.forall_mem_cons.mpr ⟨sn_isub dX10_isMet_55 rfl, ?_⟩
  refine List.forall_mem_cons.mpr ⟨sn_iald dX10_isMet_56 rfl, ?_⟩
  refine List.forall_mem_cons.mpr ⟨sn_iconst dX10_isMet_57 rfl ⟨by decide, by decide⟩, ?_⟩
  refine List.forall_mem_cons.mpr ⟨sn_max kt_796 kt_513 kt_14 kt_514 dX10_isMet_58 rfl, ?_⟩
  refine List.forall_mem_cons.mpr ⟨sn_istore dX10_isMet_61 rfl, ?_⟩
  refine List.forall_mem_cons.mpr ⟨sn_iload dX10_isMet_63 rfl, ?_⟩
  refine List.forall_mem_cons.mpr ⟨sn_iload dX10_isMet_65 rfl, ?_⟩
  refine List.forall_mem_cons.mpr ⟨sn_icmpge dX10_isMet_67 (by decide) rfl, ?_⟩
  refine List.forall_mem_cons.mpr ⟨sn_aload_n dX10_isMet_70 rfl rfl, ?_⟩
  refine List.forall_mem_cons.mpr ⟨sn_getr mCl_10 (by decide) rfl kt_235 dX10_isMet_71 rfl, ?_⟩
  refine List.forall_mem_cons.mpr ⟨sn_iload dX10_isMet_74 rfl, ?_⟩
  refine List.forall_mem_cons.mpr ⟨sn_iald dX10_isMet_76 rfl, ?_⟩
  refine List.forall_mem_cons.mpr ⟨sn_istore dX10_isMet_77 rfl, ?_⟩
  refine List.forall_mem_cons.mpr ⟨sn_iload dX10_isMet_79 rfl, ?_⟩
  refine List.forall_mem_cons.mpr ⟨sn_bipush dX10_isMet_81 rfl (by decide) ⟨by decide, by decide⟩, ?_⟩
  refine List.forall_mem_cons.mpr ⟨sn_icmpgt dX10_isMet_83 (by decide) rfl, ?_⟩
  refine List.forall_mem_cons.mpr ⟨sn_iload_n dX10_isMet_86 rfl rfl, ?_⟩
  refine List.forall_mem_cons.mpr ⟨sn_iconst dX10_isMet_87 rfl ⟨by decide, by decide⟩, ?_⟩
  refine List.forall_mem_cons.mpr ⟨sn_icmpge dX10_isMet_88 (by decide) rfl, ?_⟩
  refine List.forall_mem_cons.mpr ⟨sn_iconst dX10_isMet_91 rfl ⟨by decide, by decide⟩, ?_⟩
  refine List.forall_mem_cons.mpr ⟨sn_zret rfl dX10_isMet_92, ?_⟩
  refine List.forall_mem_cons.mpr ⟨sn_iinc dX10_isMet_93 rfl, ?_⟩
  refine List.forall_mem_cons.mpr ⟨sn_aload_n dX10_isMet_96 rfl rfl, ?_⟩
  refine List.forall_mem_cons.mpr ⟨sn_getr mCl_10 (by decide) rfl kt_238 dX10_isMet_97 rfl, ?_⟩
  refine List.forall_mem_cons.mpr ⟨sn_iload_n dX10_isMet_100 rfl rfl, ?_⟩
  refine List.forall_mem_cons.mpr ⟨sn_iconst dX10_isMet_101 rfl ⟨by decide, by decide⟩, ?_⟩
  refine List.forall_mem_cons.mpr ⟨sn_isub dX10_isMet_102 rfl, ?_⟩
  refine List.forall_mem_cons.mpr ⟨sn_iload dX10_isMet_103 rfl, ?_⟩
  refine List.forall_mem_cons.mpr ⟨sn_ineg dX10_isMet_105 rfl, ?_⟩
  refine List.forall_mem_cons.mpr ⟨sn_aload_n dX10_isMet_106 rfl rfl, ?_⟩
  refine List.forall_mem_cons.mpr ⟨sn_getr mCl_10 (by decide) rfl kt_238 dX10_isMet_107 rfl, ?_⟩
  refine List.forall_mem_cons.mpr ⟨sn_iload_n dX10_isMet_110 rfl rfl, ?_⟩
  refine List.forall_mem_cons.mpr ⟨sn_iconst dX10_isMet_111 rfl ⟨by decide, by decide⟩, ?_⟩
  refine List.forall_mem_cons.mpr ⟨sn_isub dX10_isMet_112 rfl, ?_⟩
  refine List.forall_mem_cons.mpr ⟨sn_iald dX10_isMet_113 rfl, ?_⟩
  refine List.forall_mem_cons.mpr ⟨sn_aload_n dX10_isMet_114 rfl rfl, ?_⟩
  refine List.forall_mem_cons.mpr ⟨sn_getr mCl_10 (by decide) rfl kt_238 dX10_isMet_115 rfl, ?_⟩
  refine List.forall_mem_cons.mpr ⟨sn_iload_n dX10_isMet_118 rfl rfl, ?_⟩
  refine List.forall_mem_cons.mpr ⟨sn_iald dX10_isMet_119 rfl, ?_⟩
  refine List.forall_mem_cons.mpr ⟨sn_callS mt_100 kt_797 kt_798 dX10_isMet_120 rfl, ?_⟩
  refine List.forall_mem_cons.mpr ⟨sn_iast dX10_isMet_123 rfl, ?_⟩
  refine List.forall_mem_cons.mpr ⟨sn_goto dX10_isMet_124 (by decide), ?_⟩
  refine List.forall_mem_cons.mpr ⟨sn_iload_n dX10_isMet_127 rfl rfl, ?_⟩
  refine List.forall_mem_cons.mpr ⟨sn_aload_n dX10_isMet_128 rfl rfl, ?_⟩
  refine List.forall_mem_cons.mpr ⟨sn_getr mCl_10 (by decide) rfl kt_238 dX10_isMet_129 rfl, ?_⟩
  refine List.forall_mem_cons.mpr ⟨sn_alen dX10_isMet_132 rfl, ?_⟩
  refine List.forall_mem_cons.mpr ⟨sn_icmplt dX10_isMet_133 (by decide) rfl, ?_⟩
  refine List.forall_mem_cons.mpr ⟨sn_iconst dX10_isMet_136 rfl ⟨by decide, by decide⟩, ?_⟩
  refine List.forall_mem_cons.mpr ⟨sn_zret rfl dX10_isMet_137, ?_⟩
  refine List.forall_mem_cons.mpr ⟨sn_aload_n dX10_isMet_138 rfl rfl, ?_⟩
  refine List.forall_mem_cons.mpr ⟨sn_getr mCl_10 (by decide) rfl kt_238 dX10_isMet_139 rfl, ?_⟩
  refine List.forall_mem_cons.mpr ⟨sn_iload_n dX10_isMet_142 rfl rfl, ?_⟩
  refine List.forall_mem_cons.mpr ⟨sn_iload dX10_isMet_143 rfl, ?_⟩
  refine List.forall_mem_cons.mpr ⟨sn_iflt dX10_isMet_145 (by decide) rfl, ?_⟩
  refine List.forall_mem_cons.mpr ⟨sn_iload dX10_isMet_148 rfl, ?_⟩
  refine List.forall_mem_cons.mpr ⟨sn_goto dX10_isMet_150 (by decide), ?_⟩
  refine List.forall_mem_cons.mpr ⟨sn_iload dX10_isMet_153 rfl, ?_⟩
  refine List.forall_mem_cons.mpr ⟨sn_ineg dX10_isMet_155 rfl, ?_⟩
  refine List.forall_mem_cons.mpr ⟨sn_aload_n dX10_isMet_156 rfl rfl, ?_⟩
  refine List.forall_mem_cons.mpr ⟨sn_callS mt_99 kt_800 kt_801 dX10_isMet_157 rfl, ?_⟩
  refine List.forall_mem_cons.mpr ⟨sn_iast dX10_isMet_160 rfl, ?_⟩
  refine List.forall_mem_cons.mpr ⟨sn_iinc dX10_isMet_161 rfl, ?_⟩
  refine List.forall_mem_cons.mpr ⟨sn_iinc dX10_isMet_164 rfl, ?_⟩
  refine List.forall_mem_cons.mpr ⟨sn_goto dX10_isMet_167 (by decide), ?_⟩
  refine List.forall_mem_cons.mpr ⟨sn_iload_n dX10_isMet_170 rfl rfl, ?_⟩
  refine List.forall_mem_cons.mpr ⟨sn_iconst dX10_isMet_171 rfl ⟨by decide, by decide⟩, ?_⟩
  refine List.forall_mem_cons.mpr ⟨sn_icmpne dX10_isMet_172 (by decide) rfl, ?_⟩
  refine List.forall_mem_cons.mpr ⟨sn_aload_n dX10_isMet_175 rfl rfl, ?_⟩
  refine List.forall_mem_cons.mpr ⟨sn_getr mCl_10 (by decide) rfl kt_238 dX10_isMet_176 rfl, ?_⟩
  refine List.forall_mem_cons.mpr ⟨sn_iconst dX10_isMet_179 rfl ⟨by decide, by decide⟩, ?_⟩
  refine List.forall_mem_cons.mpr ⟨sn_iald dX10_isMet_180 rfl, ?_⟩
  refine List.forall_mem_cons.mpr ⟨sn_ifeq dX10_isMet_181 (by decide) rfl, ?_⟩
  refine List.forall_mem_cons.mpr ⟨sn_iconst dX10_isMet_184 rfl ⟨by decide, by decide⟩, ?_⟩
  refine List.forall_mem_cons.mpr ⟨sn_goto dX10_isMet_185 (by decide), ?_⟩
  refine List.forall_mem_cons.mpr ⟨sn_iconst dX10_isMet_188 rfl ⟨by decide, by decide⟩, ?_⟩
  refine List.forall_mem_cons.mpr ⟨sn_zret rfl dX10_isMet_189, ?_⟩
  exact List.forall_mem_nil _
theorem sX10_valueOf : ∀ q ∈ tX10_valueOf, mSnd mInf iX10_valueOf q.1 q.2 := by
  unfold tX10_valueOf
  refine List.forall_mem_cons.mpr ⟨sn_iload_n dX10_valueOf_0 rfl rfl, ?_⟩
  refine List.forall_mem_cons.mpr ⟨sn_tsw dX10_valueOf_1 (by decide) (by decide) rfl, ?_⟩
  refine List.forall_mem_cons.mpr ⟨sn_aload_n dX10_valueOf_48 rfl rfl, ?_⟩
  refine List.forall_mem_cons.mpr ⟨sn_geti mCl_6 (by decide) rfl kt_708 dX10_valueOf_49 rfl, ?_⟩
  refine List.forall_mem_cons.mpr ⟨sn_iret rfl dX10_valueOf_52, ?_⟩
  refine List.forall_mem_cons.mpr ⟨sn_aload_n dX10_valueOf_53 rfl rfl, ?_⟩
  refine List.forall_mem_cons.mpr ⟨sn_geti mCl_6 (by decide) rfl kt_713 dX10_valueOf_54 rfl, ?_⟩
  refine List.forall_mem_cons.mpr ⟨sn_iret rfl dX10_valueOf_57, ?_⟩
  refine List.forall_mem_cons.mpr ⟨sn_aload_n dX10_valueOf_58 rfl rfl, ?_⟩
  refine List.forall_mem_cons.mpr ⟨sn_geti mCl_6 (by decide) rfl kt_696 dX10_valueOf_59 rfl, ?_⟩
  refine List.forall_mem_cons.mpr ⟨sn_iret rfl dX10_valueOf_62, ?_⟩
  refine List.forall_mem_cons.mpr ⟨sn_aload_n dX10_valueOf_63 rfl rfl, ?_⟩
  refine List.forall_mem_cons.mpr ⟨sn_geti mCl_6 (by decide) rfl kt_700 dX10_valueOf_64 rfl, ?_⟩
  refine List.forall_mem_cons.mpr ⟨sn_iret rfl dX10_valueOf_67, ?_⟩
  refine List.forall_mem_cons.mpr ⟨sn_aload_n dX10_valueOf_68 rfl rfl, ?_⟩
  refine List.forall_mem_cons.mpr ⟨sn_geti mCl_6 (by decide) rfl kt_704 dX10_valueOf_69 rfl, ?_⟩
  refine List.forall_mem_cons.mpr ⟨sn_iret rfl dX10_valueOf_72, ?_⟩
  refine List.forall_mem_cons.mpr ⟨sn_aload_n dX10_valueOf_73 rfl rfl, ?_⟩
  refine List.forall_mem_cons.mpr ⟨sn_geti mCl_6 (by decide) rfl kt_704 dX10_valueOf_74 rfl, ?_⟩
  refine List.forall_mem_cons.mpr ⟨sn_aload_n dX10_valueOf_77 rfl rfl, ?_⟩
  refine List.forall_mem_cons.mpr ⟨sn_geti mCl_6 (by decide) rfl kt_700 dX10_valueOf_78 rfl, ?_⟩
  refine List.forall_mem_cons.mpr ⟨sn_isub dX10_valueOf_81 rfl, ?_⟩
  refine List.forall_mem_cons.mpr ⟨sn_iret rfl dX10_valueOf_82, ?_⟩
  refine List.forall_mem_cons.mpr ⟨sn_aload_n dX10_valueOf_83 rfl rfl, ?_⟩
  refine List.forall_mem_cons.mpr ⟨sn_geti mCl_6 (by decide) rfl kt_717 dX10_valueOf_84 rfl, ?_⟩
  refine List.forall_mem_cons.mpr ⟨sn_iret rfl dX10_valueOf_87, ?_⟩
  refine List.forall_mem_cons.mpr ⟨sn_aload_n dX10_valueOf_88 rfl rfl, ?_⟩
  refine List.forall_mem_cons.mpr ⟨sn_geti mCl_6 (by decide) rfl kt_719 dX10_valueOf_89 rfl, ?_⟩
  refine List.forall_mem_cons.mpr ⟨sn_ifeq dX10_valueOf_92 (by decide) rfl, ?_⟩
  refine List.forall_mem_cons.mpr ⟨sn_iconst dX10_valueOf_95 rfl ⟨by decide, by decide⟩, ?_⟩
  refine List.forall_mem_cons.mpr ⟨sn_goto dX10_valueOf_96 (by decide), ?_⟩
  refine List.forall_mem_cons.mpr ⟨sn_iconst dX10_valueOf_99 rfl ⟨by decide, by decide⟩, ?_⟩
  refine List.forall_mem_cons.mpr ⟨sn_iret rfl dX10_valueOf_100, ?_⟩
  refine List.forall_mem_cons.mpr ⟨sn_aload_n dX10_valueOf_101 rfl rfl, ?_⟩
  refine List.forall_mem_cons.mpr ⟨sn_geti mCl_6 (by decide) rfl kt_721 dX10_valueOf_102 rfl, ?_⟩
  refine List.forall_mem_cons.mpr ⟨sn_aload_n dX10_valueOf_105 rfl rfl, ?_⟩
  refine List.forall_mem_cons.mpr ⟨sn_geti mCl_6 (by decide) rfl kt_691 dX10_valueOf_106 rfl, ?_⟩
  refine List.forall_mem_cons.mpr ⟨sn_icmpne dX10_valueOf_109 (by decide) rfl, ?_⟩
  refine List.forall_mem_cons.mpr ⟨sn_iconst dX10_valueOf_112 rfl ⟨by decide, by decide⟩, ?_⟩
  refine List.forall_mem_cons.mpr ⟨sn_goto dX10_valueOf_113 (by decide), ?_⟩
  refine List.forall_mem_cons.mpr ⟨sn_iconst dX10_valueOf_116 rfl ⟨by decide, by decide⟩, ?_⟩
  refine List.forall_mem_cons.mpr ⟨sn_iret rfl dX10_valueOf_117, ?_⟩
  exact List.forall_mem_nil _
theorem sX10_join : ∀ q ∈ tX10_join, mSnd mInf iX10_join q.1 q.2 := by
  unfold tX10_join
  refine List.forall_mem_cons.mpr ⟨sn_iload_n dX10_join_0 rfl rfl, ?_⟩
  refine List.forall_mem_cons.mpr ⟨sn_tsw dX10_join_1 (by decide) (by decide) rfl, ?_⟩
  refine List.forall_mem_cons.mpr ⟨sn_iload_n dX10_join_48 rfl rfl, ?_⟩
  refine List.forall_mem_cons.mpr ⟨sn_iload_n dX10_join_49 rfl rfl, ?_⟩
  refine List.forall_mem_cons.mpr ⟨sn_ior dX10_join_50 rfl, ?_⟩
  refine List.forall_mem_cons.mpr ⟨sn_iret rfl dX10_join_51, ?_⟩
  refine List.forall_mem_cons.mpr ⟨sn_iload_n dX10_join_52 rfl rfl, ?_⟩
  refine List.forall_mem_cons.mpr ⟨sn_iload_n dX10_join_53 rfl rfl, ?_⟩
  refine List.forall_mem_cons.mpr ⟨sn_iand dX10_join_54 rfl, ?_⟩
  refine List.forall_mem_cons.mpr ⟨sn_iret rfl dX10_join_55, ?_⟩
  refine List.forall_mem_cons.mpr ⟨sn_iload_n dX10_join_56 rfl rfl, ?_⟩
  refine List.forall_mem_cons.mpr ⟨sn_iload_n dX10_join_57 rfl rfl, ?_⟩
  refine List.forall_mem_cons.mpr ⟨sn_icmpne dX10_join_58 (by decide) rfl, ?_⟩
  refine List.forall_mem_cons.mpr ⟨sn_iconst dX10_join_61 rfl ⟨by decide, by decide⟩, ?_⟩
  refine List.forall_mem_cons.mpr ⟨sn_goto dX10_join_62 (by decide), ?_⟩
  refine List.forall_mem_cons.mpr ⟨sn_iconst dX10_join_65 rfl ⟨by decide, by decide⟩, ?_⟩
  refine List.forall_mem_cons.mpr ⟨sn_iret rfl dX10_join_66, ?_⟩
  refine List.forall_mem_cons.mpr ⟨sn_iload_n dX10_join_67 rfl rfl, ?_⟩
  refine List.forall_mem_cons.mpr ⟨sn_iload_n dX10_join_68 rfl rfl, ?_⟩
  refine List.forall_mem_cons.mpr ⟨sn_icmpeq dX10_join_69 (by decide) rfl, ?_⟩
  refine List.forall_mem_cons.mpr ⟨sn_iconst dX10_join_72 rfl ⟨by decide, by decide⟩, ?_⟩
  refine List.forall_mem_cons.mpr ⟨sn_goto dX10_join_73 (by decide), ?_⟩
  refine List.forall_mem_cons.mpr ⟨sn_iconst dX10_join_76 rfl ⟨by decide, by decide⟩, ?_⟩
  refine List.forall_mem_cons.mpr ⟨sn_iret rfl dX10_join_77, ?_⟩
  refine List.forall_mem_cons.mpr ⟨sn_iload_n dX10_join_78 rfl rfl, ?_⟩
  refine List.forall_mem_cons.mpr ⟨sn_iload_n dX10_join_79 rfl rfl, ?_⟩
  refine List.forall_mem_cons.mpr ⟨sn_icmpge dX10_join_80 (by decide) rfl, ?_⟩
  refine List.forall_mem_cons.mpr ⟨sn_iconst dX10_join_83 rfl ⟨by decide, by decide⟩, ?_⟩
  refine List.forall_mem_cons.mpr ⟨sn_goto dX10_join_84 (by decide), ?_⟩
  refine List.forall_mem_cons.mpr ⟨sn_iconst dX10_join_87 rfl ⟨by decide, by decide⟩, ?_⟩
  refine List.forall_mem_cons.mpr ⟨sn_iret rfl dX10_join_88, ?_⟩
  refine List.forall_mem_cons.mpr ⟨sn_iload_n dX10_join_89 rfl rfl, ?_⟩
  refine List.forall_mem_cons.mpr ⟨sn_iload_n dX10_join_90 rfl rfl, ?_⟩
  refine List.forall_mem_cons.mpr ⟨sn_icmpgt dX10_join_91 (by decide) rfl, ?_⟩
  refine List.forall_mem_cons.mpr ⟨sn_iconst dX10_join_94 rfl ⟨by decide, by decide⟩, ?_⟩
  refine List.forall_mem_cons.mpr ⟨sn_goto dX10_join_95 (by decide), ?_⟩
  refine List.forall_mem_cons.mpr ⟨sn_iconst dX10_join_98 rfl ⟨by decide, by decide⟩, ?_⟩
  refine List.forall_mem_cons.mpr ⟨sn_iret rfl dX10_join_99, ?_⟩
  refine List.forall_mem_cons.mpr ⟨sn_iload_n dX10_join_100 rfl rfl, ?_⟩
  refine List.forall_mem_cons.mpr ⟨sn_iload_n dX10_join_101 rfl rfl, ?_⟩
  refine List.forall_mem_cons.mpr ⟨sn_iadd dX10_join_102 rfl, ?_⟩
  refine List.forall_mem_cons.mpr ⟨sn_iret rfl dX10_join_103, ?_⟩
  refine List.forall_mem_cons.mpr ⟨sn_iload_n dX10_join_104 rfl rfl, ?_⟩
  refine List.forall_mem_cons.mpr ⟨sn_iload_n dX10_join_105 rfl rfl, ?_⟩
  refine List.forall_mem_cons.mpr ⟨sn_isub dX10_join_106 rfl, ?_⟩
  refine List.forall_mem_cons.mpr ⟨sn_iret rfl dX10_join_107, ?_⟩
  refine List.forall_mem_cons.mpr ⟨sn_iload_n dX10_join_108 rfl rfl, ?_⟩
  refine List.forall_mem_cons.mpr ⟨sn_iload_n dX10_join_109 rfl rfl, ?_⟩
  refine List.forall_mem_cons.mpr ⟨sn_imul dX10_join_110 rfl, ?_⟩
  refine List.forall_mem_cons.mpr ⟨sn_iret rfl dX10_join_111, ?_⟩
  exact List.forall_mem_nil _
