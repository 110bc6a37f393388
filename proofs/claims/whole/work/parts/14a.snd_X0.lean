theorem sX0_init : ∀ q ∈ tX0_init, mSnd mInf iX0_init q.1 q.2 := by
  unfold tX0_init
  refine List.forall_mem_cons.mpr ⟨sn_aload_n dX0_init_0 rfl rfl, ?_⟩
  refine List.forall_mem_cons.mpr ⟨sn_objinit kt_835 kt_28 kt_29 dX0_init_1 rfl, ?_⟩
  refine List.forall_mem_cons.mpr ⟨sn_vret rfl dX0_init_4, ?_⟩
  exact List.forall_mem_nil _
theorem sX0_fill : ∀ q ∈ tX0_fill, mSnd mInf iX0_fill q.1 q.2 := by
  unfold tX0_fill
  refine List.forall_mem_cons.mpr ⟨sn_aload_n dX0_fill_0 rfl rfl, ?_⟩
  refine List.forall_mem_cons.mpr ⟨sn_aload_n dX0_fill_1 rfl rfl, ?_⟩
  refine List.forall_mem_cons.mpr ⟨sn_geti mCl_6 (by decide) rfl kt_689 dX0_fill_2 rfl, ?_⟩
  refine List.forall_mem_cons.mpr ⟨sn_puti mCl_0 (by decide) rfl (Or.inl rfl) kt_836 dX0_fill_5 rfl, ?_⟩
  refine List.forall_mem_cons.mpr ⟨sn_aload_n dX0_fill_8 rfl rfl, ?_⟩
  refine List.forall_mem_cons.mpr ⟨sn_aload_n dX0_fill_9 rfl rfl, ?_⟩
  refine List.forall_mem_cons.mpr ⟨sn_geti mCl_6 (by decide) rfl kt_694 dX0_fill_10 rfl, ?_⟩
  refine List.forall_mem_cons.mpr ⟨sn_puti mCl_0 (by decide) rfl (Or.inl rfl) kt_838 dX0_fill_13 rfl, ?_⟩
  refine List.forall_mem_cons.mpr ⟨sn_aload_n dX0_fill_16 rfl rfl, ?_⟩
  refine List.forall_mem_cons.mpr ⟨sn_aload_n dX0_fill_17 rfl rfl, ?_⟩
  refine List.forall_mem_cons.mpr ⟨sn_geti mCl_6 (by decide) rfl kt_706 dX0_fill_18 rfl, ?_⟩
  refine List.forall_mem_cons.mpr ⟨sn_puti mCl_0 (by decide) rfl (Or.inl rfl) kt_839 dX0_fill_21 rfl, ?_⟩
  refine List.forall_mem_cons.mpr ⟨sn_aload_n dX0_fill_24 rfl rfl, ?_⟩
  refine List.forall_mem_cons.mpr ⟨sn_aload_n dX0_fill_25 rfl rfl, ?_⟩
  refine List.forall_mem_cons.mpr ⟨sn_geti mCl_6 (by decide) rfl kt_711 dX0_fill_26 rfl, ?_⟩
  refine List.forall_mem_cons.mpr ⟨sn_puti mCl_0 (by decide) rfl (Or.inl rfl) kt_840 dX0_fill_29 rfl, ?_⟩
  refine List.forall_mem_cons.mpr ⟨sn_aload_n dX0_fill_32 rfl rfl, ?_⟩
  refine List.forall_mem_cons.mpr ⟨sn_aload_n dX0_fill_33 rfl rfl, ?_⟩
  refine List.forall_mem_cons.mpr ⟨sn_geti mCl_6 (by decide) rfl kt_699 dX0_fill_34 rfl, ?_⟩
  refine List.forall_mem_cons.mpr ⟨sn_puti mCl_0 (by decide) rfl (Or.inl rfl) kt_841 dX0_fill_37 rfl, ?_⟩
  refine List.forall_mem_cons.mpr ⟨sn_aload_n dX0_fill_40 rfl rfl, ?_⟩
  refine List.forall_mem_cons.mpr ⟨sn_aload_n dX0_fill_41 rfl rfl, ?_⟩
  refine List.forall_mem_cons.mpr ⟨sn_geti mCl_6 (by decide) rfl kt_720 dX0_fill_42 rfl, ?_⟩
  refine List.forall_mem_cons.mpr ⟨sn_puti mCl_0 (by decide) rfl (Or.inl rfl) kt_842 dX0_fill_45 rfl, ?_⟩
  refine List.forall_mem_cons.mpr ⟨sn_aload_n dX0_fill_48 rfl rfl, ?_⟩
  refine List.forall_mem_cons.mpr ⟨sn_iload_n dX0_fill_49 rfl rfl, ?_⟩
  refine List.forall_mem_cons.mpr ⟨sn_puti mCl_0 (by decide) rfl (Or.inl rfl) kt_843 dX0_fill_50 rfl, ?_⟩
  refine List.forall_mem_cons.mpr ⟨sn_aload_n dX0_fill_53 rfl rfl, ?_⟩
  refine List.forall_mem_cons.mpr ⟨sn_aload_n dX0_fill_54 rfl rfl, ?_⟩
  refine List.forall_mem_cons.mpr ⟨sn_geti mCl_6 (by decide) rfl kt_699 dX0_fill_55 rfl, ?_⟩
  refine List.forall_mem_cons.mpr ⟨sn_aload_n dX0_fill_58 rfl rfl, ?_⟩
  refine List.forall_mem_cons.mpr ⟨sn_geti mCl_5 (by decide) rfl kt_180 dX0_fill_59 rfl, ?_⟩
  refine List.forall_mem_cons.mpr ⟨sn_isub dX0_fill_62 rfl, ?_⟩
  refine List.forall_mem_cons.mpr ⟨sn_iconst dX0_fill_63 rfl ⟨by decide, by decide⟩, ?_⟩
  refine List.forall_mem_cons.mpr ⟨sn_max kt_909 kt_513 kt_14 kt_514 dX0_fill_64 rfl, ?_⟩
  refine List.forall_mem_cons.mpr ⟨sn_puti mCl_0 (by decide) rfl (Or.inl rfl) kt_846 dX0_fill_67 rfl, ?_⟩
  refine List.forall_mem_cons.mpr ⟨sn_aload_n dX0_fill_70 rfl rfl, ?_⟩
  refine List.forall_mem_cons.mpr ⟨sn_aload_n dX0_fill_71 rfl rfl, ?_⟩
  refine List.forall_mem_cons.mpr ⟨sn_geti mCl_6 (by decide) rfl kt_703 dX0_fill_72 rfl, ?_⟩
  refine List.forall_mem_cons.mpr ⟨sn_aload_n dX0_fill_75 rfl rfl, ?_⟩
  refine List.forall_mem_cons.mpr ⟨sn_geti mCl_5 (by decide) rfl kt_183 dX0_fill_76 rfl, ?_⟩
  refine List.forall_mem_cons.mpr ⟨sn_iadd dX0_fill_79 rfl, ?_⟩
  refine List.forall_mem_cons.mpr ⟨sn_sipush dX0_fill_80 rfl (by decide) ⟨by decide, by decide⟩, ?_⟩
  refine List.forall_mem_cons.mpr ⟨sn_min kt_910 kt_632 kt_14 kt_633 dX0_fill_83 rfl, ?_⟩
  refine List.forall_mem_cons.mpr ⟨sn_puti mCl_0 (by decide) rfl (Or.inl rfl) kt_848 dX0_fill_86 rfl, ?_⟩
  refine List.forall_mem_cons.mpr ⟨sn_vret rfl dX0_fill_89, ?_⟩
  exact List.forall_mem_nil _
theorem sX0_span : ∀ q ∈ tX0_span, mSnd mInf iX0_span q.1 q.2 := by
  unfold tX0_span
  refine List.forall_mem_cons.mpr ⟨sn_aload_n dX0_span_0 rfl rfl, ?_⟩
  refine List.forall_mem_cons.mpr ⟨sn_geti mCl_0 (by decide) rfl kt_848 dX0_span_1 rfl, ?_⟩
  refine List.forall_mem_cons.mpr ⟨sn_aload_n dX0_span_4 rfl rfl, ?_⟩
  refine List.forall_mem_cons.mpr ⟨sn_geti mCl_0 (by decide) rfl kt_846 dX0_span_5 rfl, ?_⟩
  refine List.forall_mem_cons.mpr ⟨sn_isub dX0_span_8 rfl, ?_⟩
  refine List.forall_mem_cons.mpr ⟨sn_iret rfl dX0_span_9, ?_⟩
  exact List.forall_mem_nil _
theorem sX0_spansSlot : ∀ q ∈ tX0_spansSlot, mSnd mInf iX0_spansSlot q.1 q.2 := by
  unfold tX0_spansSlot
  refine List.forall_mem_cons.mpr ⟨sn_aload_n dX0_spansSlot_0 rfl rfl, ?_⟩
  refine List.forall_mem_cons.mpr ⟨sn_geti mCl_0 (by decide) rfl kt_846 dX0_spansSlot_1 rfl, ?_⟩
  refine List.forall_mem_cons.mpr ⟨sn_iload_n dX0_spansSlot_4 rfl rfl, ?_⟩
  refine List.forall_mem_cons.mpr ⟨sn_icmpgt dX0_spansSlot_5 (by decide) rfl, ?_⟩
  refine List.forall_mem_cons.mpr ⟨sn_iload_n dX0_spansSlot_8 rfl rfl, ?_⟩
  refine List.forall_mem_cons.mpr ⟨sn_aload_n dX0_spansSlot_9 rfl rfl, ?_⟩
  refine List.forall_mem_cons.mpr ⟨sn_geti mCl_0 (by decide) rfl kt_848 dX0_spansSlot_10 rfl, ?_⟩
  refine List.forall_mem_cons.mpr ⟨sn_icmpge dX0_spansSlot_13 (by decide) rfl, ?_⟩
  refine List.forall_mem_cons.mpr ⟨sn_iconst dX0_spansSlot_16 rfl ⟨by decide, by decide⟩, ?_⟩
  refine List.forall_mem_cons.mpr ⟨sn_goto dX0_spansSlot_17 (by decide), ?_⟩
  refine List.forall_mem_cons.mpr ⟨sn_iconst dX0_spansSlot_20 rfl ⟨by decide, by decide⟩, ?_⟩
  refine List.forall_mem_cons.mpr ⟨sn_zret rfl dX0_spansSlot_21, ?_⟩
  exact List.forall_mem_nil _
theorem sX0_meets : ∀ q ∈ tX0_meets, mSnd mInf iX0_meets q.1 q.2 := by
  unfold tX0_meets
  refine List.forall_mem_cons.mpr ⟨sn_aload_n dX0_meets_0 rfl rfl, ?_⟩
  refine List.forall_mem_cons.mpr ⟨sn_geti mCl_0 (by decide) rfl kt_846 dX0_meets_1 rfl, ?_⟩
  refine List.forall_mem_cons.mpr ⟨sn_aload_n dX0_meets_4 rfl rfl, ?_⟩
  refine List.forall_mem_cons.mpr ⟨sn_geti mCl_0 (by decide) rfl kt_848 dX0_meets_5 rfl, ?_⟩
  refine List.forall_mem_cons.mpr ⟨sn_icmpge dX0_meets_8 (by decide) rfl, ?_⟩
  refine List.forall_mem_cons.mpr ⟨sn_aload_n dX0_meets_11 rfl rfl, ?_⟩
  refine List.forall_mem_cons.mpr ⟨sn_geti mCl_0 (by decide) rfl kt_846 dX0_meets_12 rfl, ?_⟩
  refine List.forall_mem_cons.mpr ⟨sn_aload_n dX0_meets_15 rfl rfl, ?_⟩
  refine List.forall_mem_cons.mpr ⟨sn_geti mCl_0 (by decide) rfl kt_848 dX0_meets_16 rfl, ?_⟩
  refine List.forall_mem_cons.mpr ⟨sn_icmpge dX0_meets_19 (by decide) rfl, ?_⟩
  refine List.forall_mem_cons.mpr ⟨sn_iconst dX0_meets_22 rfl ⟨by decide, by decide⟩, ?_⟩
  refine List.forall_mem_cons.mpr ⟨sn_goto dX0_meets_23 (by decide), ?_⟩
  refine List.forall_mem_cons.mpr ⟨sn_iconst dX0_meets_26 rfl ⟨by decide, by decide⟩, ?_⟩
  refine List.forall_mem_cons.mpr ⟨sn_zret rfl dX0_meets_27, ?_⟩
  exact List.forall_mem_nil _
theorem sX0_isOneWith : ∀ q ∈ tX0_isOneWith, mSnd mInf iX0_isOneWith q.1 q.2 := by
  unfold tX0_isOneWith
  refine List.forall_mem_cons.mpr ⟨sn_aload_n dX0_isOneWith_0 rfl rfl, ?_⟩
  refine List.forall_mem_cons.mpr ⟨sn_geti mCl_0 (by decide) rfl kt_842 dX0_isOneWith_1 rfl, ?_⟩
  refine List.forall_mem_cons.mpr ⟨sn_aload_n dX0_isOneWith_4 rfl rfl, ?_⟩
  refine List.forall_mem_cons.mpr ⟨sn_geti mCl_0 (by decide) rfl kt_842 dX0_isOneWith_5 rfl, ?_⟩
  refine List.forall_mem_cons.mpr ⟨sn_icmpne dX0_isOneWith_8 (by decide) rfl, ?_⟩
  refine List.forall_mem_cons.mpr ⟨sn_iconst dX0_isOneWith_11 rfl ⟨by decide, by decide⟩, ?_⟩
  refine List.forall_mem_cons.mpr ⟨sn_goto dX0_isOneWith_12 (by decide), ?_⟩
  refine List.forall_mem_cons.mpr ⟨sn_iconst dX0_isOneWith_15 rfl ⟨by decide, by decide⟩, ?_⟩
  refine List.forall_mem_cons.mpr ⟨sn_zret rfl dX0_isOneWith_16, ?_⟩
  exact List.forall_mem_nil _
theorem sX0_isSameAs : ∀ q ∈ tX0_isSameAs, mSnd mInf iX0_isSameAs q.1 q.2 := by
  unfold tX0_isSameAs
  refine List.forall_mem_cons.mpr ⟨sn_aload_n dX0_isSameAs_0 rfl rfl, ?_⟩
  refine List.forall_mem_cons.mpr ⟨sn_geti mCl_0 (by decide) rfl kt_838 dX0_isSameAs_1 rfl, ?_⟩
  refine List.forall_mem_cons.mpr ⟨sn_aload_n dX0_isSameAs_4 rfl rfl, ?_⟩
  refine List.forall_mem_cons.mpr ⟨sn_geti mCl_0 (by decide) rfl kt_838 dX0_isSameAs_5 rfl, ?_⟩
  refine List.forall_mem_cons.mpr ⟨sn_icmpne dX0_isSameAs_8 (by decide) rfl, ?_⟩
  refine List.forall_mem_cons.mpr ⟨sn_aload_n dX0_isSameAs_11 rfl rfl, ?_⟩
  refine List.forall_mem_cons.mpr ⟨sn_geti mCl_0 (by decide) rfl kt_839 dX0_isSameAs_12 rfl, ?_⟩
  refine List.forall_mem_cons.mpr ⟨sn_aload_n dX0_isSameAs_15 rfl rfl, ?_⟩
  refine List.forall_mem_cons.mpr ⟨sn_geti mCl_0 (by decide) rfl kt_839 dX0_isSameAs_16 rfl, ?_⟩
  refine List.forall_mem_cons.mpr ⟨sn_icmpne dX0_isSameAs_19 (by decide) rfl, ?_⟩
  refine List.forall_mem_cons.mpr ⟨sn_aload_n dX0_isSameAs_22 rfl rfl, ?_⟩
  refine List.forall_mem_cons.mpr ⟨sn_geti mCl_0 (by decide) rfl kt_840 dX0_isSameAs_23 rfl, ?_⟩
  refine List.forall_mem_cons.mpr ⟨sn_aload_n dX0_isSameAs_26 rfl rfl, ?_⟩
  refine List.forall_mem_cons.mpr ⟨sn_geti mCl_0 (by decide) rfl kt_840 dX0_isSameAs_27 rfl, ?_⟩
  refine List.forall_mem_cons.mpr ⟨sn_icmpne dX0_isSameAs_30 (by decide) rfl, ?_⟩
  refine List.forall_mem_cons.mpr ⟨sn_aload_n dX0_isSameAs_33 rfl rfl, ?_⟩
  refine List.forall_mem_cons.mpr ⟨sn_geti mCl_0 (by decide) rfl kt_841 dX0_isSameAs_34 rfl, ?_⟩
  refine List.forall_mem_cons.mpr ⟨sn_aload_n dX0_isSameAs_37 rfl rfl, ?_⟩
  refine List.forall_mem_cons.mpr ⟨sn_geti mCl_0 (by decide) rfl kt_841 dX0_isSameAs_38 rfl, ?_⟩
  refine List.forall_mem_cons.mpr ⟨sn_icmpne dX0_isSameAs_41 (by decide) rfl, ?_⟩
  refine List.forall_mem_cons.mpr ⟨sn_iconst dX0_isSameAs_44 rfl ⟨by decide, by decide⟩, ?_⟩
  refine List.forall_mem_cons.mpr ⟨sn_goto dX0_isSameAs_45 (by decide), ?_⟩
  refine List.forall_mem_cons.mpr ⟨sn_iconst dX0_isSameAs_48 rfl ⟨by decide, by decide⟩, ?_⟩
  refine List.forall_mem_cons.mpr ⟨sn_zret rfl dX0_isSameAs_49, ?_⟩
  exact List.forall_mem_nil _
