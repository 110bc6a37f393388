theorem sX6_init : ∀ q ∈ tX6_init, mSnd mInf iX6_init q.1 q.2 := by
  unfold tX6_init
  refine List.forall_mem_cons.mpr ⟨sn_aload_n dX6_init_0 rfl rfl, ?_⟩
  refine List.forall_mem_cons.mpr ⟨sn_objinit kt_687 kt_28 kt_29 dX6_init_1 rfl, ?_⟩
  refine List.forall_mem_cons.mpr ⟨sn_vret rfl dX6_init_4, ?_⟩
  exact List.forall_mem_nil _
theorem sX6_fill : ∀ q ∈ tX6_fill, mSnd mInf iX6_fill q.1 q.2 := by
  unfold tX6_fill
  refine List.forall_mem_cons.mpr ⟨sn_aload_n dX6_fill_0 rfl rfl, ?_⟩
  refine List.forall_mem_cons.mpr ⟨sn_iload_n dX6_fill_1 rfl rfl, ?_⟩
  refine List.forall_mem_cons.mpr ⟨sn_puti mCl_6 (by decide) rfl (Or.inl rfl) kt_688 dX6_fill_2 rfl, ?_⟩
  refine List.forall_mem_cons.mpr ⟨sn_aload_n dX6_fill_5 rfl rfl, ?_⟩
  refine List.forall_mem_cons.mpr ⟨sn_iload_n dX6_fill_6 rfl rfl, ?_⟩
  refine List.forall_mem_cons.mpr ⟨sn_puti mCl_6 (by decide) rfl (Or.inl rfl) kt_692 dX6_fill_7 rfl, ?_⟩
  refine List.forall_mem_cons.mpr ⟨sn_aload_n dX6_fill_10 rfl rfl, ?_⟩
  refine List.forall_mem_cons.mpr ⟨sn_iload dX6_fill_11 rfl, ?_⟩
  refine List.forall_mem_cons.mpr ⟨sn_puti mCl_6 (by decide) rfl (Or.inl rfl) kt_698 dX6_fill_13 rfl, ?_⟩
  refine List.forall_mem_cons.mpr ⟨sn_aload_n dX6_fill_16 rfl rfl, ?_⟩
  refine List.forall_mem_cons.mpr ⟨sn_iload dX6_fill_17 rfl, ?_⟩
  refine List.forall_mem_cons.mpr ⟨sn_puti mCl_6 (by decide) rfl (Or.inl rfl) kt_702 dX6_fill_19 rfl, ?_⟩
  refine List.forall_mem_cons.mpr ⟨sn_aload_n dX6_fill_22 rfl rfl, ?_⟩
  refine List.forall_mem_cons.mpr ⟨sn_aload_n dX6_fill_23 rfl rfl, ?_⟩
  refine List.forall_mem_cons.mpr ⟨sn_geti mCl_2 (by decide) rfl kt_574 dX6_fill_24 rfl, ?_⟩
  refine List.forall_mem_cons.mpr ⟨sn_puti mCl_6 (by decide) rfl (Or.inl rfl) kt_695 dX6_fill_27 rfl, ?_⟩
  refine List.forall_mem_cons.mpr ⟨sn_aload_n dX6_fill_30 rfl rfl, ?_⟩
  refine List.forall_mem_cons.mpr ⟨sn_aload_n dX6_fill_31 rfl rfl, ?_⟩
  refine List.forall_mem_cons.mpr ⟨sn_geti mCl_2 (by decide) rfl kt_581 dX6_fill_32 rfl, ?_⟩
  refine List.forall_mem_cons.mpr ⟨sn_puti mCl_6 (by decide) rfl (Or.inl rfl) kt_707 dX6_fill_35 rfl, ?_⟩
  refine List.forall_mem_cons.mpr ⟨sn_aload_n dX6_fill_38 rfl rfl, ?_⟩
  refine List.forall_mem_cons.mpr ⟨sn_aload_n dX6_fill_39 rfl rfl, ?_⟩
  refine List.forall_mem_cons.mpr ⟨sn_geti mCl_2 (by decide) rfl kt_584 dX6_fill_40 rfl, ?_⟩
  refine List.forall_mem_cons.mpr ⟨sn_puti mCl_6 (by decide) rfl (Or.inl rfl) kt_712 dX6_fill_43 rfl, ?_⟩
  refine List.forall_mem_cons.mpr ⟨sn_aload_n dX6_fill_46 rfl rfl, ?_⟩
  refine List.forall_mem_cons.mpr ⟨sn_aload_n dX6_fill_47 rfl rfl, ?_⟩
  refine List.forall_mem_cons.mpr ⟨sn_callV mCl_2 mt_24 rfl kt_749 kt_750 kt_751 dX6_fill_48 rfl, ?_⟩
  refine List.forall_mem_cons.mpr ⟨sn_puti mCl_6 (by decide) rfl (Or.inl rfl) kt_716 dX6_fill_51 rfl, ?_⟩
  refine List.forall_mem_cons.mpr ⟨sn_aload_n dX6_fill_54 rfl rfl, ?_⟩
  refine List.forall_mem_cons.mpr ⟨sn_aload_n dX6_fill_55 rfl rfl, ?_⟩
  refine List.forall_mem_cons.mpr ⟨sn_geti mCl_2 (by decide) rfl kt_586 dX6_fill_56 rfl, ?_⟩
  refine List.forall_mem_cons.mpr ⟨sn_putz mCl_6 (by decide) rfl (Or.inl rfl) kt_718 dX6_fill_59 rfl, ?_⟩
  refine List.forall_mem_cons.mpr ⟨sn_vret rfl dX6_fill_62, ?_⟩
  exact List.forall_mem_nil _
theorem sX6_isDoubtedWith : ∀ q ∈ tX6_isDoubtedWith, mSnd mInf iX6_isDoubtedWith q.1 q.2 := by
  unfold tX6_isDoubtedWith
  refine List.forall_mem_cons.mpr ⟨sn_aload_n dX6_isDoubtedWith_0 rfl rfl, ?_⟩
  refine List.forall_mem_cons.mpr ⟨sn_geti mCl_6 (by decide) rfl kt_707 dX6_isDoubtedWith_1 rfl, ?_⟩
  refine List.forall_mem_cons.mpr ⟨sn_aload_n dX6_isDoubtedWith_4 rfl rfl, ?_⟩
  refine List.forall_mem_cons.mpr ⟨sn_geti mCl_6 (by decide) rfl kt_707 dX6_isDoubtedWith_5 rfl, ?_⟩
  refine List.forall_mem_cons.mpr ⟨sn_icmpne dX6_isDoubtedWith_8 (by decide) rfl, ?_⟩
  refine List.forall_mem_cons.mpr ⟨sn_aload_n dX6_isDoubtedWith_11 rfl rfl, ?_⟩
  refine List.forall_mem_cons.mpr ⟨sn_geti mCl_6 (by decide) rfl kt_712 dX6_isDoubtedWith_12 rfl, ?_⟩
  refine List.forall_mem_cons.mpr ⟨sn_ifeq dX6_isDoubtedWith_15 (by decide) rfl, ?_⟩
  refine List.forall_mem_cons.mpr ⟨sn_aload_n dX6_isDoubtedWith_18 rfl rfl, ?_⟩
  refine List.forall_mem_cons.mpr ⟨sn_geti mCl_6 (by decide) rfl kt_712 dX6_isDoubtedWith_19 rfl, ?_⟩
  refine List.forall_mem_cons.mpr ⟨sn_ifne dX6_isDoubtedWith_22 (by decide) rfl, ?_⟩
  refine List.forall_mem_cons.mpr ⟨sn_iconst dX6_isDoubtedWith_25 rfl ⟨by decide, by decide⟩, ?_⟩
  refine List.forall_mem_cons.mpr ⟨sn_goto dX6_isDoubtedWith_26 (by decide), ?_⟩
  refine List.forall_mem_cons.mpr ⟨sn_iconst dX6_isDoubtedWith_29 rfl ⟨by decide, by decide⟩, ?_⟩
  refine List.forall_mem_cons.mpr ⟨sn_zret rfl dX6_isDoubtedWith_30, ?_⟩
  exact List.forall_mem_nil _
