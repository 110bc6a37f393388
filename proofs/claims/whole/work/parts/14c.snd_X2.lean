theorem sX2_init : ∀ q ∈ tX2_init, mSnd mInf iX2_init q.1 q.2 := by
  unfold tX2_init
  refine List.forall_mem_cons.mpr ⟨sn_aload_n dX2_init_0 rfl rfl, ?_⟩
  refine List.forall_mem_cons.mpr ⟨sn_objinit kt_571 kt_28 kt_29 dX2_init_1 rfl, ?_⟩
  refine List.forall_mem_cons.mpr ⟨sn_aload_n dX2_init_4 rfl rfl, ?_⟩
  refine List.forall_mem_cons.mpr ⟨sn_aload_n dX2_init_5 rfl rfl, ?_⟩
  refine List.forall_mem_cons.mpr ⟨sn_putr mCl_2 (by decide) rfl (Or.inr ⟨rfl, rfl, rfl⟩) kt_572 dX2_init_6 rfl, ?_⟩
  refine List.forall_mem_cons.mpr ⟨sn_aload_n dX2_init_9 rfl rfl, ?_⟩
  refine List.forall_mem_cons.mpr ⟨sn_iload_n dX2_init_10 rfl rfl, ?_⟩
  refine List.forall_mem_cons.mpr ⟨sn_puti mCl_2 (by decide) rfl (Or.inr ⟨rfl, rfl, rfl⟩) kt_573 dX2_init_11 rfl, ?_⟩
  refine List.forall_mem_cons.mpr ⟨sn_aload_n dX2_init_14 rfl rfl, ?_⟩
  refine List.forall_mem_cons.mpr ⟨sn_iload_n dX2_init_15 rfl rfl, ?_⟩
  refine List.forall_mem_cons.mpr ⟨sn_puti mCl_2 (by decide) rfl (Or.inr ⟨rfl, rfl, rfl⟩) kt_576 dX2_init_16 rfl, ?_⟩
  refine List.forall_mem_cons.mpr ⟨sn_aload_n dX2_init_19 rfl rfl, ?_⟩
  refine List.forall_mem_cons.mpr ⟨sn_iload dX2_init_20 rfl, ?_⟩
  refine List.forall_mem_cons.mpr ⟨sn_puti mCl_2 (by decide) rfl (Or.inr ⟨rfl, rfl, rfl⟩) kt_578 dX2_init_22 rfl, ?_⟩
  refine List.forall_mem_cons.mpr ⟨sn_aload_n dX2_init_25 rfl rfl, ?_⟩
  refine List.forall_mem_cons.mpr ⟨sn_iload dX2_init_26 rfl, ?_⟩
  refine List.forall_mem_cons.mpr ⟨sn_puti mCl_2 (by decide) rfl (Or.inr ⟨rfl, rfl, rfl⟩) kt_580 dX2_init_28 rfl, ?_⟩
  refine List.forall_mem_cons.mpr ⟨sn_aload_n dX2_init_31 rfl rfl, ?_⟩
  refine List.forall_mem_cons.mpr ⟨sn_iload dX2_init_32 rfl, ?_⟩
  refine List.forall_mem_cons.mpr ⟨sn_puti mCl_2 (by decide) rfl (Or.inr ⟨rfl, rfl, rfl⟩) kt_583 dX2_init_34 rfl, ?_⟩
  refine List.forall_mem_cons.mpr ⟨sn_aload_n dX2_init_37 rfl rfl, ?_⟩
  refine List.forall_mem_cons.mpr ⟨sn_iload dX2_init_38 rfl, ?_⟩
  refine List.forall_mem_cons.mpr ⟨sn_putz mCl_2 (by decide) rfl (Or.inr ⟨rfl, rfl, rfl⟩) kt_585 dX2_init_40 rfl, ?_⟩
  refine List.forall_mem_cons.mpr ⟨sn_vret rfl dX2_init_43, ?_⟩
  exact List.forall_mem_nil _
theorem sX2_isNotice : ∀ q ∈ tX2_isNotice, mSnd mInf iX2_isNotice q.1 q.2 := by
  unfold tX2_isNotice
  refine List.forall_mem_cons.mpr ⟨sn_aload_n dX2_isNotice_0 rfl rfl, ?_⟩
  refine List.forall_mem_cons.mpr ⟨sn_getr mCl_2 (by decide) rfl kt_572 dX2_isNotice_1 rfl, ?_⟩
  refine List.forall_mem_cons.mpr ⟨sn_ifnull dX2_isNotice_4 (by decide) rfl, ?_⟩
  refine List.forall_mem_cons.mpr ⟨sn_iconst dX2_isNotice_7 rfl ⟨by decide, by decide⟩, ?_⟩
  refine List.forall_mem_cons.mpr ⟨sn_goto dX2_isNotice_8 (by decide), ?_⟩
  refine List.forall_mem_cons.mpr ⟨sn_iconst dX2_isNotice_11 rfl ⟨by decide, by decide⟩, ?_⟩
  refine List.forall_mem_cons.mpr ⟨sn_zret rfl dX2_isNotice_12, ?_⟩
  exact List.forall_mem_nil _
theorem sX2_isWordOf : ∀ q ∈ tX2_isWordOf, mSnd mInf iX2_isWordOf q.1 q.2 := by
  unfold tX2_isWordOf
  refine List.forall_mem_cons.mpr ⟨sn_aload_n dX2_isWordOf_0 rfl rfl, ?_⟩
  refine List.forall_mem_cons.mpr ⟨sn_getr mCl_2 (by decide) rfl kt_572 dX2_isWordOf_1 rfl, ?_⟩
  refine List.forall_mem_cons.mpr ⟨sn_ifnull dX2_isWordOf_4 (by decide) rfl, ?_⟩
  refine List.forall_mem_cons.mpr ⟨sn_aload_n dX2_isWordOf_7 rfl rfl, ?_⟩
  refine List.forall_mem_cons.mpr ⟨sn_getr mCl_2 (by decide) rfl kt_572 dX2_isWordOf_8 rfl, ?_⟩
  refine List.forall_mem_cons.mpr ⟨sn_geti mCl_7 (by decide) rfl kt_541 dX2_isWordOf_11 rfl, ?_⟩
  refine List.forall_mem_cons.mpr ⟨sn_aload_n dX2_isWordOf_14 rfl rfl, ?_⟩
  refine List.forall_mem_cons.mpr ⟨sn_geti mCl_7 (by decide) rfl kt_541 dX2_isWordOf_15 rfl, ?_⟩
  refine List.forall_mem_cons.mpr ⟨sn_icmpne dX2_isWordOf_18 (by decide) rfl, ?_⟩
  refine List.forall_mem_cons.mpr ⟨sn_iconst dX2_isWordOf_21 rfl ⟨by decide, by decide⟩, ?_⟩
  refine List.forall_mem_cons.mpr ⟨sn_goto dX2_isWordOf_22 (by decide), ?_⟩
  refine List.forall_mem_cons.mpr ⟨sn_iconst dX2_isWordOf_25 rfl ⟨by decide, by decide⟩, ?_⟩
  refine List.forall_mem_cons.mpr ⟨sn_zret rfl dX2_isWordOf_26, ?_⟩
  exact List.forall_mem_nil _
theorem sX2_hasSlot : ∀ q ∈ tX2_hasSlot, mSnd mInf iX2_hasSlot q.1 q.2 := by
  unfold tX2_hasSlot
  refine List.forall_mem_cons.mpr ⟨sn_aload_n dX2_hasSlot_0 rfl rfl, ?_⟩
  refine List.forall_mem_cons.mpr ⟨sn_geti mCl_2 (by decide) rfl kt_573 dX2_hasSlot_1 rfl, ?_⟩
  refine List.forall_mem_cons.mpr ⟨sn_iload_n dX2_hasSlot_4 rfl rfl, ?_⟩
  refine List.forall_mem_cons.mpr ⟨sn_icmpne dX2_hasSlot_5 (by decide) rfl, ?_⟩
  refine List.forall_mem_cons.mpr ⟨sn_aload_n dX2_hasSlot_8 rfl rfl, ?_⟩
  refine List.forall_mem_cons.mpr ⟨sn_geti mCl_2 (by decide) rfl kt_576 dX2_hasSlot_9 rfl, ?_⟩
  refine List.forall_mem_cons.mpr ⟨sn_iload_n dX2_hasSlot_12 rfl rfl, ?_⟩
  refine List.forall_mem_cons.mpr ⟨sn_icmpgt dX2_hasSlot_13 (by decide) rfl, ?_⟩
  refine List.forall_mem_cons.mpr ⟨sn_iload_n dX2_hasSlot_16 rfl rfl, ?_⟩
  refine List.forall_mem_cons.mpr ⟨sn_aload_n dX2_hasSlot_17 rfl rfl, ?_⟩
  refine List.forall_mem_cons.mpr ⟨sn_geti mCl_2 (by decide) rfl kt_578 dX2_hasSlot_18 rfl, ?_⟩
  refine List.forall_mem_cons.mpr ⟨sn_icmpge dX2_hasSlot_21 (by decide) rfl, ?_⟩
  refine List.forall_mem_cons.mpr ⟨sn_iconst dX2_hasSlot_24 rfl ⟨by decide, by decide⟩, ?_⟩
  refine List.forall_mem_cons.mpr ⟨sn_goto dX2_hasSlot_25 (by decide), ?_⟩
  refine List.forall_mem_cons.mpr ⟨sn_iconst dX2_hasSlot_28 rfl ⟨by decide, by decide⟩, ?_⟩
  refine List.forall_mem_cons.mpr ⟨sn_zret rfl dX2_hasSlot_29, ?_⟩
  exact List.forall_mem_nil _
theorem sX2_trust : ∀ q ∈ tX2_trust, mSnd mInf iX2_trust q.1 q.2 := by
  unfold tX2_trust
  refine List.forall_mem_cons.mpr ⟨sn_aload_n dX2_trust_0 rfl rfl, ?_⟩
  refine List.forall_mem_cons.mpr ⟨sn_getr mCl_2 (by decide) rfl kt_572 dX2_trust_1 rfl, ?_⟩
  refine List.forall_mem_cons.mpr ⟨sn_ifnonnull dX2_trust_4 (by decide) rfl, ?_⟩
  refine List.forall_mem_cons.mpr ⟨sn_iconst dX2_trust_7 rfl ⟨by decide, by decide⟩, ?_⟩
  refine List.forall_mem_cons.mpr ⟨sn_goto dX2_trust_8 (by decide), ?_⟩
  refine List.forall_mem_cons.mpr ⟨sn_aload_n dX2_trust_11 rfl rfl, ?_⟩
  refine List.forall_mem_cons.mpr ⟨sn_getr mCl_2 (by decide) rfl kt_572 dX2_trust_12 rfl, ?_⟩
  refine List.forall_mem_cons.mpr ⟨sn_geti mCl_7 (by decide) rfl kt_544 dX2_trust_15 rfl, ?_⟩
  refine List.forall_mem_cons.mpr ⟨sn_iret rfl dX2_trust_18, ?_⟩
  exact List.forall_mem_nil _
