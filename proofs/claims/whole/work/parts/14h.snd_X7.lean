theorem sX7_init : ∀ q ∈ tX7_init, mSnd mInf iX7_init q.1 q.2 := by
  unfold tX7_init
  refine List.forall_mem_cons.mpr ⟨sn_aload_n dX7_init_0 rfl rfl, ?_⟩
  refine List.forall_mem_cons.mpr ⟨sn_objinit kt_539 kt_28 kt_29 dX7_init_1 rfl, ?_⟩
  refine List.forall_mem_cons.mpr ⟨sn_aload_n dX7_init_4 rfl rfl, ?_⟩
  refine List.forall_mem_cons.mpr ⟨sn_iload_n dX7_init_5 rfl rfl, ?_⟩
  refine List.forall_mem_cons.mpr ⟨sn_puti mCl_7 (by decide) rfl (Or.inr ⟨rfl, rfl, rfl⟩) kt_540 dX7_init_6 rfl, ?_⟩
  refine List.forall_mem_cons.mpr ⟨sn_aload_n dX7_init_9 rfl rfl, ?_⟩
  refine List.forall_mem_cons.mpr ⟨sn_iload_n dX7_init_10 rfl rfl, ?_⟩
  refine List.forall_mem_cons.mpr ⟨sn_puti mCl_7 (by decide) rfl (Or.inr ⟨rfl, rfl, rfl⟩) kt_543 dX7_init_11 rfl, ?_⟩
  refine List.forall_mem_cons.mpr ⟨sn_vret rfl dX7_init_14, ?_⟩
  exact List.forall_mem_nil _
theorem sX7_outranks : ∀ q ∈ tX7_outranks, mSnd mInf iX7_outranks q.1 q.2 := by
  unfold tX7_outranks
  refine List.forall_mem_cons.mpr ⟨sn_aload_n dX7_outranks_0 rfl rfl, ?_⟩
  refine List.forall_mem_cons.mpr ⟨sn_geti mCl_7 (by decide) rfl kt_543 dX7_outranks_1 rfl, ?_⟩
  refine List.forall_mem_cons.mpr ⟨sn_aload_n dX7_outranks_4 rfl rfl, ?_⟩
  refine List.forall_mem_cons.mpr ⟨sn_geti mCl_7 (by decide) rfl kt_543 dX7_outranks_5 rfl, ?_⟩
  refine List.forall_mem_cons.mpr ⟨sn_icmpeq dX7_outranks_8 (by decide) rfl, ?_⟩
  refine List.forall_mem_cons.mpr ⟨sn_aload_n dX7_outranks_11 rfl rfl, ?_⟩
  refine List.forall_mem_cons.mpr ⟨sn_geti mCl_7 (by decide) rfl kt_543 dX7_outranks_12 rfl, ?_⟩
  refine List.forall_mem_cons.mpr ⟨sn_aload_n dX7_outranks_15 rfl rfl, ?_⟩
  refine List.forall_mem_cons.mpr ⟨sn_geti mCl_7 (by decide) rfl kt_543 dX7_outranks_16 rfl, ?_⟩
  refine List.forall_mem_cons.mpr ⟨sn_icmple dX7_outranks_19 (by decide) rfl, ?_⟩
  refine List.forall_mem_cons.mpr ⟨sn_iconst dX7_outranks_22 rfl ⟨by decide, by decide⟩, ?_⟩
  refine List.forall_mem_cons.mpr ⟨sn_goto dX7_outranks_23 (by decide), ?_⟩
  refine List.forall_mem_cons.mpr ⟨sn_iconst dX7_outranks_26 rfl ⟨by decide, by decide⟩, ?_⟩
  refine List.forall_mem_cons.mpr ⟨sn_zret rfl dX7_outranks_27, ?_⟩
  refine List.forall_mem_cons.mpr ⟨sn_aload_n dX7_outranks_28 rfl rfl, ?_⟩
  refine List.forall_mem_cons.mpr ⟨sn_geti mCl_7 (by decide) rfl kt_540 dX7_outranks_29 rfl, ?_⟩
  refine List.forall_mem_cons.mpr ⟨sn_aload_n dX7_outranks_32 rfl rfl, ?_⟩
  refine List.forall_mem_cons.mpr ⟨sn_geti mCl_7 (by decide) rfl kt_540 dX7_outranks_33 rfl, ?_⟩
  refine List.forall_mem_cons.mpr ⟨sn_icmpge dX7_outranks_36 (by decide) rfl, ?_⟩
  refine List.forall_mem_cons.mpr ⟨sn_iconst dX7_outranks_39 rfl ⟨by decide, by decide⟩, ?_⟩
  refine List.forall_mem_cons.mpr ⟨sn_goto dX7_outranks_40 (by decide), ?_⟩
  refine List.forall_mem_cons.mpr ⟨sn_iconst dX7_outranks_43 rfl ⟨by decide, by decide⟩, ?_⟩
  refine List.forall_mem_cons.mpr ⟨sn_zret rfl dX7_outranks_44, ?_⟩
  exact List.forall_mem_nil _
