theorem sJ6_bitCount_0f7a4 : ∀ q ∈ tJ6_bitCount_0f7a4, mSnd mInf iJ6_bitCount_0f7a4 q.1 q.2 := by
  unfold tJ6_bitCount_0f7a4
  refine List.forall_mem_cons.mpr ⟨sn_iload_n dJ6_bitCount_0f7a4_0 rfl rfl, ?_⟩
  refine List.forall_mem_cons.mpr ⟨sn_iload_n dJ6_bitCount_0f7a4_1 rfl rfl, ?_⟩
  refine List.forall_mem_cons.mpr ⟨sn_iconst dJ6_bitCount_0f7a4_2 rfl ⟨by decide, by decide⟩, ?_⟩
  refine List.forall_mem_cons.mpr ⟨sn_iushr dJ6_bitCount_0f7a4_3 rfl, ?_⟩
  refine List.forall_mem_cons.mpr ⟨sn_ldc dJ6_bitCount_0f7a4_4 rfl kt_963 ⟨by decide, by decide⟩, ?_⟩
  refine List.forall_mem_cons.mpr ⟨sn_iand dJ6_bitCount_0f7a4_7 rfl, ?_⟩
  refine List.forall_mem_cons.mpr ⟨sn_isub dJ6_bitCount_0f7a4_8 rfl, ?_⟩
  refine List.forall_mem_cons.mpr ⟨sn_istore_n dJ6_bitCount_0f7a4_9 rfl rfl, ?_⟩
  refine List.forall_mem_cons.mpr ⟨sn_iload_n dJ6_bitCount_0f7a4_10 rfl rfl, ?_⟩
  refine List.forall_mem_cons.mpr ⟨sn_ldc dJ6_bitCount_0f7a4_11 rfl kt_964 ⟨by decide, by decide⟩, ?_⟩
  refine List.forall_mem_cons.mpr ⟨sn_iand dJ6_bitCount_0f7a4_14 rfl, ?_⟩
  refine List.forall_mem_cons.mpr ⟨sn_iload_n dJ6_bitCount_0f7a4_15 rfl rfl, ?_⟩
  refine List.forall_mem_cons.mpr ⟨sn_iconst dJ6_bitCount_0f7a4_16 rfl ⟨by decide, by decide⟩, ?_⟩
  refine List.forall_mem_cons.mpr ⟨sn_iushr dJ6_bitCount_0f7a4_17 rfl, ?_⟩
  refine List.forall_mem_cons.mpr ⟨sn_ldc dJ6_bitCount_0f7a4_18 rfl kt_964 ⟨by decide, by decide⟩, ?_⟩
  refine List.forall_mem_cons.mpr ⟨sn_iand dJ6_bitCount_0f7a4_21 rfl, ?_⟩
  refine List.forall_mem_cons.mpr ⟨sn_iadd dJ6_bitCount_0f7a4_22 rfl, ?_⟩
  refine List.forall_mem_cons.mpr ⟨sn_istore_n dJ6_bitCount_0f7a4_23 rfl rfl, ?_⟩
  refine List.forall_mem_cons.mpr ⟨sn_iload_n dJ6_bitCount_0f7a4_24 rfl rfl, ?_⟩
  refine List.forall_mem_cons.mpr ⟨sn_iload_n dJ6_bitCount_0f7a4_25 rfl rfl, ?_⟩
  refine List.forall_mem_cons.mpr ⟨sn_iconst dJ6_bitCount_0f7a4_26 rfl ⟨by decide, by decide⟩, ?_⟩
  refine List.forall_mem_cons.mpr ⟨sn_iushr dJ6_bitCount_0f7a4_27 rfl, ?_⟩
  refine List.forall_mem_cons.mpr ⟨sn_iadd dJ6_bitCount_0f7a4_28 rfl, ?_⟩
  refine List.forall_mem_cons.mpr ⟨sn_ldc dJ6_bitCount_0f7a4_29 rfl kt_965 ⟨by decide, by decide⟩, ?_⟩
  refine List.forall_mem_cons.mpr ⟨sn_iand dJ6_bitCount_0f7a4_32 rfl, ?_⟩
  refine List.forall_mem_cons.mpr ⟨sn_istore_n dJ6_bitCount_0f7a4_33 rfl rfl, ?_⟩
  refine List.forall_mem_cons.mpr ⟨sn_iload_n dJ6_bitCount_0f7a4_34 rfl rfl, ?_⟩
  refine List.forall_mem_cons.mpr ⟨sn_iload_n dJ6_bitCount_0f7a4_35 rfl rfl, ?_⟩
  refine List.forall_mem_cons.mpr ⟨sn_bipush dJ6_bitCount_0f7a4_36 rfl (by decide) ⟨by decide, by decide⟩, ?_⟩
  refine List.forall_mem_cons.mpr ⟨sn_iushr dJ6_bitCount_0f7a4_38 rfl, ?_⟩
  refine List.forall_mem_cons.mpr ⟨sn_iadd dJ6_bitCount_0f7a4_39 rfl, ?_⟩
  refine List.forall_mem_cons.mpr ⟨sn_istore_n dJ6_bitCount_0f7a4_40 rfl rfl, ?_⟩
  refine List.forall_mem_cons.mpr ⟨sn_iload_n dJ6_bitCount_0f7a4_41 rfl rfl, ?_⟩
  refine List.forall_mem_cons.mpr ⟨sn_iload_n dJ6_bitCount_0f7a4_42 rfl rfl, ?_⟩
  refine List.forall_mem_cons.mpr ⟨sn_bipush dJ6_bitCount_0f7a4_43 rfl (by decide) ⟨by decide, by decide⟩, ?_⟩
  refine List.forall_mem_cons.mpr ⟨sn_iushr dJ6_bitCount_0f7a4_45 rfl, ?_⟩
  refine List.forall_mem_cons.mpr ⟨sn_iadd dJ6_bitCount_0f7a4_46 rfl, ?_⟩
  refine List.forall_mem_cons.mpr ⟨sn_istore_n dJ6_bitCount_0f7a4_47 rfl rfl, ?_⟩
  refine List.forall_mem_cons.mpr ⟨sn_iload_n dJ6_bitCount_0f7a4_48 rfl rfl, ?_⟩
  refine List.forall_mem_cons.mpr ⟨sn_bipush dJ6_bitCount_0f7a4_49 rfl (by decide) ⟨by decide, by decide⟩, ?_⟩
  refine List.forall_mem_cons.mpr ⟨sn_iand dJ6_bitCount_0f7a4_51 rfl, ?_⟩
  refine List.forall_mem_cons.mpr ⟨sn_iret rfl dJ6_bitCount_0f7a4_52, ?_⟩
  exact List.forall_mem_nil _
theorem sJ7_fill_53178 : ∀ q ∈ tJ7_fill_53178, mSnd mInf iJ7_fill_53178 q.1 q.2 := by
  unfold tJ7_fill_53178
  refine List.forall_mem_cons.mpr ⟨sn_iconst dJ7_fill_53178_0 rfl ⟨by decide, by decide⟩, ?_⟩
  refine List.forall_mem_cons.mpr ⟨sn_istore_n dJ7_fill_53178_1 rfl rfl, ?_⟩
  refine List.forall_mem_cons.mpr ⟨sn_aload_n dJ7_fill_53178_2 rfl rfl, ?_⟩
  refine List.forall_mem_cons.mpr ⟨sn_alen dJ7_fill_53178_3 rfl, ?_⟩
  refine List.forall_mem_cons.mpr ⟨sn_istore_n dJ7_fill_53178_4 rfl rfl, ?_⟩
  refine List.forall_mem_cons.mpr ⟨sn_iload_n dJ7_fill_53178_5 rfl rfl, ?_⟩
  refine List.forall_mem_cons.mpr ⟨sn_iload_n dJ7_fill_53178_6 rfl rfl, ?_⟩
  refine List.forall_mem_cons.mpr ⟨sn_icmpge dJ7_fill_53178_7 (by decide) rfl, ?_⟩
  refine List.forall_mem_cons.mpr ⟨sn_aload_n dJ7_fill_53178_10 rfl rfl, ?_⟩
  refine List.forall_mem_cons.mpr ⟨sn_iload_n dJ7_fill_53178_11 rfl rfl, ?_⟩
  refine List.forall_mem_cons.mpr ⟨sn_iload_n dJ7_fill_53178_12 rfl rfl, ?_⟩
  refine List.forall_mem_cons.mpr ⟨sn_iast dJ7_fill_53178_13 rfl, ?_⟩
  refine List.forall_mem_cons.mpr ⟨sn_iinc dJ7_fill_53178_14 rfl, ?_⟩
  refine List.forall_mem_cons.mpr ⟨sn_goto dJ7_fill_53178_17 (by decide), ?_⟩
  refine List.forall_mem_cons.mpr ⟨sn_vret rfl dJ7_fill_53178_20, ?_⟩
  exact List.forall_mem_nil _
