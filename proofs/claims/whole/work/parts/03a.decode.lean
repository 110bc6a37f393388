theorem dX0_init_0 : decode cX0_init 0 = .ok (.aload_n 0, 1) := by decide +kernel
theorem dX0_init_1 : decode cX0_init 1 = .ok (.invokespecial 3, 3) := by decide +kernel
theorem dX0_init_4 : decode cX0_init 4 = .ok (.return_, 1) := by decide +kernel
theorem dX0_fill_0 : decode cX0_fill 0 = .ok (.aload_n 0, 1) := by decide +kernel
theorem dX0_fill_1 : decode cX0_fill 1 = .ok (.aload_n 1, 1) := by decide +kernel
theorem dX0_fill_2 : decode cX0_fill 2 = .ok (.getfield 9, 3) := by decide +kernel
theorem dX0_fill_5 : decode cX0_fill 5 = .ok (.putfield 15, 3) := by decide +kernel
theorem dX0_fill_8 : decode cX0_fill 8 = .ok (.aload_n 0, 1) := by decide +kernel
theorem dX0_fill_9 : decode cX0_fill 9 = .ok (.aload_n 1, 1) := by decide +kernel
theorem dX0_fill_10 : decode cX0_fill 10 = .ok (.getfield 20, 3) := by decide +kernel
theorem dX0_fill_13 : decode cX0_fill 13 = .ok (.putfield 23, 3) := by decide +kernel
theorem dX0_fill_16 : decode cX0_fill 16 = .ok (.aload_n 0, 1) := by decide +kernel
theorem dX0_fill_17 : decode cX0_fill 17 = .ok (.aload_n 1, 1) := by decide +kernel
theorem dX0_fill_18 : decode cX0_fill 18 = .ok (.getfield 24, 3) := by decide +kernel
theorem dX0_fill_21 : decode cX0_fill 21 = .ok (.putfield 27, 3) := by decide +kernel
theorem dX0_fill_24 : decode cX0_fill 24 = .ok (.aload_n 0, 1) := by decide +kernel
theorem dX0_fill_25 : decode cX0_fill 25 = .ok (.aload_n 1, 1) := by decide +kernel
theorem dX0_fill_26 : decode cX0_fill 26 = .ok (.getfield 28, 3) := by decide +kernel
theorem dX0_fill_29 : decode cX0_fill 29 = .ok (.putfield 31, 3) := by decide +kernel
theorem dX0_fill_32 : decode cX0_fill 32 = .ok (.aload_n 0, 1) := by decide +kernel
theorem dX0_fill_33 : decode cX0_fill 33 = .ok (.aload_n 1, 1) := by decide +kernel
theorem dX0_fill_34 : decode cX0_fill 34 = .ok (.getfield 32, 3) := by decide +kernel
theorem dX0_fill_37 : decode cX0_fill 37 = .ok (.putfield 35, 3) := by decide +kernel
theorem dX0_fill_40 : decode cX0_fill 40 = .ok (.aload_n 0, 1) := by decide +kernel
theorem dX0_fill_41 : decode cX0_fill 41 = .ok (.aload_n 1, 1) := by decide +kernel
theorem dX0_fill_42 : decode cX0_fill 42 = .ok (.getfield 36, 3) := by decide +kernel
theorem dX0_fill_45 : decode cX0_fill 45 = .ok (.putfield 39, 3) := by decide +kernel
theorem dX0_fill_48 : decode cX0_fill 48 = .ok (.aload_n 0, 1) := by decide +kernel
theorem dX0_fill_49 : decode cX0_fill 49 = .ok (.iload_n 2, 1) := by decide +kernel
theorem dX0_fill_50 : decode cX0_fill 50 = .ok (.putfield 40, 3) := by decide +kernel
theorem dX0_fill_53 : decode cX0_fill 53 = .ok (.aload_n 0, 1) := by decide +kernel
theorem dX0_fill_54 : decode cX0_fill 54 = .ok (.aload_n 1, 1) := by decide +kernel
theorem dX0_fill_55 : decode cX0_fill 55 = .ok (.getfield 32, 3) := by decide +kernel
theorem dX0_fill_58 : decode cX0_fill 58 = .ok (.aload_n 3, 1) := by decide +kernel
theorem dX0_fill_59 : decode cX0_fill 59 = .ok (.getfield 43, 3) := by decide +kernel
theorem dX0_fill_62 : decode cX0_fill 62 = .ok (.isub, 1) := by decide +kernel
theorem dX0_fill_63 : decode cX0_fill 63 = .ok (.iconst 0, 1) := by decide +kernel
theorem dX0_fill_64 : decode cX0_fill 64 = .ok (.invokestatic 48, 3) := by decide +kernel
theorem dX0_fill_67 : decode cX0_fill 67 = .ok (.putfield 54, 3) := by decide +kernel
theorem dX0_fill_70 : decode cX0_fill 70 = .ok (.aload_n 0, 1) := by decide +kernel
theorem dX0_fill_71 : decode cX0_fill 71 = .ok (.aload_n 1, 1) := by decide +kernel
theorem dX0_fill_72 : decode cX0_fill 72 = .ok (.getfield 57, 3) := by decide +kernel
theorem dX0_fill_75 : decode cX0_fill 75 = .ok (.aload_n 3, 1) := by decide +kernel
theorem dX0_fill_76 : decode cX0_fill 76 = .ok (.getfield 60, 3) := by decide +kernel
theorem dX0_fill_79 : decode cX0_fill 79 = .ok (.iadd, 1) := by decide +kernel
theorem dX0_fill_80 : decode cX0_fill 80 = .ok (.sipush 288, 3) := by decide +kernel
theorem dX0_fill_83 : decode cX0_fill 83 = .ok (.invokestatic 63, 3) := by decide +kernel
theorem dX0_fill_86 : decode cX0_fill 86 = .ok (.putfield 66, 3) := by decide +kernel
theorem dX0_fill_89 : decode cX0_fill 89 = .ok (.return_, 1) := by decide +kernel
theorem dX0_span_0 : decode cX0_span 0 = .ok (.aload_n 0, 1) := by decide +kernel
theorem dX0_span_1 : decode cX0_span 1 = .ok (.getfield 66, 3) := by decide +kernel
theorem dX0_span_4 : decode cX0_span 4 = .ok (.aload_n 0, 1) := by decide +kernel
theorem dX0_span_5 : decode cX0_span 5 = .ok (.getfield 54, 3) := by decide +kernel
theorem dX0_span_8 : decode cX0_span 8 = .ok (.isub, 1) := by decide +kernel
theorem dX0_span_9 : decode cX0_span 9 = .ok (.ireturn, 1) := by decide +kernel
theorem dX0_spansSlot_0 : decode cX0_spansSlot 0 = .ok (.aload_n 0, 1) := by decide +kernel
theorem dX0_spansSlot_1 : decode cX0_spansSlot 1 = .ok (.getfield 54, 3) := by decide +kernel
theorem dX0_spansSlot_4 : decode cX0_spansSlot 4 = .ok (.iload_n 1, 1) := by decide +kernel
theorem dX0_spansSlot_5 : decode cX0_spansSlot 5 = .ok (.if_icmp .gt 15, 3) := by decide +kernel
theorem dX0_spansSlot_8 : decode cX0_spansSlot 8 = .ok (.iload_n 1, 1) := by decide +kernel
theorem dX0_spansSlot_9 : decode cX0_spansSlot 9 = .ok (.aload_n 0, 1) := by decide +kernel
theorem dX0_spansSlot_10 : decode cX0_spansSlot 10 = .ok (.getfield 66, 3) := by decide +kernel
theorem dX0_spansSlot_13 : decode cX0_spansSlot 13 = .ok (.if_icmp .ge 7, 3) := by decide +kernel
theorem dX0_spansSlot_16 : decode cX0_spansSlot 16 = .ok (.iconst 1, 1) := by decide +kernel
theorem dX0_spansSlot_17 : decode cX0_spansSlot 17 = .ok (.goto 4, 3) := by decide +kernel
theorem dX0_spansSlot_20 : decode cX0_spansSlot 20 = .ok (.iconst 0, 1) := by decide +kernel
theorem dX0_spansSlot_21 : decode cX0_spansSlot 21 = .ok (.ireturn, 1) := by decide +kernel
theorem dX0_meets_0 : decode cX0_meets 0 = .ok (.aload_n 0, 1) := by decide +kernel
theorem dX0_meets_1 : decode cX0_meets 1 = .ok (.getfield 54, 3) := by decide +kernel
theorem dX0_meets_4 : decode cX0_meets 4 = .ok (.aload_n 1, 1) := by decide +kernel
theorem dX0_meets_5 : decode cX0_meets 5 = .ok (.getfield 66, 3) := by decide +kernel
theorem dX0_meets_8 : decode cX0_meets 8 = .ok (.if_icmp .ge 18, 3) := by decide +kernel
theorem dX0_meets_11 : decode cX0_meets 11 = .ok (.aload_n 1, 1) := by decide +kernel
theorem dX0_meets_12 : decode cX0_meets 12 = .ok (.getfield 54, 3) := by decide +kernel
theorem dX0_meets_15 : decode cX0_meets 15 = .ok (.aload_n 0, 1) := by decide +kernel
theorem dX0_meets_16 : decode cX0_meets 16 = .ok (.getfield 66, 3) := by decide +kernel
theorem dX0_meets_19 : decode cX0_meets 19 = .ok (.if_icmp .ge 7, 3) := by decide +kernel
theorem dX0_meets_22 : decode cX0_meets 22 = .ok (.iconst 1, 1) := by decide +kernel
theorem dX0_meets_23 : decode cX0_meets 23 = .ok (.goto 4, 3) := by decide +kernel
theorem dX0_meets_26 : decode cX0_meets 26 = .ok (.iconst 0, 1) := by decide +kernel
theorem dX0_meets_27 : decode cX0_meets 27 = .ok (.ireturn, 1) := by decide +kernel
theorem dX0_isOneWith_0 : decode cX0_isOneWith 0 = .ok (.aload_n 0, 1) := by decide +kernel
theorem dX0_isOneWith_1 : decode cX0_isOneWith 1 = .ok (.getfield 39, 3) := by decide +kernel
theorem dX0_isOneWith_4 : decode cX0_isOneWith 4 = .ok (.aload_n 1, 1) := by decide +kernel
theorem dX0_isOneWith_5 : decode cX0_isOneWith 5 = .ok (.getfield 39, 3) := by decide +kernel
theorem dX0_isOneWith_8 : decode cX0_isOneWith 8 = .ok (.if_icmp .ne 7, 3) := by decide +kernel
theorem dX0_isOneWith_11 : decode cX0_isOneWith 11 = .ok (.iconst 1, 1) := by decide +kernel
theorem dX0_isOneWith_12 : decode cX0_isOneWith 12 = .ok (.goto 4, 3) := by decide +kernel
theorem dX0_isOneWith_15 : decode cX0_isOneWith 15 = .ok (.iconst 0, 1) := by decide +kernel
theorem dX0_isOneWith_16 : decode cX0_isOneWith 16 = .ok (.ireturn, 1) := by decide +kernel
theorem dX0_isSameAs_0 : decode cX0_isSameAs 0 = .ok (.aload_n 0, 1) := by decide +kernel
theorem dX0_isSameAs_1 : decode cX0_isSameAs 1 = .ok (.getfield 23, 3) := by decide +kernel
theorem dX0_isSameAs_4 : decode cX0_isSameAs 4 = .ok (.aload_n 1, 1) := by decide +kernel
theorem dX0_isSameAs_5 : decode cX0_isSameAs 5 = .ok (.getfield 23, 3) := by decide +kernel
theorem dX0_isSameAs_8 : decode cX0_isSameAs 8 = .ok (.if_icmp .ne 40, 3) := by decide +kernel
theorem dX0_isSameAs_11 : decode cX0_isSameAs 11 = .ok (.aload_n 0, 1) := by decide +kernel
theorem dX0_isSameAs_12 : decode cX0_isSameAs 12 = .ok (.getfield 27, 3) := by decide +kernel
theorem dX0_isSameAs_15 : decode cX0_isSameAs 15 = .ok (.aload_n 1, 1) := by decide +kernel
theorem dX0_isSameAs_16 : decode cX0_isSameAs 16 = .ok (.getfield 27, 3) := by decide +kernel
theorem dX0_isSameAs_19 : decode cX0_isSameAs 19 = .ok (.if_icmp .ne 29, 3) := by decide +kernel
theorem dX0_isSameAs_22 : decode cX0_isSameAs 22 = .ok (.aload_n 0, 1) := by decide +kernel
theorem dX0_isSameAs_23 : decode cX0_isSameAs 23 = .ok (.getfield 31, 3) := by decide +kernel
theorem dX0_isSameAs_26 : decode cX0_isSameAs 26 = .ok (.aload_n 1, 1) := by decide +kernel
theorem dX0_isSameAs_27 : decode cX0_isSameAs 27 = .ok (.getfield 31, 3) := by decide +kernel
theorem dX0_isSameAs_30 : decode cX0_isSameAs 30 = .ok (.if_icmp .ne 18, 3) := by decide +kernel
theorem dX0_isSameAs_33 : decode cX0_isSameAs 33 = .ok (.aload_n 0, 1) := by decide +kernel
theorem dX0_isSameAs_34 : decode cX0_isSameAs 34 = .ok (.getfield 35, 3) := by decide +kernel
theorem dX0_isSameAs_37 : decode cX0_isSameAs 37 = .ok (.aload_n 1, 1) := by decide +kernel
theorem dX0_isSameAs_38 : decode cX0_isSameAs 38 = .ok (.getfield 35, 3) := by decide +kernel
theorem dX0_isSameAs_41 : decode cX0_isSameAs 41 = .ok (.if_icmp .ne 7, 3) := by decide +kernel
theorem dX0_isSameAs_44 : decode cX0_isSameAs 44 = .ok (.iconst 1, 1) := by decide +kernel
theorem dX0_isSameAs_45 : decode cX0_isSameAs 45 = .ok (.goto 4, 3) := by decide +kernel
theorem dX0_isSameAs_48 : decode cX0_isSameAs 48 = .ok (.iconst 0, 1) := by decide +kernel
theorem dX0_isSameAs_49 : decode cX0_isSameAs 49 = .ok (.ireturn, 1) := by decide +kernel
theorem dX1_init_0 : decode cX1_init 0 = .ok (.aload_n 0, 1) := by decide +kernel
theorem dX1_init_1 : decode cX1_init 1 = .ok (.invokespecial 3, 3) := by decide +kernel
theorem dX1_init_4 : decode cX1_init 4 = .ok (.aload_n 0, 1) := by decide +kernel
theorem dX1_init_5 : decode cX1_init 5 = .ok (.iconst 0, 1) := by decide +kernel
theorem dX1_init_6 : decode cX1_init 6 = .ok (.putfield 9, 3) := by decide +kernel
theorem dX1_init_9 : decode cX1_init 9 = .ok (.aload_n 0, 1) := by decide +kernel
theorem dX1_init_10 : decode cX1_init 10 = .ok (.iconst (-1), 1) := by decide +kernel
theorem dX1_init_11 : decode cX1_init 11 = .ok (.putfield 15, 3) := by decide +kernel
theorem dX1_init_14 : decode cX1_init 14 = .ok (.aload_n 0, 1) := by decide +kernel
theorem dX1_init_15 : decode cX1_init 15 = .ok (.iconst 0, 1) := by decide +kernel
theorem dX1_init_16 : decode cX1_init 16 = .ok (.putfield 18, 3) := by decide +kernel
theorem dX1_init_19 : decode cX1_init 19 = .ok (.aload_n 0, 1) := by decide +kernel
theorem dX1_init_20 : decode cX1_init 20 = .ok (.bipush 6, 2) := by decide +kernel
theorem dX1_init_22 : decode cX1_init 22 = .ok (.sipush 288, 3) := by decide +kernel
theorem dX1_init_25 : decode cX1_init 25 = .ok (.multianewarray 21 2, 4) := by decide +kernel
theorem dX1_init_29 : decode cX1_init 29 = .ok (.putfield 23, 3) := by decide +kernel
theorem dX1_init_32 : decode cX1_init 32 = .ok (.aload_n 0, 1) := by decide +kernel
theorem dX1_init_33 : decode cX1_init 33 = .ok (.sipush 288, 3) := by decide +kernel
theorem dX1_init_36 : decode cX1_init 36 = .ok (.newarray .int, 2) := by decide +kernel
theorem dX1_init_38 : decode cX1_init 38 = .ok (.putfield 26, 3) := by decide +kernel
theorem dX1_init_41 : decode cX1_init 41 = .ok (.aload_n 0, 1) := by decide +kernel
theorem dX1_init_42 : decode cX1_init 42 = .ok (.sipush 600, 3) := by decide +kernel
theorem dX1_init_45 : decode cX1_init 45 = .ok (.anewarray 30, 3) := by decide +kernel
theorem dX1_init_48 : decode cX1_init 48 = .ok (.putfield 32, 3) := by decide +kernel
theorem dX1_init_51 : decode cX1_init 51 = .ok (.aload_n 0, 1) := by decide +kernel
theorem dX1_init_52 : decode cX1_init 52 = .ok (.sipush 1024, 3) := by decide +kernel
theorem dX1_init_55 : decode cX1_init 55 = .ok (.newarray .int, 2) := by decide +kernel
theorem dX1_init_57 : decode cX1_init 57 = .ok (.putfield 36, 3) := by decide +kernel
theorem dX1_init_60 : decode cX1_init 60 = .ok (.return_, 1) := by decide +kernel
theorem dX1_survey_0 : decode cX1_survey 0 = .ok (.iload_n 2, 1) := by decide +kernel
theorem dX1_survey_1 : decode cX1_survey 1 = .ok (.aload_n 0, 1) := by decide +kernel
theorem dX1_survey_2 : decode cX1_survey 2 = .ok (.getfield 15, 3) := by decide +kernel
theorem dX1_survey_5 : decode cX1_survey 5 = .ok (.if_icmp .ne 15, 3) := by decide +kernel
theorem dX1_survey_8 : decode cX1_survey 8 = .ok (.aload_n 1, 1) := by decide +kernel
theorem dX1_survey_9 : decode cX1_survey 9 = .ok (.getfield 39, 3) := by decide +kernel
theorem dX1_survey_12 : decode cX1_survey 12 = .ok (.aload_n 0, 1) := by decide +kernel
theorem dX1_survey_13 : decode cX1_survey 13 = .ok (.getfield 18, 3) := by decide +kernel
theorem dX1_survey_16 : decode cX1_survey 16 = .ok (.if_icmp .ne 4, 3) := by decide +kernel
theorem dX1_survey_19 : decode cX1_survey 19 = .ok (.return_, 1) := by decide +kernel
theorem dX1_survey_20 : decode cX1_survey 20 = .ok (.aload_n 0, 1) := by decide +kernel
theorem dX1_survey_21 : decode cX1_survey 21 = .ok (.iload_n 2, 1) := by decide +kernel
theorem dX1_survey_22 : decode cX1_survey 22 = .ok (.putfield 15, 3) := by decide +kernel
theorem dX1_survey_25 : decode cX1_survey 25 = .ok (.aload_n 0, 1) := by decide +kernel
theorem dX1_survey_26 : decode cX1_survey 26 = .ok (.aload_n 1, 1) := by decide +kernel
theorem dX1_survey_27 : decode cX1_survey 27 = .ok (.getfield 39, 3) := by decide +kernel
theorem dX1_survey_30 : decode cX1_survey 30 = .ok (.aload_n 0, 1) := by decide +kernel
theorem dX1_survey_31 : decode cX1_survey 31 = .ok (.getfield 23, 3) := by decide +kernel
theorem dX1_survey_34 : decode cX1_survey 34 = .ok (.arraylength, 1) := by decide +kernel
theorem dX1_survey_35 : decode cX1_survey 35 = .ok (.invokestatic 44, 3) := by decide +kernel
theorem dX1_survey_38 : decode cX1_survey 38 = .ok (.putfield 18, 3) := by decide +kernel
theorem dX1_survey_41 : decode cX1_survey 41 = .ok (.iconst 0, 1) := by decide +kernel
theorem dX1_survey_42 : decode cX1_survey 42 = .ok (.istore_n 3, 1) := by decide +kernel
theorem dX1_survey_43 : decode cX1_survey 43 = .ok (.iload_n 3, 1) := by decide +kernel
theorem dX1_survey_44 : decode cX1_survey 44 = .ok (.aload_n 0, 1) := by decide +kernel
theorem dX1_survey_45 : decode cX1_survey 45 = .ok (.getfield 18, 3) := by decide +kernel
theorem dX1_survey_48 : decode cX1_survey 48 = .ok (.if_icmp .ge 19, 3) := by decide +kernel
theorem dX1_survey_51 : decode cX1_survey 51 = .ok (.aload_n 0, 1) := by decide +kernel
theorem dX1_survey_52 : decode cX1_survey 52 = .ok (.getfield 23, 3) := by decide +kernel
theorem dX1_survey_55 : decode cX1_survey 55 = .ok (.iload_n 3, 1) := by decide +kernel
theorem dX1_survey_56 : decode cX1_survey 56 = .ok (.aaload, 1) := by decide +kernel
theorem dX1_survey_57 : decode cX1_survey 57 = .ok (.iconst (-1), 1) := by decide +kernel
theorem dX1_survey_58 : decode cX1_survey 58 = .ok (.invokestatic 50, 3) := by decide +kernel
theorem dX1_survey_61 : decode cX1_survey 61 = .ok (.iinc 3 1, 3) := by decide +kernel
theorem dX1_survey_64 : decode cX1_survey 64 = .ok (.goto (-21), 3) := by decide +kernel
theorem dX1_survey_67 : decode cX1_survey 67 = .ok (.aload_n 0, 1) := by decide +kernel
theorem dX1_survey_68 : decode cX1_survey 68 = .ok (.aload_n 1, 1) := by decide +kernel
theorem dX1_survey_69 : decode cX1_survey 69 = .ok (.invokevirtual 56, 3) := by decide +kernel
theorem dX1_survey_72 : decode cX1_survey 72 = .ok (.aload_n 0, 1) := by decide +kernel
theorem dX1_survey_73 : decode cX1_survey 73 = .ok (.aload_n 1, 1) := by decide +kernel
theorem dX1_survey_74 : decode cX1_survey 74 = .ok (.invokevirtual 60, 3) := by decide +kernel
theorem dX1_survey_77 : decode cX1_survey 77 = .ok (.aload_n 0, 1) := by decide +kernel
theorem dX1_survey_78 : decode cX1_survey 78 = .ok (.aload_n 1, 1) := by decide +kernel
theorem dX1_survey_79 : decode cX1_survey 79 = .ok (.invokevirtual 63, 3) := by decide +kernel
theorem dX1_survey_82 : decode cX1_survey 82 = .ok (.return_, 1) := by decide +kernel
theorem dX1_factAt_0 : decode cX1_factAt 0 = .ok (.iload_n 1, 1) := by decide +kernel
theorem dX1_factAt_1 : decode cX1_factAt 1 = .ok (.ifCond .lt 22, 3) := by decide +kernel
theorem dX1_factAt_4 : decode cX1_factAt 4 = .ok (.iload_n 1, 1) := by decide +kernel
theorem dX1_factAt_5 : decode cX1_factAt 5 = .ok (.aload_n 0, 1) := by decide +kernel
theorem dX1_factAt_6 : decode cX1_factAt 6 = .ok (.getfield 18, 3) := by decide +kernel
theorem dX1_factAt_9 : decode cX1_factAt 9 = .ok (.if_icmp .ge 14, 3) := by decide +kernel
theorem dX1_factAt_12 : decode cX1_factAt 12 = .ok (.iload_n 2, 1) := by decide +kernel
theorem dX1_factAt_13 : decode cX1_factAt 13 = .ok (.ifCond .lt 10, 3) := by decide +kernel
theorem dX1_factAt_16 : decode cX1_factAt 16 = .ok (.iload_n 2, 1) := by decide +kernel
theorem dX1_factAt_17 : decode cX1_factAt 17 = .ok (.sipush 288, 3) := by decide +kernel
theorem dX1_factAt_20 : decode cX1_factAt 20 = .ok (.if_icmp .lt 5, 3) := by decide +kernel
theorem dX1_factAt_23 : decode cX1_factAt 23 = .ok (.iconst (-1), 1) := by decide +kernel
theorem dX1_factAt_24 : decode cX1_factAt 24 = .ok (.ireturn, 1) := by decide +kernel
theorem dX1_factAt_25 : decode cX1_factAt 25 = .ok (.aload_n 0, 1) := by decide +kernel
theorem dX1_factAt_26 : decode cX1_factAt 26 = .ok (.getfield 23, 3) := by decide +kernel
theorem dX1_factAt_29 : decode cX1_factAt 29 = .ok (.iload_n 1, 1) := by decide +kernel
theorem dX1_factAt_30 : decode cX1_factAt 30 = .ok (.aaload, 1) := by decide +kernel
theorem dX1_factAt_31 : decode cX1_factAt 31 = .ok (.iload_n 2, 1) := by decide +kernel
theorem dX1_factAt_32 : decode cX1_factAt 32 = .ok (.iaload, 1) := by decide +kernel
theorem dX1_factAt_33 : decode cX1_factAt 33 = .ok (.ireturn, 1) := by decide +kernel
theorem dX1_at_0 : decode cX1_at 0 = .ok (.iload_n 1, 1) := by decide +kernel
theorem dX1_at_1 : decode cX1_at 1 = .ok (.ifCond .lt 29, 3) := by decide +kernel
theorem dX1_at_4 : decode cX1_at 4 = .ok (.iload_n 1, 1) := by decide +kernel
theorem dX1_at_5 : decode cX1_at 5 = .ok (.aload_n 0, 1) := by decide +kernel
theorem dX1_at_6 : decode cX1_at 6 = .ok (.getfield 9, 3) := by decide +kernel
theorem dX1_at_9 : decode cX1_at 9 = .ok (.if_icmp .ge 21, 3) := by decide +kernel
theorem dX1_at_12 : decode cX1_at 12 = .ok (.iload_n 1, 1) := by decide +kernel
theorem dX1_at_13 : decode cX1_at 13 = .ok (.aload_n 0, 1) := by decide +kernel
theorem dX1_at_14 : decode cX1_at 14 = .ok (.getfield 32, 3) := by decide +kernel
theorem dX1_at_17 : decode cX1_at 17 = .ok (.arraylength, 1) := by decide +kernel
theorem dX1_at_18 : decode cX1_at 18 = .ok (.if_icmp .ge 12, 3) := by decide +kernel
theorem dX1_at_21 : decode cX1_at 21 = .ok (.aload_n 0, 1) := by decide +kernel
theorem dX1_at_22 : decode cX1_at 22 = .ok (.getfield 32, 3) := by decide +kernel
theorem dX1_at_25 : decode cX1_at 25 = .ok (.iload_n 1, 1) := by decide +kernel
theorem dX1_at_26 : decode cX1_at 26 = .ok (.aaload, 1) := by decide +kernel
theorem dX1_at_27 : decode cX1_at 27 = .ok (.goto 4, 3) := by decide +kernel
theorem dX1_at_30 : decode cX1_at 30 = .ok (.aconst_null, 1) := by decide +kernel
theorem dX1_at_31 : decode cX1_at 31 = .ok (.areturn, 1) := by decide +kernel
theorem dX1_firstDoubted_0 : decode cX1_firstDoubted 0 = .ok (.iconst 0, 1) := by decide +kernel
theorem dX1_firstDoubted_1 : decode cX1_firstDoubted 1 = .ok (.istore_n 2, 1) := by decide +kernel
theorem dX1_firstDoubted_2 : decode cX1_firstDoubted 2 = .ok (.iload_n 2, 1) := by decide +kernel
theorem dX1_firstDoubted_3 : decode cX1_firstDoubted 3 = .ok (.aload_n 0, 1) := by decide +kernel
theorem dX1_firstDoubted_4 : decode cX1_firstDoubted 4 = .ok (.getfield 9, 3) := by decide +kernel
theorem dX1_firstDoubted_7 : decode cX1_firstDoubted 7 = .ok (.if_icmp .ge 37, 3) := by decide +kernel
theorem dX1_firstDoubted_10 : decode cX1_firstDoubted 10 = .ok (.aload_n 0, 1) := by decide +kernel
theorem dX1_firstDoubted_11 : decode cX1_firstDoubted 11 = .ok (.iload_n 2, 1) := by decide +kernel
theorem dX1_firstDoubted_12 : decode cX1_firstDoubted 12 = .ok (.invokevirtual 66, 3) := by decide +kernel
theorem dX1_firstDoubted_15 : decode cX1_firstDoubted 15 = .ok (.astore_n 3, 1) := by decide +kernel
theorem dX1_firstDoubted_16 : decode cX1_firstDoubted 16 = .ok (.aload_n 3, 1) := by decide +kernel
theorem dX1_firstDoubted_17 : decode cX1_firstDoubted 17 = .ok (.ifnull 21, 3) := by decide +kernel
theorem dX1_firstDoubted_20 : decode cX1_firstDoubted 20 = .ok (.iload_n 2, 1) := by decide +kernel
theorem dX1_firstDoubted_21 : decode cX1_firstDoubted 21 = .ok (.aload_n 1, 1) := by decide +kernel
theorem dX1_firstDoubted_22 : decode cX1_firstDoubted 22 = .ok (.getfield 70, 3) := by decide +kernel
theorem dX1_firstDoubted_25 : decode cX1_firstDoubted 25 = .ok (.if_icmp .eq 13, 3) := by decide +kernel
theorem dX1_firstDoubted_28 : decode cX1_firstDoubted 28 = .ok (.aload_n 1, 1) := by decide +kernel
theorem dX1_firstDoubted_29 : decode cX1_firstDoubted 29 = .ok (.aload_n 3, 1) := by decide +kernel
theorem dX1_firstDoubted_30 : decode cX1_firstDoubted 30 = .ok (.invokevirtual 73, 3) := by decide +kernel
theorem dX1_firstDoubted_33 : decode cX1_firstDoubted 33 = .ok (.ifCond .eq 5, 3) := by decide +kernel
theorem dX1_firstDoubted_36 : decode cX1_firstDoubted 36 = .ok (.iload_n 2, 1) := by decide +kernel
theorem dX1_firstDoubted_37 : decode cX1_firstDoubted 37 = .ok (.ireturn, 1) := by decide +kernel
theorem dX1_firstDoubted_38 : decode cX1_firstDoubted 38 = .ok (.iinc 2 1, 3) := by decide +kernel
theorem dX1_firstDoubted_41 : decode cX1_firstDoubted 41 = .ok (.goto (-39), 3) := by decide +kernel
theorem dX1_firstDoubted_44 : decode cX1_firstDoubted 44 = .ok (.iconst (-1), 1) := by decide +kernel
theorem dX1_firstDoubted_45 : decode cX1_firstDoubted 45 = .ok (.ireturn, 1) := by decide +kernel
theorem dX1_layNotices_0 : decode cX1_layNotices 0 = .ok (.iconst 0, 1) := by decide +kernel
theorem dX1_layNotices_1 : decode cX1_layNotices 1 = .ok (.istore_n 2, 1) := by decide +kernel
theorem dX1_layNotices_2 : decode cX1_layNotices 2 = .ok (.iload_n 2, 1) := by decide +kernel
theorem dX1_layNotices_3 : decode cX1_layNotices 3 = .ok (.aload_n 1, 1) := by decide +kernel
theorem dX1_layNotices_4 : decode cX1_layNotices 4 = .ok (.getfield 77, 3) := by decide +kernel
theorem dX1_layNotices_7 : decode cX1_layNotices 7 = .ok (.if_icmp .ge 108, 3) := by decide +kernel
theorem dX1_layNotices_10 : decode cX1_layNotices 10 = .ok (.aload_n 1, 1) := by decide +kernel
theorem dX1_layNotices_11 : decode cX1_layNotices 11 = .ok (.iload_n 2, 1) := by decide +kernel
theorem dX1_layNotices_12 : decode cX1_layNotices 12 = .ok (.invokevirtual 80, 3) := by decide +kernel
theorem dX1_layNotices_15 : decode cX1_layNotices 15 = .ok (.astore_n 3, 1) := by decide +kernel
theorem dX1_layNotices_16 : decode cX1_layNotices 16 = .ok (.iconst 0, 1) := by decide +kernel
theorem dX1_layNotices_17 : decode cX1_layNotices 17 = .ok (.istore 4, 2) := by decide +kernel
theorem dX1_layNotices_19 : decode cX1_layNotices 19 = .ok (.iload 4, 2) := by decide +kernel
theorem dX1_layNotices_21 : decode cX1_layNotices 21 = .ok (.aload_n 0, 1) := by decide +kernel
theorem dX1_layNotices_22 : decode cX1_layNotices 22 = .ok (.getfield 15, 3) := by decide +kernel
theorem dX1_layNotices_25 : decode cX1_layNotices 25 = .ok (.if_icmp .ge 84, 3) := by decide +kernel
theorem dX1_layNotices_28 : decode cX1_layNotices 28 = .ok (.aload_n 3, 1) := by decide +kernel
theorem dX1_layNotices_29 : decode cX1_layNotices 29 = .ok (.ifnull 80, 3) := by decide +kernel
theorem dX1_layNotices_32 : decode cX1_layNotices 32 = .ok (.aload_n 1, 1) := by decide +kernel
theorem dX1_layNotices_33 : decode cX1_layNotices 33 = .ok (.iload 4, 2) := by decide +kernel
theorem dX1_layNotices_35 : decode cX1_layNotices 35 = .ok (.invokevirtual 84, 3) := by decide +kernel
theorem dX1_layNotices_38 : decode cX1_layNotices 38 = .ok (.astore 5, 2) := by decide +kernel
theorem dX1_layNotices_40 : decode cX1_layNotices 40 = .ok (.aload 5, 2) := by decide +kernel
theorem dX1_layNotices_42 : decode cX1_layNotices 42 = .ok (.ifnull 61, 3) := by decide +kernel
theorem dX1_layNotices_45 : decode cX1_layNotices 45 = .ok (.aload 5, 2) := by decide +kernel
theorem dX1_layNotices_47 : decode cX1_layNotices 47 = .ok (.aload_n 3, 1) := by decide +kernel
theorem dX1_layNotices_48 : decode cX1_layNotices 48 = .ok (.invokevirtual 88, 3) := by decide +kernel
theorem dX1_layNotices_51 : decode cX1_layNotices 51 = .ok (.ifCond .eq 52, 3) := by decide +kernel
theorem dX1_layNotices_54 : decode cX1_layNotices 54 = .ok (.aload 5, 2) := by decide +kernel
theorem dX1_layNotices_56 : decode cX1_layNotices 56 = .ok (.getfield 94, 3) := by decide +kernel
theorem dX1_layNotices_59 : decode cX1_layNotices 59 = .ok (.ifCond .lt 44, 3) := by decide +kernel
theorem dX1_layNotices_62 : decode cX1_layNotices 62 = .ok (.aload 5, 2) := by decide +kernel
theorem dX1_layNotices_64 : decode cX1_layNotices 64 = .ok (.getfield 94, 3) := by decide +kernel
theorem dX1_layNotices_67 : decode cX1_layNotices 67 = .ok (.aload_n 0, 1) := by decide +kernel
theorem dX1_layNotices_68 : decode cX1_layNotices 68 = .ok (.getfield 18, 3) := by decide +kernel
theorem dX1_layNotices_71 : decode cX1_layNotices 71 = .ok (.if_icmp .ge 32, 3) := by decide +kernel
theorem dX1_layNotices_74 : decode cX1_layNotices 74 = .ok (.aload_n 0, 1) := by decide +kernel
theorem dX1_layNotices_75 : decode cX1_layNotices 75 = .ok (.getfield 23, 3) := by decide +kernel
theorem dX1_layNotices_78 : decode cX1_layNotices 78 = .ok (.aload 5, 2) := by decide +kernel
theorem dX1_layNotices_80 : decode cX1_layNotices 80 = .ok (.getfield 94, 3) := by decide +kernel
theorem dX1_layNotices_83 : decode cX1_layNotices 83 = .ok (.aaload, 1) := by decide +kernel
theorem dX1_layNotices_84 : decode cX1_layNotices 84 = .ok (.aload 5, 2) := by decide +kernel
theorem dX1_layNotices_86 : decode cX1_layNotices 86 = .ok (.aload 5, 2) := by decide +kernel
theorem dX1_layNotices_88 : decode cX1_layNotices 88 = .ok (.getfield 97, 3) := by decide +kernel
theorem dX1_layNotices_91 : decode cX1_layNotices 91 = .ok (.ifCond .ne 7, 3) := by decide +kernel
theorem dX1_layNotices_94 : decode cX1_layNotices 94 = .ok (.iconst (-1), 1) := by decide +kernel
theorem dX1_layNotices_95 : decode cX1_layNotices 95 = .ok (.goto 5, 3) := by decide +kernel
theorem dX1_layNotices_98 : decode cX1_layNotices 98 = .ok (.iload 4, 2) := by decide +kernel
theorem dX1_layNotices_100 : decode cX1_layNotices 100 = .ok (.invokestatic 100, 3) := by decide +kernel
theorem dX1_layNotices_103 : decode cX1_layNotices 103 = .ok (.iinc 4 1, 3) := by decide +kernel
theorem dX1_layNotices_106 : decode cX1_layNotices 106 = .ok (.goto (-87), 3) := by decide +kernel
theorem dX1_layNotices_109 : decode cX1_layNotices 109 = .ok (.iinc 2 1, 3) := by decide +kernel
theorem dX1_layNotices_112 : decode cX1_layNotices 112 = .ok (.goto (-110), 3) := by decide +kernel
theorem dX1_layNotices_115 : decode cX1_layNotices 115 = .ok (.return_, 1) := by decide +kernel
theorem dX1_layNotice_0 : decode cX1_layNotice 0 = .ok (.aload_n 1, 1) := by decide +kernel
theorem dX1_layNotice_1 : decode cX1_layNotice 1 = .ok (.getfield 104, 3) := by decide +kernel
theorem dX1_layNotice_4 : decode cX1_layNotice 4 = .ok (.aload_n 0, 1) := by decide +kernel
theorem dX1_layNotice_5 : decode cX1_layNotice 5 = .ok (.arraylength, 1) := by decide +kernel
theorem dX1_layNotice_6 : decode cX1_layNotice 6 = .ok (.invokestatic 44, 3) := by decide +kernel
theorem dX1_layNotice_9 : decode cX1_layNotice 9 = .ok (.istore_n 3, 1) := by decide +kernel
theorem dX1_layNotice_10 : decode cX1_layNotice 10 = .ok (.aload_n 1, 1) := by decide +kernel
theorem dX1_layNotice_11 : decode cX1_layNotice 11 = .ok (.getfield 107, 3) := by decide +kernel
theorem dX1_layNotice_14 : decode cX1_layNotice 14 = .ok (.iconst 0, 1) := by decide +kernel
theorem dX1_layNotice_15 : decode cX1_layNotice 15 = .ok (.invokestatic 110, 3) := by decide +kernel
theorem dX1_layNotice_18 : decode cX1_layNotice 18 = .ok (.istore 4, 2) := by decide +kernel
theorem dX1_layNotice_20 : decode cX1_layNotice 20 = .ok (.iload 4, 2) := by decide +kernel
theorem dX1_layNotice_22 : decode cX1_layNotice 22 = .ok (.iload_n 3, 1) := by decide +kernel
theorem dX1_layNotice_23 : decode cX1_layNotice 23 = .ok (.if_icmp .ge 14, 3) := by decide +kernel
theorem dX1_layNotice_26 : decode cX1_layNotice 26 = .ok (.aload_n 0, 1) := by decide +kernel
theorem dX1_layNotice_27 : decode cX1_layNotice 27 = .ok (.iload 4, 2) := by decide +kernel
theorem dX1_layNotice_29 : decode cX1_layNotice 29 = .ok (.iload_n 2, 1) := by decide +kernel
theorem dX1_layNotice_30 : decode cX1_layNotice 30 = .ok (.iastore, 1) := by decide +kernel
theorem dX1_layNotice_31 : decode cX1_layNotice 31 = .ok (.iinc 4 1, 3) := by decide +kernel
theorem dX1_layNotice_34 : decode cX1_layNotice 34 = .ok (.goto (-14), 3) := by decide +kernel
theorem dX1_layNotice_37 : decode cX1_layNotice 37 = .ok (.return_, 1) := by decide +kernel
theorem dX1_pushByOvers_0 : decode cX1_pushByOvers 0 = .ok (.iconst 0, 1) := by decide +kernel
theorem dX1_pushByOvers_1 : decode cX1_pushByOvers 1 = .ok (.istore_n 2, 1) := by decide +kernel
theorem dX1_pushByOvers_2 : decode cX1_pushByOvers 2 = .ok (.iload_n 2, 1) := by decide +kernel
theorem dX1_pushByOvers_3 : decode cX1_pushByOvers 3 = .ok (.aload_n 0, 1) := by decide +kernel
theorem dX1_pushByOvers_4 : decode cX1_pushByOvers 4 = .ok (.getfield 15, 3) := by decide +kernel
theorem dX1_pushByOvers_7 : decode cX1_pushByOvers 7 = .ok (.if_icmp .ge 59, 3) := by decide +kernel
theorem dX1_pushByOvers_10 : decode cX1_pushByOvers 10 = .ok (.aload_n 1, 1) := by decide +kernel
theorem dX1_pushByOvers_11 : decode cX1_pushByOvers 11 = .ok (.iload_n 2, 1) := by decide +kernel
theorem dX1_pushByOvers_12 : decode cX1_pushByOvers 12 = .ok (.invokevirtual 84, 3) := by decide +kernel
theorem dX1_pushByOvers_15 : decode cX1_pushByOvers 15 = .ok (.astore_n 3, 1) := by decide +kernel
theorem dX1_pushByOvers_16 : decode cX1_pushByOvers 16 = .ok (.aload_n 3, 1) := by decide +kernel
theorem dX1_pushByOvers_17 : decode cX1_pushByOvers 17 = .ok (.ifnull 43, 3) := by decide +kernel
theorem dX1_pushByOvers_20 : decode cX1_pushByOvers 20 = .ok (.aload_n 3, 1) := by decide +kernel
theorem dX1_pushByOvers_21 : decode cX1_pushByOvers 21 = .ok (.invokevirtual 113, 3) := by decide +kernel
theorem dX1_pushByOvers_24 : decode cX1_pushByOvers 24 = .ok (.ifCond .ne 36, 3) := by decide +kernel
theorem dX1_pushByOvers_27 : decode cX1_pushByOvers 27 = .ok (.aload_n 3, 1) := by decide +kernel
theorem dX1_pushByOvers_28 : decode cX1_pushByOvers 28 = .ok (.getfield 94, 3) := by decide +kernel
theorem dX1_pushByOvers_31 : decode cX1_pushByOvers 31 = .ok (.ifCond .lt 29, 3) := by decide +kernel
theorem dX1_pushByOvers_34 : decode cX1_pushByOvers 34 = .ok (.aload_n 3, 1) := by decide +kernel
theorem dX1_pushByOvers_35 : decode cX1_pushByOvers 35 = .ok (.getfield 94, 3) := by decide +kernel
theorem dX1_pushByOvers_38 : decode cX1_pushByOvers 38 = .ok (.aload_n 0, 1) := by decide +kernel
theorem dX1_pushByOvers_39 : decode cX1_pushByOvers 39 = .ok (.getfield 18, 3) := by decide +kernel
theorem dX1_pushByOvers_42 : decode cX1_pushByOvers 42 = .ok (.if_icmp .ge 18, 3) := by decide +kernel
theorem dX1_pushByOvers_45 : decode cX1_pushByOvers 45 = .ok (.aload_n 0, 1) := by decide +kernel
theorem dX1_pushByOvers_46 : decode cX1_pushByOvers 46 = .ok (.aload_n 1, 1) := by decide +kernel
theorem dX1_pushByOvers_47 : decode cX1_pushByOvers 47 = .ok (.aload_n 0, 1) := by decide +kernel
theorem dX1_pushByOvers_48 : decode cX1_pushByOvers 48 = .ok (.getfield 23, 3) := by decide +kernel
theorem dX1_pushByOvers_51 : decode cX1_pushByOvers 51 = .ok (.aload_n 3, 1) := by decide +kernel
theorem dX1_pushByOvers_52 : decode cX1_pushByOvers 52 = .ok (.getfield 94, 3) := by decide +kernel
theorem dX1_pushByOvers_55 : decode cX1_pushByOvers 55 = .ok (.aaload, 1) := by decide +kernel
theorem dX1_pushByOvers_56 : decode cX1_pushByOvers 56 = .ok (.aload_n 3, 1) := by decide +kernel
theorem dX1_pushByOvers_57 : decode cX1_pushByOvers 57 = .ok (.invokevirtual 117, 3) := by decide +kernel
theorem dX1_pushByOvers_60 : decode cX1_pushByOvers 60 = .ok (.iinc 2 1, 3) := by decide +kernel
theorem dX1_pushByOvers_63 : decode cX1_pushByOvers 63 = .ok (.goto (-61), 3) := by decide +kernel
theorem dX1_pushByOvers_66 : decode cX1_pushByOvers 66 = .ok (.return_, 1) := by decide +kernel
theorem dX1_pushByOver_0 : decode cX1_pushByOver 0 = .ok (.aload_n 3, 1) := by decide +kernel
theorem dX1_pushByOver_1 : decode cX1_pushByOver 1 = .ok (.getfield 107, 3) := by decide +kernel
theorem dX1_pushByOver_4 : decode cX1_pushByOver 4 = .ok (.istore 4, 2) := by decide +kernel
theorem dX1_pushByOver_6 : decode cX1_pushByOver 6 = .ok (.iload 4, 2) := by decide +kernel
theorem dX1_pushByOver_8 : decode cX1_pushByOver 8 = .ok (.iconst 1, 1) := by decide +kernel
theorem dX1_pushByOver_9 : decode cX1_pushByOver 9 = .ok (.if_icmp .lt 19, 3) := by decide +kernel
theorem dX1_pushByOver_12 : decode cX1_pushByOver 12 = .ok (.iload 4, 2) := by decide +kernel
theorem dX1_pushByOver_14 : decode cX1_pushByOver 14 = .ok (.sipush 288, 3) := by decide +kernel
theorem dX1_pushByOver_17 : decode cX1_pushByOver 17 = .ok (.if_icmp .ge 11, 3) := by decide +kernel
theorem dX1_pushByOver_20 : decode cX1_pushByOver 20 = .ok (.aload_n 2, 1) := by decide +kernel
theorem dX1_pushByOver_21 : decode cX1_pushByOver 21 = .ok (.arraylength, 1) := by decide +kernel
theorem dX1_pushByOver_22 : decode cX1_pushByOver 22 = .ok (.sipush 288, 3) := by decide +kernel
theorem dX1_pushByOver_25 : decode cX1_pushByOver 25 = .ok (.if_icmp .eq 4, 3) := by decide +kernel
theorem dX1_pushByOver_28 : decode cX1_pushByOver 28 = .ok (.return_, 1) := by decide +kernel
theorem dX1_pushByOver_29 : decode cX1_pushByOver 29 = .ok (.aload_n 2, 1) := by decide +kernel
theorem dX1_pushByOver_30 : decode cX1_pushByOver 30 = .ok (.iload 4, 2) := by decide +kernel
theorem dX1_pushByOver_32 : decode cX1_pushByOver 32 = .ok (.iconst 1, 1) := by decide +kernel
theorem dX1_pushByOver_33 : decode cX1_pushByOver 33 = .ok (.isub, 1) := by decide +kernel
theorem dX1_pushByOver_34 : decode cX1_pushByOver 34 = .ok (.iaload, 1) := by decide +kernel
theorem dX1_pushByOver_35 : decode cX1_pushByOver 35 = .ok (.istore 5, 2) := by decide +kernel
theorem dX1_pushByOver_37 : decode cX1_pushByOver 37 = .ok (.aload_n 1, 1) := by decide +kernel
theorem dX1_pushByOver_38 : decode cX1_pushByOver 38 = .ok (.iload 5, 2) := by decide +kernel
theorem dX1_pushByOver_40 : decode cX1_pushByOver 40 = .ok (.invokevirtual 84, 3) := by decide +kernel
theorem dX1_pushByOver_43 : decode cX1_pushByOver 43 = .ok (.astore 6, 2) := by decide +kernel
theorem dX1_pushByOver_45 : decode cX1_pushByOver 45 = .ok (.aload 6, 2) := by decide +kernel
theorem dX1_pushByOver_47 : decode cX1_pushByOver 47 = .ok (.ifnull 11, 3) := by decide +kernel
theorem dX1_pushByOver_50 : decode cX1_pushByOver 50 = .ok (.aload 6, 2) := by decide +kernel
theorem dX1_pushByOver_52 : decode cX1_pushByOver 52 = .ok (.getfield 121, 3) := by decide +kernel
theorem dX1_pushByOver_55 : decode cX1_pushByOver 55 = .ok (.ifCond .ne 4, 3) := by decide +kernel
theorem dX1_pushByOver_58 : decode cX1_pushByOver 58 = .ok (.return_, 1) := by decide +kernel
theorem dX1_pushByOver_59 : decode cX1_pushByOver 59 = .ok (.aload_n 2, 1) := by decide +kernel
theorem dX1_pushByOver_60 : decode cX1_pushByOver 60 = .ok (.iconst 0, 1) := by decide +kernel
theorem dX1_pushByOver_61 : decode cX1_pushByOver 61 = .ok (.aload_n 0, 1) := by decide +kernel
theorem dX1_pushByOver_62 : decode cX1_pushByOver 62 = .ok (.getfield 26, 3) := by decide +kernel
theorem dX1_pushByOver_65 : decode cX1_pushByOver 65 = .ok (.iconst 0, 1) := by decide +kernel
theorem dX1_pushByOver_66 : decode cX1_pushByOver 66 = .ok (.sipush 288, 3) := by decide +kernel
theorem dX1_pushByOver_69 : decode cX1_pushByOver 69 = .ok (.invokestatic 125, 3) := by decide +kernel
theorem dX1_pushByOver_72 : decode cX1_pushByOver 72 = .ok (.aload_n 3, 1) := by decide +kernel
theorem dX1_pushByOver_73 : decode cX1_pushByOver 73 = .ok (.getfield 104, 3) := by decide +kernel
theorem dX1_pushByOver_76 : decode cX1_pushByOver 76 = .ok (.sipush 288, 3) := by decide +kernel
theorem dX1_pushByOver_79 : decode cX1_pushByOver 79 = .ok (.invokestatic 44, 3) := by decide +kernel
theorem dX1_pushByOver_82 : decode cX1_pushByOver 82 = .ok (.istore 7, 2) := by decide +kernel
theorem dX1_pushByOver_84 : decode cX1_pushByOver 84 = .ok (.iload 4, 2) := by decide +kernel
theorem dX1_pushByOver_86 : decode cX1_pushByOver 86 = .ok (.istore 8, 2) := by decide +kernel
theorem dX1_pushByOver_88 : decode cX1_pushByOver 88 = .ok (.iload 8, 2) := by decide +kernel
theorem dX1_pushByOver_90 : decode cX1_pushByOver 90 = .ok (.iload 7, 2) := by decide +kernel
theorem dX1_pushByOver_92 : decode cX1_pushByOver 92 = .ok (.if_icmp .ge 15, 3) := by decide +kernel
theorem dX1_pushByOver_95 : decode cX1_pushByOver 95 = .ok (.aload_n 2, 1) := by decide +kernel
theorem dX1_pushByOver_96 : decode cX1_pushByOver 96 = .ok (.iload 8, 2) := by decide +kernel
theorem dX1_pushByOver_98 : decode cX1_pushByOver 98 = .ok (.iload 5, 2) := by decide +kernel
theorem dX1_pushByOver_100 : decode cX1_pushByOver 100 = .ok (.iastore, 1) := by decide +kernel
theorem dX1_pushByOver_101 : decode cX1_pushByOver 101 = .ok (.iinc 8 1, 3) := by decide +kernel
theorem dX1_pushByOver_104 : decode cX1_pushByOver 104 = .ok (.goto (-16), 3) := by decide +kernel
theorem dX1_pushByOver_107 : decode cX1_pushByOver 107 = .ok (.aload_n 3, 1) := by decide +kernel
theorem dX1_pushByOver_108 : decode cX1_pushByOver 108 = .ok (.getfield 104, 3) := by decide +kernel
theorem dX1_pushByOver_111 : decode cX1_pushByOver 111 = .ok (.iload 4, 2) := by decide +kernel
theorem dX1_pushByOver_113 : decode cX1_pushByOver 113 = .ok (.isub, 1) := by decide +kernel
theorem dX1_pushByOver_114 : decode cX1_pushByOver 114 = .ok (.istore 8, 2) := by decide +kernel
theorem dX1_pushByOver_116 : decode cX1_pushByOver 116 = .ok (.iload 4, 2) := by decide +kernel
theorem dX1_pushByOver_118 : decode cX1_pushByOver 118 = .ok (.istore 9, 2) := by decide +kernel
theorem dX1_pushByOver_120 : decode cX1_pushByOver 120 = .ok (.iload 9, 2) := by decide +kernel
theorem dX1_pushByOver_122 : decode cX1_pushByOver 122 = .ok (.sipush 288, 3) := by decide +kernel
theorem dX1_pushByOver_125 : decode cX1_pushByOver 125 = .ok (.if_icmp .ge 56, 3) := by decide +kernel
theorem dX1_pushByOver_128 : decode cX1_pushByOver 128 = .ok (.iload 8, 2) := by decide +kernel
theorem dX1_pushByOver_130 : decode cX1_pushByOver 130 = .ok (.ifCond .le 51, 3) := by decide +kernel
theorem dX1_pushByOver_133 : decode cX1_pushByOver 133 = .ok (.aload_n 0, 1) := by decide +kernel
theorem dX1_pushByOver_134 : decode cX1_pushByOver 134 = .ok (.getfield 26, 3) := by decide +kernel
theorem dX1_pushByOver_137 : decode cX1_pushByOver 137 = .ok (.iload 9, 2) := by decide +kernel
theorem dX1_pushByOver_139 : decode cX1_pushByOver 139 = .ok (.iaload, 1) := by decide +kernel
theorem dX1_pushByOver_140 : decode cX1_pushByOver 140 = .ok (.iconst (-1), 1) := by decide +kernel
theorem dX1_pushByOver_141 : decode cX1_pushByOver 141 = .ok (.if_icmp .ne 9, 3) := by decide +kernel
theorem dX1_pushByOver_144 : decode cX1_pushByOver 144 = .ok (.iinc 8 (-1), 3) := by decide +kernel
theorem dX1_pushByOver_147 : decode cX1_pushByOver 147 = .ok (.goto 28, 3) := by decide +kernel
theorem dX1_pushByOver_150 : decode cX1_pushByOver 150 = .ok (.iload 9, 2) := by decide +kernel
theorem dX1_pushByOver_152 : decode cX1_pushByOver 152 = .ok (.iload 8, 2) := by decide +kernel
theorem dX1_pushByOver_154 : decode cX1_pushByOver 154 = .ok (.iadd, 1) := by decide +kernel
theorem dX1_pushByOver_155 : decode cX1_pushByOver 155 = .ok (.sipush 288, 3) := by decide +kernel
theorem dX1_pushByOver_158 : decode cX1_pushByOver 158 = .ok (.if_icmp .ge 17, 3) := by decide +kernel
theorem dX1_pushByOver_161 : decode cX1_pushByOver 161 = .ok (.aload_n 2, 1) := by decide +kernel
theorem dX1_pushByOver_162 : decode cX1_pushByOver 162 = .ok (.iload 9, 2) := by decide +kernel
theorem dX1_pushByOver_164 : decode cX1_pushByOver 164 = .ok (.iload 8, 2) := by decide +kernel
theorem dX1_pushByOver_166 : decode cX1_pushByOver 166 = .ok (.iadd, 1) := by decide +kernel
theorem dX1_pushByOver_167 : decode cX1_pushByOver 167 = .ok (.aload_n 0, 1) := by decide +kernel
theorem dX1_pushByOver_168 : decode cX1_pushByOver 168 = .ok (.getfield 26, 3) := by decide +kernel
theorem dX1_pushByOver_171 : decode cX1_pushByOver 171 = .ok (.iload 9, 2) := by decide +kernel
theorem dX1_pushByOver_173 : decode cX1_pushByOver 173 = .ok (.iaload, 1) := by decide +kernel
theorem dX1_pushByOver_174 : decode cX1_pushByOver 174 = .ok (.iastore, 1) := by decide +kernel
theorem dX1_pushByOver_175 : decode cX1_pushByOver 175 = .ok (.iinc 9 1, 3) := by decide +kernel
theorem dX1_pushByOver_178 : decode cX1_pushByOver 178 = .ok (.goto (-58), 3) := by decide +kernel
theorem dX1_pushByOver_181 : decode cX1_pushByOver 181 = .ok (.return_, 1) := by decide +kernel
theorem dX1_collectShowings_0 : decode cX1_collectShowings 0 = .ok (.aload_n 0, 1) := by decide +kernel
theorem dX1_collectShowings_1 : decode cX1_collectShowings 1 = .ok (.iconst 0, 1) := by decide +kernel
theorem dX1_collectShowings_2 : decode cX1_collectShowings 2 = .ok (.putfield 9, 3) := by decide +kernel
theorem dX1_collectShowings_5 : decode cX1_collectShowings 5 = .ok (.aload_n 0, 1) := by decide +kernel
theorem dX1_collectShowings_6 : decode cX1_collectShowings 6 = .ok (.getfield 36, 3) := by decide +kernel
theorem dX1_collectShowings_9 : decode cX1_collectShowings 9 = .ok (.iconst (-1), 1) := by decide +kernel
theorem dX1_collectShowings_10 : decode cX1_collectShowings 10 = .ok (.invokestatic 50, 3) := by decide +kernel
theorem dX1_collectShowings_13 : decode cX1_collectShowings 13 = .ok (.iconst 0, 1) := by decide +kernel
theorem dX1_collectShowings_14 : decode cX1_collectShowings 14 = .ok (.istore_n 2, 1) := by decide +kernel
theorem dX1_collectShowings_15 : decode cX1_collectShowings 15 = .ok (.iload_n 2, 1) := by decide +kernel
theorem dX1_collectShowings_16 : decode cX1_collectShowings 16 = .ok (.sipush 288, 3) := by decide +kernel
theorem dX1_collectShowings_19 : decode cX1_collectShowings 19 = .ok (.if_icmp .ge 83, 3) := by decide +kernel
theorem dX1_collectShowings_22 : decode cX1_collectShowings 22 = .ok (.iconst 0, 1) := by decide +kernel
theorem dX1_collectShowings_23 : decode cX1_collectShowings 23 = .ok (.istore_n 3, 1) := by decide +kernel
theorem dX1_collectShowings_24 : decode cX1_collectShowings 24 = .ok (.iload_n 3, 1) := by decide +kernel
theorem dX1_collectShowings_25 : decode cX1_collectShowings 25 = .ok (.aload_n 0, 1) := by decide +kernel
theorem dX1_collectShowings_26 : decode cX1_collectShowings 26 = .ok (.getfield 18, 3) := by decide +kernel
theorem dX1_collectShowings_29 : decode cX1_collectShowings 29 = .ok (.if_icmp .ge 67, 3) := by decide +kernel
theorem dX1_collectShowings_32 : decode cX1_collectShowings 32 = .ok (.aload_n 0, 1) := by decide +kernel
theorem dX1_collectShowings_33 : decode cX1_collectShowings 33 = .ok (.getfield 23, 3) := by decide +kernel
theorem dX1_collectShowings_36 : decode cX1_collectShowings 36 = .ok (.iload_n 3, 1) := by decide +kernel
theorem dX1_collectShowings_37 : decode cX1_collectShowings 37 = .ok (.aaload, 1) := by decide +kernel
theorem dX1_collectShowings_38 : decode cX1_collectShowings 38 = .ok (.iload_n 2, 1) := by decide +kernel
theorem dX1_collectShowings_39 : decode cX1_collectShowings 39 = .ok (.iaload, 1) := by decide +kernel
theorem dX1_collectShowings_40 : decode cX1_collectShowings 40 = .ok (.istore 4, 2) := by decide +kernel
theorem dX1_collectShowings_42 : decode cX1_collectShowings 42 = .ok (.iload 4, 2) := by decide +kernel
theorem dX1_collectShowings_44 : decode cX1_collectShowings 44 = .ok (.iconst (-1), 1) := by decide +kernel
theorem dX1_collectShowings_45 : decode cX1_collectShowings 45 = .ok (.if_icmp .eq 45, 3) := by decide +kernel
theorem dX1_collectShowings_48 : decode cX1_collectShowings 48 = .ok (.iload_n 2, 1) := by decide +kernel
theorem dX1_collectShowings_49 : decode cX1_collectShowings 49 = .ok (.ifCond .eq 18, 3) := by decide +kernel
theorem dX1_collectShowings_52 : decode cX1_collectShowings 52 = .ok (.aload_n 0, 1) := by decide +kernel
theorem dX1_collectShowings_53 : decode cX1_collectShowings 53 = .ok (.getfield 23, 3) := by decide +kernel
theorem dX1_collectShowings_56 : decode cX1_collectShowings 56 = .ok (.iload_n 3, 1) := by decide +kernel
theorem dX1_collectShowings_57 : decode cX1_collectShowings 57 = .ok (.aaload, 1) := by decide +kernel
theorem dX1_collectShowings_58 : decode cX1_collectShowings 58 = .ok (.iload_n 2, 1) := by decide +kernel
theorem dX1_collectShowings_59 : decode cX1_collectShowings 59 = .ok (.iconst 1, 1) := by decide +kernel
theorem dX1_collectShowings_60 : decode cX1_collectShowings 60 = .ok (.isub, 1) := by decide +kernel
theorem dX1_collectShowings_61 : decode cX1_collectShowings 61 = .ok (.iaload, 1) := by decide +kernel
theorem dX1_collectShowings_62 : decode cX1_collectShowings 62 = .ok (.iload 4, 2) := by decide +kernel
theorem dX1_collectShowings_64 : decode cX1_collectShowings 64 = .ok (.if_icmp .eq 26, 3) := by decide +kernel
theorem dX1_collectShowings_67 : decode cX1_collectShowings 67 = .ok (.aload_n 0, 1) := by decide +kernel
theorem dX1_collectShowings_68 : decode cX1_collectShowings 68 = .ok (.iload 4, 2) := by decide +kernel
theorem dX1_collectShowings_70 : decode cX1_collectShowings 70 = .ok (.aload_n 1, 1) := by decide +kernel
theorem dX1_collectShowings_71 : decode cX1_collectShowings 71 = .ok (.iload 4, 2) := by decide +kernel
theorem dX1_collectShowings_73 : decode cX1_collectShowings 73 = .ok (.invokevirtual 84, 3) := by decide +kernel
theorem dX1_collectShowings_76 : decode cX1_collectShowings 76 = .ok (.iload_n 2, 1) := by decide +kernel
theorem dX1_collectShowings_77 : decode cX1_collectShowings 77 = .ok (.aload_n 0, 1) := by decide +kernel
theorem dX1_collectShowings_78 : decode cX1_collectShowings 78 = .ok (.getfield 23, 3) := by decide +kernel
theorem dX1_collectShowings_81 : decode cX1_collectShowings 81 = .ok (.iload_n 3, 1) := by decide +kernel
theorem dX1_collectShowings_82 : decode cX1_collectShowings 82 = .ok (.aaload, 1) := by decide +kernel
theorem dX1_collectShowings_83 : decode cX1_collectShowings 83 = .ok (.iload_n 2, 1) := by decide +kernel
theorem dX1_collectShowings_84 : decode cX1_collectShowings 84 = .ok (.invokestatic 131, 3) := by decide +kernel
theorem dX1_collectShowings_87 : decode cX1_collectShowings 87 = .ok (.invokevirtual 135, 3) := by decide +kernel
theorem dX1_collectShowings_90 : decode cX1_collectShowings 90 = .ok (.iinc 3 1, 3) := by decide +kernel
theorem dX1_collectShowings_93 : decode cX1_collectShowings 93 = .ok (.goto (-69), 3) := by decide +kernel
theorem dX1_collectShowings_96 : decode cX1_collectShowings 96 = .ok (.iinc 2 1, 3) := by decide +kernel
theorem dX1_collectShowings_99 : decode cX1_collectShowings 99 = .ok (.goto (-84), 3) := by decide +kernel
theorem dX1_collectShowings_102 : decode cX1_collectShowings 102 = .ok (.return_, 1) := by decide +kernel
theorem dX1_endOfRun_0 : decode cX1_endOfRun 0 = .ok (.iload_n 1, 1) := by decide +kernel
theorem dX1_endOfRun_1 : decode cX1_endOfRun 1 = .ok (.iconst 1, 1) := by decide +kernel
theorem dX1_endOfRun_2 : decode cX1_endOfRun 2 = .ok (.iadd, 1) := by decide +kernel
theorem dX1_endOfRun_3 : decode cX1_endOfRun 3 = .ok (.istore_n 2, 1) := by decide +kernel
theorem dX1_endOfRun_4 : decode cX1_endOfRun 4 = .ok (.iload_n 2, 1) := by decide +kernel
theorem dX1_endOfRun_5 : decode cX1_endOfRun 5 = .ok (.aload_n 0, 1) := by decide +kernel
theorem dX1_endOfRun_6 : decode cX1_endOfRun 6 = .ok (.arraylength, 1) := by decide +kernel
theorem dX1_endOfRun_7 : decode cX1_endOfRun 7 = .ok (.if_icmp .ge 20, 3) := by decide +kernel
theorem dX1_endOfRun_10 : decode cX1_endOfRun 10 = .ok (.aload_n 0, 1) := by decide +kernel
theorem dX1_endOfRun_11 : decode cX1_endOfRun 11 = .ok (.iload_n 2, 1) := by decide +kernel
theorem dX1_endOfRun_12 : decode cX1_endOfRun 12 = .ok (.iaload, 1) := by decide +kernel
theorem dX1_endOfRun_13 : decode cX1_endOfRun 13 = .ok (.aload_n 0, 1) := by decide +kernel
theorem dX1_endOfRun_14 : decode cX1_endOfRun 14 = .ok (.iload_n 1, 1) := by decide +kernel
theorem dX1_endOfRun_15 : decode cX1_endOfRun 15 = .ok (.iaload, 1) := by decide +kernel
theorem dX1_endOfRun_16 : decode cX1_endOfRun 16 = .ok (.if_icmp .eq 5, 3) := by decide +kernel
theorem dX1_endOfRun_19 : decode cX1_endOfRun 19 = .ok (.iload_n 2, 1) := by decide +kernel
theorem dX1_endOfRun_20 : decode cX1_endOfRun 20 = .ok (.ireturn, 1) := by decide +kernel
theorem dX1_endOfRun_21 : decode cX1_endOfRun 21 = .ok (.iinc 2 1, 3) := by decide +kernel
theorem dX1_endOfRun_24 : decode cX1_endOfRun 24 = .ok (.goto (-20), 3) := by decide +kernel
theorem dX1_endOfRun_27 : decode cX1_endOfRun 27 = .ok (.aload_n 0, 1) := by decide +kernel
theorem dX1_endOfRun_28 : decode cX1_endOfRun 28 = .ok (.arraylength, 1) := by decide +kernel
theorem dX1_endOfRun_29 : decode cX1_endOfRun 29 = .ok (.ireturn, 1) := by decide +kernel
theorem dX1_addShowing_0 : decode cX1_addShowing 0 = .ok (.aload_n 2, 1) := by decide +kernel
theorem dX1_addShowing_1 : decode cX1_addShowing 1 = .ok (.ifnull 15, 3) := by decide +kernel
theorem dX1_addShowing_4 : decode cX1_addShowing 4 = .ok (.aload_n 0, 1) := by decide +kernel
theorem dX1_addShowing_5 : decode cX1_addShowing 5 = .ok (.getfield 9, 3) := by decide +kernel
theorem dX1_addShowing_8 : decode cX1_addShowing 8 = .ok (.aload_n 0, 1) := by decide +kernel
theorem dX1_addShowing_9 : decode cX1_addShowing 9 = .ok (.getfield 32, 3) := by decide +kernel
theorem dX1_addShowing_12 : decode cX1_addShowing 12 = .ok (.arraylength, 1) := by decide +kernel
theorem dX1_addShowing_13 : decode cX1_addShowing 13 = .ok (.if_icmp .lt 4, 3) := by decide +kernel
theorem dX1_addShowing_16 : decode cX1_addShowing 16 = .ok (.return_, 1) := by decide +kernel
theorem dX1_addShowing_17 : decode cX1_addShowing 17 = .ok (.aload_n 0, 1) := by decide +kernel
theorem dX1_addShowing_18 : decode cX1_addShowing 18 = .ok (.getfield 32, 3) := by decide +kernel
theorem dX1_addShowing_21 : decode cX1_addShowing 21 = .ok (.aload_n 0, 1) := by decide +kernel
theorem dX1_addShowing_22 : decode cX1_addShowing 22 = .ok (.getfield 9, 3) := by decide +kernel
theorem dX1_addShowing_25 : decode cX1_addShowing 25 = .ok (.aaload, 1) := by decide +kernel
theorem dX1_addShowing_26 : decode cX1_addShowing 26 = .ok (.ifnonnull 19, 3) := by decide +kernel
theorem dX1_addShowing_29 : decode cX1_addShowing 29 = .ok (.aload_n 0, 1) := by decide +kernel
theorem dX1_addShowing_30 : decode cX1_addShowing 30 = .ok (.getfield 32, 3) := by decide +kernel
theorem dX1_addShowing_33 : decode cX1_addShowing 33 = .ok (.aload_n 0, 1) := by decide +kernel
theorem dX1_addShowing_34 : decode cX1_addShowing 34 = .ok (.getfield 9, 3) := by decide +kernel
theorem dX1_addShowing_37 : decode cX1_addShowing 37 = .ok (.new 30, 3) := by decide +kernel
theorem dX1_addShowing_40 : decode cX1_addShowing 40 = .ok (.dup, 1) := by decide +kernel
theorem dX1_addShowing_41 : decode cX1_addShowing 41 = .ok (.invokespecial 139, 3) := by decide +kernel
theorem dX1_addShowing_44 : decode cX1_addShowing 44 = .ok (.aastore, 1) := by decide +kernel
theorem dX1_addShowing_45 : decode cX1_addShowing 45 = .ok (.aload_n 0, 1) := by decide +kernel
theorem dX1_addShowing_46 : decode cX1_addShowing 46 = .ok (.getfield 32, 3) := by decide +kernel
theorem dX1_addShowing_49 : decode cX1_addShowing 49 = .ok (.aload_n 0, 1) := by decide +kernel
theorem dX1_addShowing_50 : decode cX1_addShowing 50 = .ok (.getfield 9, 3) := by decide +kernel
theorem dX1_addShowing_53 : decode cX1_addShowing 53 = .ok (.aaload, 1) := by decide +kernel
theorem dX1_addShowing_54 : decode cX1_addShowing 54 = .ok (.astore 5, 2) := by decide +kernel
theorem dX1_addShowing_56 : decode cX1_addShowing 56 = .ok (.aload 5, 2) := by decide +kernel
theorem dX1_addShowing_58 : decode cX1_addShowing 58 = .ok (.aload_n 0, 1) := by decide +kernel
theorem dX1_addShowing_59 : decode cX1_addShowing 59 = .ok (.getfield 9, 3) := by decide +kernel
theorem dX1_addShowing_62 : decode cX1_addShowing 62 = .ok (.iload_n 1, 1) := by decide +kernel
theorem dX1_addShowing_63 : decode cX1_addShowing 63 = .ok (.aload_n 2, 1) := by decide +kernel
theorem dX1_addShowing_64 : decode cX1_addShowing 64 = .ok (.iload_n 3, 1) := by decide +kernel
theorem dX1_addShowing_65 : decode cX1_addShowing 65 = .ok (.iload 4, 2) := by decide +kernel
theorem dX1_addShowing_67 : decode cX1_addShowing 67 = .ok (.invokevirtual 140, 3) := by decide +kernel
theorem dX1_addShowing_70 : decode cX1_addShowing 70 = .ok (.aload 5, 2) := by decide +kernel
theorem dX1_addShowing_72 : decode cX1_addShowing 72 = .ok (.aload_n 0, 1) := by decide +kernel
theorem dX1_addShowing_73 : decode cX1_addShowing 73 = .ok (.aload 5, 2) := by decide +kernel
theorem dX1_addShowing_75 : decode cX1_addShowing 75 = .ok (.invokevirtual 143, 3) := by decide +kernel
theorem dX1_addShowing_78 : decode cX1_addShowing 78 = .ok (.putfield 147, 3) := by decide +kernel
theorem dX1_addShowing_81 : decode cX1_addShowing 81 = .ok (.aload_n 0, 1) := by decide +kernel
theorem dX1_addShowing_82 : decode cX1_addShowing 82 = .ok (.dup, 1) := by decide +kernel
theorem dX1_addShowing_83 : decode cX1_addShowing 83 = .ok (.getfield 9, 3) := by decide +kernel
theorem dX1_addShowing_86 : decode cX1_addShowing 86 = .ok (.iconst 1, 1) := by decide +kernel
theorem dX1_addShowing_87 : decode cX1_addShowing 87 = .ok (.iadd, 1) := by decide +kernel
theorem dX1_addShowing_88 : decode cX1_addShowing 88 = .ok (.putfield 9, 3) := by decide +kernel
theorem dX1_addShowing_91 : decode cX1_addShowing 91 = .ok (.return_, 1) := by decide +kernel
theorem dX1_leastOneOf_0 : decode cX1_leastOneOf 0 = .ok (.aload_n 1, 1) := by decide +kernel
theorem dX1_leastOneOf_1 : decode cX1_leastOneOf 1 = .ok (.getfield 150, 3) := by decide +kernel
theorem dX1_leastOneOf_4 : decode cX1_leastOneOf 4 = .ok (.bipush 32, 2) := by decide +kernel
theorem dX1_leastOneOf_6 : decode cX1_leastOneOf 6 = .ok (.imul, 1) := by decide +kernel
theorem dX1_leastOneOf_7 : decode cX1_leastOneOf 7 = .ok (.aload_n 1, 1) := by decide +kernel
theorem dX1_leastOneOf_8 : decode cX1_leastOneOf 8 = .ok (.getfield 151, 3) := by decide +kernel
theorem dX1_leastOneOf_11 : decode cX1_leastOneOf 11 = .ok (.iadd, 1) := by decide +kernel
theorem dX1_leastOneOf_12 : decode cX1_leastOneOf 12 = .ok (.istore_n 2, 1) := by decide +kernel
theorem dX1_leastOneOf_13 : decode cX1_leastOneOf 13 = .ok (.aload_n 1, 1) := by decide +kernel
theorem dX1_leastOneOf_14 : decode cX1_leastOneOf 14 = .ok (.getfield 151, 3) := by decide +kernel
theorem dX1_leastOneOf_17 : decode cX1_leastOneOf 17 = .ok (.ifCond .eq 16, 3) := by decide +kernel
theorem dX1_leastOneOf_20 : decode cX1_leastOneOf 20 = .ok (.iload_n 2, 1) := by decide +kernel
theorem dX1_leastOneOf_21 : decode cX1_leastOneOf 21 = .ok (.ifCond .lt 12, 3) := by decide +kernel
theorem dX1_leastOneOf_24 : decode cX1_leastOneOf 24 = .ok (.iload_n 2, 1) := by decide +kernel
theorem dX1_leastOneOf_25 : decode cX1_leastOneOf 25 = .ok (.aload_n 0, 1) := by decide +kernel
theorem dX1_leastOneOf_26 : decode cX1_leastOneOf 26 = .ok (.getfield 36, 3) := by decide +kernel
theorem dX1_leastOneOf_29 : decode cX1_leastOneOf 29 = .ok (.arraylength, 1) := by decide +kernel
theorem dX1_leastOneOf_30 : decode cX1_leastOneOf 30 = .ok (.if_icmp .lt 8, 3) := by decide +kernel
theorem dX1_leastOneOf_33 : decode cX1_leastOneOf 33 = .ok (.aload_n 1, 1) := by decide +kernel
theorem dX1_leastOneOf_34 : decode cX1_leastOneOf 34 = .ok (.getfield 70, 3) := by decide +kernel
theorem dX1_leastOneOf_37 : decode cX1_leastOneOf 37 = .ok (.ireturn, 1) := by decide +kernel
theorem dX1_leastOneOf_38 : decode cX1_leastOneOf 38 = .ok (.aload_n 0, 1) := by decide +kernel
theorem dX1_leastOneOf_39 : decode cX1_leastOneOf 39 = .ok (.getfield 36, 3) := by decide +kernel
theorem dX1_leastOneOf_42 : decode cX1_leastOneOf 42 = .ok (.iload_n 2, 1) := by decide +kernel
theorem dX1_leastOneOf_43 : decode cX1_leastOneOf 43 = .ok (.iaload, 1) := by decide +kernel
theorem dX1_leastOneOf_44 : decode cX1_leastOneOf 44 = .ok (.iconst (-1), 1) := by decide +kernel
theorem dX1_leastOneOf_45 : decode cX1_leastOneOf 45 = .ok (.if_icmp .ne 13, 3) := by decide +kernel
theorem dX1_leastOneOf_48 : decode cX1_leastOneOf 48 = .ok (.aload_n 0, 1) := by decide +kernel
theorem dX1_leastOneOf_49 : decode cX1_leastOneOf 49 = .ok (.getfield 36, 3) := by decide +kernel
theorem dX1_leastOneOf_52 : decode cX1_leastOneOf 52 = .ok (.iload_n 2, 1) := by decide +kernel
theorem dX1_leastOneOf_53 : decode cX1_leastOneOf 53 = .ok (.aload_n 1, 1) := by decide +kernel
theorem dX1_leastOneOf_54 : decode cX1_leastOneOf 54 = .ok (.getfield 70, 3) := by decide +kernel
theorem dX1_leastOneOf_57 : decode cX1_leastOneOf 57 = .ok (.iastore, 1) := by decide +kernel
theorem dX1_leastOneOf_58 : decode cX1_leastOneOf 58 = .ok (.aload_n 0, 1) := by decide +kernel
theorem dX1_leastOneOf_59 : decode cX1_leastOneOf 59 = .ok (.getfield 36, 3) := by decide +kernel
theorem dX1_leastOneOf_62 : decode cX1_leastOneOf 62 = .ok (.iload_n 2, 1) := by decide +kernel
theorem dX1_leastOneOf_63 : decode cX1_leastOneOf 63 = .ok (.iaload, 1) := by decide +kernel
theorem dX1_leastOneOf_64 : decode cX1_leastOneOf 64 = .ok (.ireturn, 1) := by decide +kernel
theorem dX2_init_0 : decode cX2_init 0 = .ok (.aload_n 0, 1) := by decide +kernel
theorem dX2_init_1 : decode cX2_init 1 = .ok (.invokespecial 1, 3) := by decide +kernel
theorem dX2_init_4 : decode cX2_init 4 = .ok (.aload_n 0, 1) := by decide +kernel
theorem dX2_init_5 : decode cX2_init 5 = .ok (.aload_n 1, 1) := by decide +kernel
theorem dX2_init_6 : decode cX2_init 6 = .ok (.putfield 7, 3) := by decide +kernel
theorem dX2_init_9 : decode cX2_init 9 = .ok (.aload_n 0, 1) := by decide +kernel
theorem dX2_init_10 : decode cX2_init 10 = .ok (.iload_n 2, 1) := by decide +kernel
theorem dX2_init_11 : decode cX2_init 11 = .ok (.putfield 13, 3) := by decide +kernel
theorem dX2_init_14 : decode cX2_init 14 = .ok (.aload_n 0, 1) := by decide +kernel
theorem dX2_init_15 : decode cX2_init 15 = .ok (.iload_n 3, 1) := by decide +kernel
theorem dX2_init_16 : decode cX2_init 16 = .ok (.putfield 17, 3) := by decide +kernel
theorem dX2_init_19 : decode cX2_init 19 = .ok (.aload_n 0, 1) := by decide +kernel
theorem dX2_init_20 : decode cX2_init 20 = .ok (.iload 4, 2) := by decide +kernel
theorem dX2_init_22 : decode cX2_init 22 = .ok (.putfield 20, 3) := by decide +kernel
theorem dX2_init_25 : decode cX2_init 25 = .ok (.aload_n 0, 1) := by decide +kernel
theorem dX2_init_26 : decode cX2_init 26 = .ok (.iload 5, 2) := by decide +kernel
theorem dX2_init_28 : decode cX2_init 28 = .ok (.putfield 23, 3) := by decide +kernel
theorem dX2_init_31 : decode cX2_init 31 = .ok (.aload_n 0, 1) := by decide +kernel
theorem dX2_init_32 : decode cX2_init 32 = .ok (.iload 6, 2) := by decide +kernel
theorem dX2_init_34 : decode cX2_init 34 = .ok (.putfield 26, 3) := by decide +kernel
theorem dX2_init_37 : decode cX2_init 37 = .ok (.aload_n 0, 1) := by decide +kernel
theorem dX2_init_38 : decode cX2_init 38 = .ok (.iload 7, 2) := by decide +kernel
theorem dX2_init_40 : decode cX2_init 40 = .ok (.putfield 29, 3) := by decide +kernel
theorem dX2_init_43 : decode cX2_init 43 = .ok (.return_, 1) := by decide +kernel
theorem dX2_isNotice_0 : decode cX2_isNotice 0 = .ok (.aload_n 0, 1) := by decide +kernel
theorem dX2_isNotice_1 : decode cX2_isNotice 1 = .ok (.getfield 7, 3) := by decide +kernel
theorem dX2_isNotice_4 : decode cX2_isNotice 4 = .ok (.ifnull 7, 3) := by decide +kernel
theorem dX2_isNotice_7 : decode cX2_isNotice 7 = .ok (.iconst 1, 1) := by decide +kernel
theorem dX2_isNotice_8 : decode cX2_isNotice 8 = .ok (.goto 4, 3) := by decide +kernel
theorem dX2_isNotice_11 : decode cX2_isNotice 11 = .ok (.iconst 0, 1) := by decide +kernel
theorem dX2_isNotice_12 : decode cX2_isNotice 12 = .ok (.ireturn, 1) := by decide +kernel
theorem dX2_isWordOf_0 : decode cX2_isWordOf 0 = .ok (.aload_n 0, 1) := by decide +kernel
theorem dX2_isWordOf_1 : decode cX2_isWordOf 1 = .ok (.getfield 7, 3) := by decide +kernel
theorem dX2_isWordOf_4 : decode cX2_isWordOf 4 = .ok (.ifnull 21, 3) := by decide +kernel
theorem dX2_isWordOf_7 : decode cX2_isWordOf 7 = .ok (.aload_n 0, 1) := by decide +kernel
theorem dX2_isWordOf_8 : decode cX2_isWordOf 8 = .ok (.getfield 7, 3) := by decide +kernel
theorem dX2_isWordOf_11 : decode cX2_isWordOf 11 = .ok (.getfield 33, 3) := by decide +kernel
theorem dX2_isWordOf_14 : decode cX2_isWordOf 14 = .ok (.aload_n 1, 1) := by decide +kernel
theorem dX2_isWordOf_15 : decode cX2_isWordOf 15 = .ok (.getfield 33, 3) := by decide +kernel
theorem dX2_isWordOf_18 : decode cX2_isWordOf 18 = .ok (.if_icmp .ne 7, 3) := by decide +kernel
theorem dX2_isWordOf_21 : decode cX2_isWordOf 21 = .ok (.iconst 1, 1) := by decide +kernel
theorem dX2_isWordOf_22 : decode cX2_isWordOf 22 = .ok (.goto 4, 3) := by decide +kernel
theorem dX2_isWordOf_25 : decode cX2_isWordOf 25 = .ok (.iconst 0, 1) := by decide +kernel
theorem dX2_isWordOf_26 : decode cX2_isWordOf 26 = .ok (.ireturn, 1) := by decide +kernel
theorem dX2_hasSlot_0 : decode cX2_hasSlot 0 = .ok (.aload_n 0, 1) := by decide +kernel
theorem dX2_hasSlot_1 : decode cX2_hasSlot 1 = .ok (.getfield 13, 3) := by decide +kernel
theorem dX2_hasSlot_4 : decode cX2_hasSlot 4 = .ok (.iload_n 1, 1) := by decide +kernel
theorem dX2_hasSlot_5 : decode cX2_hasSlot 5 = .ok (.if_icmp .ne 23, 3) := by decide +kernel
theorem dX2_hasSlot_8 : decode cX2_hasSlot 8 = .ok (.aload_n 0, 1) := by decide +kernel
theorem dX2_hasSlot_9 : decode cX2_hasSlot 9 = .ok (.getfield 17, 3) := by decide +kernel
theorem dX2_hasSlot_12 : decode cX2_hasSlot 12 = .ok (.iload_n 2, 1) := by decide +kernel
theorem dX2_hasSlot_13 : decode cX2_hasSlot 13 = .ok (.if_icmp .gt 15, 3) := by decide +kernel
theorem dX2_hasSlot_16 : decode cX2_hasSlot 16 = .ok (.iload_n 2, 1) := by decide +kernel
theorem dX2_hasSlot_17 : decode cX2_hasSlot 17 = .ok (.aload_n 0, 1) := by decide +kernel
theorem dX2_hasSlot_18 : decode cX2_hasSlot 18 = .ok (.getfield 20, 3) := by decide +kernel
theorem dX2_hasSlot_21 : decode cX2_hasSlot 21 = .ok (.if_icmp .ge 7, 3) := by decide +kernel
theorem dX2_hasSlot_24 : decode cX2_hasSlot 24 = .ok (.iconst 1, 1) := by decide +kernel
theorem dX2_hasSlot_25 : decode cX2_hasSlot 25 = .ok (.goto 4, 3) := by decide +kernel
theorem dX2_hasSlot_28 : decode cX2_hasSlot 28 = .ok (.iconst 0, 1) := by decide +kernel
theorem dX2_hasSlot_29 : decode cX2_hasSlot 29 = .ok (.ireturn, 1) := by decide +kernel
theorem dX2_trust_0 : decode cX2_trust 0 = .ok (.aload_n 0, 1) := by decide +kernel
theorem dX2_trust_1 : decode cX2_trust 1 = .ok (.getfield 7, 3) := by decide +kernel
theorem dX2_trust_4 : decode cX2_trust 4 = .ok (.ifnonnull 7, 3) := by decide +kernel
theorem dX2_trust_7 : decode cX2_trust 7 = .ok (.iconst 0, 1) := by decide +kernel
theorem dX2_trust_8 : decode cX2_trust 8 = .ok (.goto 10, 3) := by decide +kernel
theorem dX2_trust_11 : decode cX2_trust 11 = .ok (.aload_n 0, 1) := by decide +kernel
theorem dX2_trust_12 : decode cX2_trust 12 = .ok (.getfield 7, 3) := by decide +kernel
theorem dX2_trust_15 : decode cX2_trust 15 = .ok (.getfield 38, 3) := by decide +kernel
theorem dX2_trust_18 : decode cX2_trust 18 = .ok (.ireturn, 1) := by decide +kernel
theorem dX3_init_0 : decode cX3_init 0 = .ok (.aload_n 0, 1) := by decide +kernel
theorem dX3_init_1 : decode cX3_init 1 = .ok (.invokespecial 3, 3) := by decide +kernel
theorem dX3_init_4 : decode cX3_init 4 = .ok (.aload_n 0, 1) := by decide +kernel
theorem dX3_init_5 : decode cX3_init 5 = .ok (.iconst 1, 1) := by decide +kernel
theorem dX3_init_6 : decode cX3_init 6 = .ok (.putfield 9, 3) := by decide +kernel
theorem dX3_init_9 : decode cX3_init 9 = .ok (.aload_n 0, 1) := by decide +kernel
theorem dX3_init_10 : decode cX3_init 10 = .ok (.iconst 0, 1) := by decide +kernel
theorem dX3_init_11 : decode cX3_init 11 = .ok (.putfield 15, 3) := by decide +kernel
theorem dX3_init_14 : decode cX3_init 14 = .ok (.aload_n 0, 1) := by decide +kernel
theorem dX3_init_15 : decode cX3_init 15 = .ok (.iconst 0, 1) := by decide +kernel
theorem dX3_init_16 : decode cX3_init 16 = .ok (.putfield 18, 3) := by decide +kernel
theorem dX3_init_19 : decode cX3_init 19 = .ok (.aload_n 0, 1) := by decide +kernel
theorem dX3_init_20 : decode cX3_init 20 = .ok (.bipush 6, 2) := by decide +kernel
theorem dX3_init_22 : decode cX3_init 22 = .ok (.anewarray 21, 3) := by decide +kernel
theorem dX3_init_25 : decode cX3_init 25 = .ok (.putfield 23, 3) := by decide +kernel
theorem dX3_init_28 : decode cX3_init 28 = .ok (.aload_n 0, 1) := by decide +kernel
theorem dX3_init_29 : decode cX3_init 29 = .ok (.bipush 6, 2) := by decide +kernel
theorem dX3_init_31 : decode cX3_init 31 = .ok (.anewarray 21, 3) := by decide +kernel
theorem dX3_init_34 : decode cX3_init 34 = .ok (.putfield 27, 3) := by decide +kernel
theorem dX3_init_37 : decode cX3_init 37 = .ok (.aload_n 0, 1) := by decide +kernel
theorem dX3_init_38 : decode cX3_init 38 = .ok (.sipush 300, 3) := by decide +kernel
theorem dX3_init_41 : decode cX3_init 41 = .ok (.anewarray 30, 3) := by decide +kernel
theorem dX3_init_44 : decode cX3_init 44 = .ok (.putfield 32, 3) := by decide +kernel
theorem dX3_init_47 : decode cX3_init 47 = .ok (.return_, 1) := by decide +kernel
theorem dX3_hasChannel_0 : decode cX3_hasChannel 0 = .ok (.iload_n 1, 1) := by decide +kernel
theorem dX3_hasChannel_1 : decode cX3_hasChannel 1 = .ok (.ifCond .lt 15, 3) := by decide +kernel
theorem dX3_hasChannel_4 : decode cX3_hasChannel 4 = .ok (.iload_n 1, 1) := by decide +kernel
theorem dX3_hasChannel_5 : decode cX3_hasChannel 5 = .ok (.aload_n 0, 1) := by decide +kernel
theorem dX3_hasChannel_6 : decode cX3_hasChannel 6 = .ok (.getfield 9, 3) := by decide +kernel
theorem dX3_hasChannel_9 : decode cX3_hasChannel 9 = .ok (.if_icmp .ge 7, 3) := by decide +kernel
theorem dX3_hasChannel_12 : decode cX3_hasChannel 12 = .ok (.iconst 1, 1) := by decide +kernel
theorem dX3_hasChannel_13 : decode cX3_hasChannel 13 = .ok (.goto 4, 3) := by decide +kernel
theorem dX3_hasChannel_16 : decode cX3_hasChannel 16 = .ok (.iconst 0, 1) := by decide +kernel
theorem dX3_hasChannel_17 : decode cX3_hasChannel 17 = .ok (.ireturn, 1) := by decide +kernel
theorem dX3_isKnown_0 : decode cX3_isKnown 0 = .ok (.iload_n 1, 1) := by decide +kernel
theorem dX3_isKnown_1 : decode cX3_isKnown 1 = .ok (.ifCond .lt 15, 3) := by decide +kernel
theorem dX3_isKnown_4 : decode cX3_isKnown 4 = .ok (.iload_n 1, 1) := by decide +kernel
theorem dX3_isKnown_5 : decode cX3_isKnown 5 = .ok (.aload_n 0, 1) := by decide +kernel
theorem dX3_isKnown_6 : decode cX3_isKnown 6 = .ok (.getfield 18, 3) := by decide +kernel
theorem dX3_isKnown_9 : decode cX3_isKnown 9 = .ok (.if_icmp .gt 7, 3) := by decide +kernel
theorem dX3_isKnown_12 : decode cX3_isKnown 12 = .ok (.iconst 1, 1) := by decide +kernel
theorem dX3_isKnown_13 : decode cX3_isKnown 13 = .ok (.goto 4, 3) := by decide +kernel
theorem dX3_isKnown_16 : decode cX3_isKnown 16 = .ok (.iconst 0, 1) := by decide +kernel
theorem dX3_isKnown_17 : decode cX3_isKnown 17 = .ok (.ireturn, 1) := by decide +kernel
theorem dX3_sourceAt_0 : decode cX3_sourceAt 0 = .ok (.iload_n 1, 1) := by decide +kernel
theorem dX3_sourceAt_1 : decode cX3_sourceAt 1 = .ok (.ifCond .lt 29, 3) := by decide +kernel
theorem dX3_sourceAt_4 : decode cX3_sourceAt 4 = .ok (.iload_n 1, 1) := by decide +kernel
theorem dX3_sourceAt_5 : decode cX3_sourceAt 5 = .ok (.aload_n 0, 1) := by decide +kernel
theorem dX3_sourceAt_6 : decode cX3_sourceAt 6 = .ok (.getfield 15, 3) := by decide +kernel
theorem dX3_sourceAt_9 : decode cX3_sourceAt 9 = .ok (.if_icmp .ge 21, 3) := by decide +kernel
theorem dX3_sourceAt_12 : decode cX3_sourceAt 12 = .ok (.iload_n 1, 1) := by decide +kernel
theorem dX3_sourceAt_13 : decode cX3_sourceAt 13 = .ok (.aload_n 0, 1) := by decide +kernel
theorem dX3_sourceAt_14 : decode cX3_sourceAt 14 = .ok (.getfield 23, 3) := by decide +kernel
theorem dX3_sourceAt_17 : decode cX3_sourceAt 17 = .ok (.arraylength, 1) := by decide +kernel
theorem dX3_sourceAt_18 : decode cX3_sourceAt 18 = .ok (.if_icmp .ge 12, 3) := by decide +kernel
theorem dX3_sourceAt_21 : decode cX3_sourceAt 21 = .ok (.aload_n 0, 1) := by decide +kernel
theorem dX3_sourceAt_22 : decode cX3_sourceAt 22 = .ok (.getfield 23, 3) := by decide +kernel
theorem dX3_sourceAt_25 : decode cX3_sourceAt 25 = .ok (.iload_n 1, 1) := by decide +kernel
theorem dX3_sourceAt_26 : decode cX3_sourceAt 26 = .ok (.aaload, 1) := by decide +kernel
theorem dX3_sourceAt_27 : decode cX3_sourceAt 27 = .ok (.goto 4, 3) := by decide +kernel
theorem dX3_sourceAt_30 : decode cX3_sourceAt 30 = .ok (.aconst_null, 1) := by decide +kernel
theorem dX3_sourceAt_31 : decode cX3_sourceAt 31 = .ok (.areturn, 1) := by decide +kernel
theorem dX3_rankedAt_0 : decode cX3_rankedAt 0 = .ok (.iload_n 1, 1) := by decide +kernel
theorem dX3_rankedAt_1 : decode cX3_rankedAt 1 = .ok (.ifCond .lt 29, 3) := by decide +kernel
theorem dX3_rankedAt_4 : decode cX3_rankedAt 4 = .ok (.iload_n 1, 1) := by decide +kernel
theorem dX3_rankedAt_5 : decode cX3_rankedAt 5 = .ok (.aload_n 0, 1) := by decide +kernel
theorem dX3_rankedAt_6 : decode cX3_rankedAt 6 = .ok (.getfield 15, 3) := by decide +kernel
theorem dX3_rankedAt_9 : decode cX3_rankedAt 9 = .ok (.if_icmp .ge 21, 3) := by decide +kernel
theorem dX3_rankedAt_12 : decode cX3_rankedAt 12 = .ok (.iload_n 1, 1) := by decide +kernel
theorem dX3_rankedAt_13 : decode cX3_rankedAt 13 = .ok (.aload_n 0, 1) := by decide +kernel
theorem dX3_rankedAt_14 : decode cX3_rankedAt 14 = .ok (.getfield 27, 3) := by decide +kernel
theorem dX3_rankedAt_17 : decode cX3_rankedAt 17 = .ok (.arraylength, 1) := by decide +kernel
theorem dX3_rankedAt_18 : decode cX3_rankedAt 18 = .ok (.if_icmp .ge 12, 3) := by decide +kernel
theorem dX3_rankedAt_21 : decode cX3_rankedAt 21 = .ok (.aload_n 0, 1) := by decide +kernel
theorem dX3_rankedAt_22 : decode cX3_rankedAt 22 = .ok (.getfield 27, 3) := by decide +kernel
theorem dX3_rankedAt_25 : decode cX3_rankedAt 25 = .ok (.iload_n 1, 1) := by decide +kernel
theorem dX3_rankedAt_26 : decode cX3_rankedAt 26 = .ok (.aaload, 1) := by decide +kernel
theorem dX3_rankedAt_27 : decode cX3_rankedAt 27 = .ok (.goto 4, 3) := by decide +kernel
theorem dX3_rankedAt_30 : decode cX3_rankedAt 30 = .ok (.aconst_null, 1) := by decide +kernel
theorem dX3_rankedAt_31 : decode cX3_rankedAt 31 = .ok (.areturn, 1) := by decide +kernel
theorem dX3_factAt_0 : decode cX3_factAt 0 = .ok (.iload_n 1, 1) := by decide +kernel
theorem dX3_factAt_1 : decode cX3_factAt 1 = .ok (.ifCond .lt 29, 3) := by decide +kernel
theorem dX3_factAt_4 : decode cX3_factAt 4 = .ok (.iload_n 1, 1) := by decide +kernel
theorem dX3_factAt_5 : decode cX3_factAt 5 = .ok (.aload_n 0, 1) := by decide +kernel
theorem dX3_factAt_6 : decode cX3_factAt 6 = .ok (.getfield 18, 3) := by decide +kernel
theorem dX3_factAt_9 : decode cX3_factAt 9 = .ok (.if_icmp .ge 21, 3) := by decide +kernel
theorem dX3_factAt_12 : decode cX3_factAt 12 = .ok (.iload_n 1, 1) := by decide +kernel
theorem dX3_factAt_13 : decode cX3_factAt 13 = .ok (.aload_n 0, 1) := by decide +kernel
theorem dX3_factAt_14 : decode cX3_factAt 14 = .ok (.getfield 32, 3) := by decide +kernel
theorem dX3_factAt_17 : decode cX3_factAt 17 = .ok (.arraylength, 1) := by decide +kernel
theorem dX3_factAt_18 : decode cX3_factAt 18 = .ok (.if_icmp .ge 12, 3) := by decide +kernel
theorem dX3_factAt_21 : decode cX3_factAt 21 = .ok (.aload_n 0, 1) := by decide +kernel
theorem dX3_factAt_22 : decode cX3_factAt 22 = .ok (.getfield 32, 3) := by decide +kernel
theorem dX3_factAt_25 : decode cX3_factAt 25 = .ok (.iload_n 1, 1) := by decide +kernel
theorem dX3_factAt_26 : decode cX3_factAt 26 = .ok (.aaload, 1) := by decide +kernel
theorem dX3_factAt_27 : decode cX3_factAt 27 = .ok (.goto 4, 3) := by decide +kernel
theorem dX3_factAt_30 : decode cX3_factAt 30 = .ok (.aconst_null, 1) := by decide +kernel
theorem dX3_factAt_31 : decode cX3_factAt 31 = .ok (.areturn, 1) := by decide +kernel
theorem dX3_addSource_0 : decode cX3_addSource 0 = .ok (.aload_n 0, 1) := by decide +kernel
theorem dX3_addSource_1 : decode cX3_addSource 1 = .ok (.getfield 15, 3) := by decide +kernel
theorem dX3_addSource_4 : decode cX3_addSource 4 = .ok (.aload_n 0, 1) := by decide +kernel
theorem dX3_addSource_5 : decode cX3_addSource 5 = .ok (.getfield 23, 3) := by decide +kernel
theorem dX3_addSource_8 : decode cX3_addSource 8 = .ok (.arraylength, 1) := by decide +kernel
theorem dX3_addSource_9 : decode cX3_addSource 9 = .ok (.if_icmp .ge 15, 3) := by decide +kernel
theorem dX3_addSource_12 : decode cX3_addSource 12 = .ok (.aload_n 0, 1) := by decide +kernel
theorem dX3_addSource_13 : decode cX3_addSource 13 = .ok (.getfield 15, 3) := by decide +kernel
theorem dX3_addSource_16 : decode cX3_addSource 16 = .ok (.aload_n 0, 1) := by decide +kernel
theorem dX3_addSource_17 : decode cX3_addSource 17 = .ok (.getfield 27, 3) := by decide +kernel
theorem dX3_addSource_20 : decode cX3_addSource 20 = .ok (.arraylength, 1) := by decide +kernel
theorem dX3_addSource_21 : decode cX3_addSource 21 = .ok (.if_icmp .lt 5, 3) := by decide +kernel
theorem dX3_addSource_24 : decode cX3_addSource 24 = .ok (.iconst (-1), 1) := by decide +kernel
theorem dX3_addSource_25 : decode cX3_addSource 25 = .ok (.ireturn, 1) := by decide +kernel
theorem dX3_addSource_26 : decode cX3_addSource 26 = .ok (.new 21, 3) := by decide +kernel
theorem dX3_addSource_29 : decode cX3_addSource 29 = .ok (.dup, 1) := by decide +kernel
theorem dX3_addSource_30 : decode cX3_addSource 30 = .ok (.aload_n 0, 1) := by decide +kernel
theorem dX3_addSource_31 : decode cX3_addSource 31 = .ok (.getfield 15, 3) := by decide +kernel
theorem dX3_addSource_34 : decode cX3_addSource 34 = .ok (.iload_n 1, 1) := by decide +kernel
theorem dX3_addSource_35 : decode cX3_addSource 35 = .ok (.invokespecial 36, 3) := by decide +kernel
theorem dX3_addSource_38 : decode cX3_addSource 38 = .ok (.astore_n 2, 1) := by decide +kernel
theorem dX3_addSource_39 : decode cX3_addSource 39 = .ok (.aload_n 0, 1) := by decide +kernel
theorem dX3_addSource_40 : decode cX3_addSource 40 = .ok (.getfield 23, 3) := by decide +kernel
theorem dX3_addSource_43 : decode cX3_addSource 43 = .ok (.aload_n 0, 1) := by decide +kernel
theorem dX3_addSource_44 : decode cX3_addSource 44 = .ok (.getfield 15, 3) := by decide +kernel
theorem dX3_addSource_47 : decode cX3_addSource 47 = .ok (.aload_n 2, 1) := by decide +kernel
theorem dX3_addSource_48 : decode cX3_addSource 48 = .ok (.aastore, 1) := by decide +kernel
theorem dX3_addSource_49 : decode cX3_addSource 49 = .ok (.aload_n 0, 1) := by decide +kernel
theorem dX3_addSource_50 : decode cX3_addSource 50 = .ok (.getfield 15, 3) := by decide +kernel
theorem dX3_addSource_53 : decode cX3_addSource 53 = .ok (.istore_n 3, 1) := by decide +kernel
theorem dX3_addSource_54 : decode cX3_addSource 54 = .ok (.iload_n 3, 1) := by decide +kernel
theorem dX3_addSource_55 : decode cX3_addSource 55 = .ok (.ifCond .le 49, 3) := by decide +kernel
theorem dX3_addSource_58 : decode cX3_addSource 58 = .ok (.aload_n 0, 1) := by decide +kernel
theorem dX3_addSource_59 : decode cX3_addSource 59 = .ok (.getfield 27, 3) := by decide +kernel
theorem dX3_addSource_62 : decode cX3_addSource 62 = .ok (.iload_n 3, 1) := by decide +kernel
theorem dX3_addSource_63 : decode cX3_addSource 63 = .ok (.iconst 1, 1) := by decide +kernel
theorem dX3_addSource_64 : decode cX3_addSource 64 = .ok (.isub, 1) := by decide +kernel
theorem dX3_addSource_65 : decode cX3_addSource 65 = .ok (.aaload, 1) := by decide +kernel
theorem dX3_addSource_66 : decode cX3_addSource 66 = .ok (.ifnull 38, 3) := by decide +kernel
theorem dX3_addSource_69 : decode cX3_addSource 69 = .ok (.aload_n 0, 1) := by decide +kernel
theorem dX3_addSource_70 : decode cX3_addSource 70 = .ok (.getfield 27, 3) := by decide +kernel
theorem dX3_addSource_73 : decode cX3_addSource 73 = .ok (.iload_n 3, 1) := by decide +kernel
theorem dX3_addSource_74 : decode cX3_addSource 74 = .ok (.iconst 1, 1) := by decide +kernel
theorem dX3_addSource_75 : decode cX3_addSource 75 = .ok (.isub, 1) := by decide +kernel
theorem dX3_addSource_76 : decode cX3_addSource 76 = .ok (.aaload, 1) := by decide +kernel
theorem dX3_addSource_77 : decode cX3_addSource 77 = .ok (.aload_n 2, 1) := by decide +kernel
theorem dX3_addSource_78 : decode cX3_addSource 78 = .ok (.invokevirtual 39, 3) := by decide +kernel
theorem dX3_addSource_81 : decode cX3_addSource 81 = .ok (.ifCond .eq 23, 3) := by decide +kernel
theorem dX3_addSource_84 : decode cX3_addSource 84 = .ok (.aload_n 0, 1) := by decide +kernel
theorem dX3_addSource_85 : decode cX3_addSource 85 = .ok (.getfield 27, 3) := by decide +kernel
theorem dX3_addSource_88 : decode cX3_addSource 88 = .ok (.iload_n 3, 1) := by decide +kernel
theorem dX3_addSource_89 : decode cX3_addSource 89 = .ok (.aload_n 0, 1) := by decide +kernel
theorem dX3_addSource_90 : decode cX3_addSource 90 = .ok (.getfield 27, 3) := by decide +kernel
theorem dX3_addSource_93 : decode cX3_addSource 93 = .ok (.iload_n 3, 1) := by decide +kernel
theorem dX3_addSource_94 : decode cX3_addSource 94 = .ok (.iconst 1, 1) := by decide +kernel
theorem dX3_addSource_95 : decode cX3_addSource 95 = .ok (.isub, 1) := by decide +kernel
theorem dX3_addSource_96 : decode cX3_addSource 96 = .ok (.aaload, 1) := by decide +kernel
theorem dX3_addSource_97 : decode cX3_addSource 97 = .ok (.aastore, 1) := by decide +kernel
theorem dX3_addSource_98 : decode cX3_addSource 98 = .ok (.iinc 3 (-1), 3) := by decide +kernel
theorem dX3_addSource_101 : decode cX3_addSource 101 = .ok (.goto (-47), 3) := by decide +kernel
theorem dX3_addSource_104 : decode cX3_addSource 104 = .ok (.aload_n 0, 1) := by decide +kernel
theorem dX3_addSource_105 : decode cX3_addSource 105 = .ok (.getfield 27, 3) := by decide +kernel
theorem dX3_addSource_108 : decode cX3_addSource 108 = .ok (.iload_n 3, 1) := by decide +kernel
theorem dX3_addSource_109 : decode cX3_addSource 109 = .ok (.aload_n 2, 1) := by decide +kernel
theorem dX3_addSource_110 : decode cX3_addSource 110 = .ok (.aastore, 1) := by decide +kernel
theorem dX3_addSource_111 : decode cX3_addSource 111 = .ok (.aload_n 0, 1) := by decide +kernel
theorem dX3_addSource_112 : decode cX3_addSource 112 = .ok (.dup, 1) := by decide +kernel
theorem dX3_addSource_113 : decode cX3_addSource 113 = .ok (.getfield 15, 3) := by decide +kernel
theorem dX3_addSource_116 : decode cX3_addSource 116 = .ok (.iconst 1, 1) := by decide +kernel
theorem dX3_addSource_117 : decode cX3_addSource 117 = .ok (.iadd, 1) := by decide +kernel
theorem dX3_addSource_118 : decode cX3_addSource 118 = .ok (.putfield 15, 3) := by decide +kernel
theorem dX3_addSource_121 : decode cX3_addSource 121 = .ok (.aload_n 2, 1) := by decide +kernel
theorem dX3_addSource_122 : decode cX3_addSource 122 = .ok (.getfield 43, 3) := by decide +kernel
theorem dX3_addSource_125 : decode cX3_addSource 125 = .ok (.ireturn, 1) := by decide +kernel
theorem dX3_tell_0 : decode cX3_tell 0 = .ok (.aload_n 0, 1) := by decide +kernel
theorem dX3_tell_1 : decode cX3_tell 1 = .ok (.getfield 18, 3) := by decide +kernel
theorem dX3_tell_4 : decode cX3_tell 4 = .ok (.aload_n 0, 1) := by decide +kernel
theorem dX3_tell_5 : decode cX3_tell 5 = .ok (.getfield 32, 3) := by decide +kernel
theorem dX3_tell_8 : decode cX3_tell 8 = .ok (.arraylength, 1) := by decide +kernel
theorem dX3_tell_9 : decode cX3_tell 9 = .ok (.if_icmp .lt 5, 3) := by decide +kernel
theorem dX3_tell_12 : decode cX3_tell 12 = .ok (.iconst (-1), 1) := by decide +kernel
theorem dX3_tell_13 : decode cX3_tell 13 = .ok (.ireturn, 1) := by decide +kernel
theorem dX3_tell_14 : decode cX3_tell 14 = .ok (.aload_n 0, 1) := by decide +kernel
theorem dX3_tell_15 : decode cX3_tell 15 = .ok (.getfield 32, 3) := by decide +kernel
theorem dX3_tell_18 : decode cX3_tell 18 = .ok (.aload_n 0, 1) := by decide +kernel
theorem dX3_tell_19 : decode cX3_tell 19 = .ok (.getfield 18, 3) := by decide +kernel
theorem dX3_tell_22 : decode cX3_tell 22 = .ok (.aload_n 1, 1) := by decide +kernel
theorem dX3_tell_23 : decode cX3_tell 23 = .ok (.aastore, 1) := by decide +kernel
theorem dX3_tell_24 : decode cX3_tell 24 = .ok (.aload_n 0, 1) := by decide +kernel
theorem dX3_tell_25 : decode cX3_tell 25 = .ok (.dup, 1) := by decide +kernel
theorem dX3_tell_26 : decode cX3_tell 26 = .ok (.getfield 18, 3) := by decide +kernel
theorem dX3_tell_29 : decode cX3_tell 29 = .ok (.iconst 1, 1) := by decide +kernel
theorem dX3_tell_30 : decode cX3_tell 30 = .ok (.iadd, 1) := by decide +kernel
theorem dX3_tell_31 : decode cX3_tell 31 = .ok (.putfield 18, 3) := by decide +kernel
theorem dX3_tell_34 : decode cX3_tell 34 = .ok (.aload_n 0, 1) := by decide +kernel
theorem dX3_tell_35 : decode cX3_tell 35 = .ok (.getfield 18, 3) := by decide +kernel
theorem dX3_tell_38 : decode cX3_tell 38 = .ok (.iconst 1, 1) := by decide +kernel
theorem dX3_tell_39 : decode cX3_tell 39 = .ok (.isub, 1) := by decide +kernel
theorem dX3_tell_40 : decode cX3_tell 40 = .ok (.ireturn, 1) := by decide +kernel
theorem dX3_latestWord_0 : decode cX3_latestWord 0 = .ok (.iload 4, 2) := by decide +kernel
theorem dX3_latestWord_2 : decode cX3_latestWord 2 = .ok (.iconst 1, 1) := by decide +kernel
theorem dX3_latestWord_3 : decode cX3_latestWord 3 = .ok (.isub, 1) := by decide +kernel
theorem dX3_latestWord_4 : decode cX3_latestWord 4 = .ok (.istore 5, 2) := by decide +kernel
theorem dX3_latestWord_6 : decode cX3_latestWord 6 = .ok (.iload 5, 2) := by decide +kernel
theorem dX3_latestWord_8 : decode cX3_latestWord 8 = .ok (.ifCond .lt 44, 3) := by decide +kernel
theorem dX3_latestWord_11 : decode cX3_latestWord 11 = .ok (.aload_n 0, 1) := by decide +kernel
theorem dX3_latestWord_12 : decode cX3_latestWord 12 = .ok (.iload 5, 2) := by decide +kernel
theorem dX3_latestWord_14 : decode cX3_latestWord 14 = .ok (.invokevirtual 46, 3) := by decide +kernel
theorem dX3_latestWord_17 : decode cX3_latestWord 17 = .ok (.astore 6, 2) := by decide +kernel
theorem dX3_latestWord_19 : decode cX3_latestWord 19 = .ok (.aload 6, 2) := by decide +kernel
theorem dX3_latestWord_21 : decode cX3_latestWord 21 = .ok (.ifnull 25, 3) := by decide +kernel
theorem dX3_latestWord_24 : decode cX3_latestWord 24 = .ok (.aload 6, 2) := by decide +kernel
theorem dX3_latestWord_26 : decode cX3_latestWord 26 = .ok (.aload_n 1, 1) := by decide +kernel
theorem dX3_latestWord_27 : decode cX3_latestWord 27 = .ok (.invokevirtual 50, 3) := by decide +kernel
theorem dX3_latestWord_30 : decode cX3_latestWord 30 = .ok (.ifCond .eq 16, 3) := by decide +kernel
theorem dX3_latestWord_33 : decode cX3_latestWord 33 = .ok (.aload 6, 2) := by decide +kernel
theorem dX3_latestWord_35 : decode cX3_latestWord 35 = .ok (.iload_n 2, 1) := by decide +kernel
theorem dX3_latestWord_36 : decode cX3_latestWord 36 = .ok (.iload_n 3, 1) := by decide +kernel
theorem dX3_latestWord_37 : decode cX3_latestWord 37 = .ok (.invokevirtual 53, 3) := by decide +kernel
theorem dX3_latestWord_40 : decode cX3_latestWord 40 = .ok (.ifCond .eq 6, 3) := by decide +kernel
theorem dX3_latestWord_43 : decode cX3_latestWord 43 = .ok (.iload 5, 2) := by decide +kernel
theorem dX3_latestWord_45 : decode cX3_latestWord 45 = .ok (.ireturn, 1) := by decide +kernel
theorem dX3_latestWord_46 : decode cX3_latestWord 46 = .ok (.iinc 5 (-1), 3) := by decide +kernel
theorem dX3_latestWord_49 : decode cX3_latestWord 49 = .ok (.goto (-43), 3) := by decide +kernel
theorem dX3_latestWord_52 : decode cX3_latestWord 52 = .ok (.iconst (-1), 1) := by decide +kernel
theorem dX3_latestWord_53 : decode cX3_latestWord 53 = .ok (.ireturn, 1) := by decide +kernel
theorem dX4_init_0 : decode cX4_init 0 = .ok (.aload_n 0, 1) := by decide +kernel
theorem dX4_init_1 : decode cX4_init 1 = .ok (.invokespecial 3, 3) := by decide +kernel
theorem dX4_init_4 : decode cX4_init 4 = .ok (.aload_n 0, 1) := by decide +kernel
theorem dX4_init_5 : decode cX4_init 5 = .ok (.iconst 0, 1) := by decide +kernel
theorem dX4_init_6 : decode cX4_init 6 = .ok (.putfield 9, 3) := by decide +kernel
theorem dX4_init_9 : decode cX4_init 9 = .ok (.aload_n 0, 1) := by decide +kernel
theorem dX4_init_10 : decode cX4_init 10 = .ok (.iconst (-1), 1) := by decide +kernel
theorem dX4_init_11 : decode cX4_init 11 = .ok (.putfield 15, 3) := by decide +kernel
theorem dX4_init_14 : decode cX4_init 14 = .ok (.aload_n 0, 1) := by decide +kernel
theorem dX4_init_15 : decode cX4_init 15 = .ok (.iconst 0, 1) := by decide +kernel
theorem dX4_init_16 : decode cX4_init 16 = .ok (.putfield 18, 3) := by decide +kernel
theorem dX4_init_19 : decode cX4_init 19 = .ok (.aload_n 0, 1) := by decide +kernel
theorem dX4_init_20 : decode cX4_init 20 = .ok (.iconst 0, 1) := by decide +kernel
theorem dX4_init_21 : decode cX4_init 21 = .ok (.putfield 21, 3) := by decide +kernel
theorem dX4_init_24 : decode cX4_init 24 = .ok (.aload_n 0, 1) := by decide +kernel
theorem dX4_init_25 : decode cX4_init 25 = .ok (.iconst 0, 1) := by decide +kernel
theorem dX4_init_26 : decode cX4_init 26 = .ok (.putfield 24, 3) := by decide +kernel
theorem dX4_init_29 : decode cX4_init 29 = .ok (.aload_n 0, 1) := by decide +kernel
theorem dX4_init_30 : decode cX4_init 30 = .ok (.bipush 14, 2) := by decide +kernel
theorem dX4_init_32 : decode cX4_init 32 = .ok (.anewarray 27, 3) := by decide +kernel
theorem dX4_init_35 : decode cX4_init 35 = .ok (.putfield 29, 3) := by decide +kernel
theorem dX4_init_38 : decode cX4_init 38 = .ok (.return_, 1) := by decide +kernel
theorem dX4_at_0 : decode cX4_at 0 = .ok (.iload_n 1, 1) := by decide +kernel
theorem dX4_at_1 : decode cX4_at 1 = .ok (.ifCond .lt 29, 3) := by decide +kernel
theorem dX4_at_4 : decode cX4_at 4 = .ok (.iload_n 1, 1) := by decide +kernel
theorem dX4_at_5 : decode cX4_at 5 = .ok (.aload_n 0, 1) := by decide +kernel
theorem dX4_at_6 : decode cX4_at 6 = .ok (.getfield 9, 3) := by decide +kernel
theorem dX4_at_9 : decode cX4_at 9 = .ok (.if_icmp .ge 21, 3) := by decide +kernel
theorem dX4_at_12 : decode cX4_at 12 = .ok (.iload_n 1, 1) := by decide +kernel
theorem dX4_at_13 : decode cX4_at 13 = .ok (.aload_n 0, 1) := by decide +kernel
theorem dX4_at_14 : decode cX4_at 14 = .ok (.getfield 29, 3) := by decide +kernel
theorem dX4_at_17 : decode cX4_at 17 = .ok (.arraylength, 1) := by decide +kernel
theorem dX4_at_18 : decode cX4_at 18 = .ok (.if_icmp .ge 12, 3) := by decide +kernel
theorem dX4_at_21 : decode cX4_at 21 = .ok (.aload_n 0, 1) := by decide +kernel
theorem dX4_at_22 : decode cX4_at 22 = .ok (.getfield 29, 3) := by decide +kernel
theorem dX4_at_25 : decode cX4_at 25 = .ok (.iload_n 1, 1) := by decide +kernel
theorem dX4_at_26 : decode cX4_at 26 = .ok (.aaload, 1) := by decide +kernel
theorem dX4_at_27 : decode cX4_at 27 = .ok (.goto 4, 3) := by decide +kernel
theorem dX4_at_30 : decode cX4_at 30 = .ok (.aconst_null, 1) := by decide +kernel
theorem dX4_at_31 : decode cX4_at 31 = .ok (.areturn, 1) := by decide +kernel
theorem dX4_gather_0 : decode cX4_gather 0 = .ok (.aload_n 0, 1) := by decide +kernel
theorem dX4_gather_1 : decode cX4_gather 1 = .ok (.iconst 0, 1) := by decide +kernel
theorem dX4_gather_2 : decode cX4_gather 2 = .ok (.putfield 9, 3) := by decide +kernel
theorem dX4_gather_5 : decode cX4_gather 5 = .ok (.aload_n 0, 1) := by decide +kernel
theorem dX4_gather_6 : decode cX4_gather 6 = .ok (.aload_n 1, 1) := by decide +kernel
theorem dX4_gather_7 : decode cX4_gather 7 = .ok (.getfield 33, 3) := by decide +kernel
theorem dX4_gather_10 : decode cX4_gather 10 = .ok (.putfield 15, 3) := by decide +kernel
theorem dX4_gather_13 : decode cX4_gather 13 = .ok (.iconst 0, 1) := by decide +kernel
theorem dX4_gather_14 : decode cX4_gather 14 = .ok (.istore 4, 2) := by decide +kernel
theorem dX4_gather_16 : decode cX4_gather 16 = .ok (.iload 4, 2) := by decide +kernel
theorem dX4_gather_18 : decode cX4_gather 18 = .ok (.aload_n 1, 1) := by decide +kernel
theorem dX4_gather_19 : decode cX4_gather 19 = .ok (.getfield 36, 3) := by decide +kernel
theorem dX4_gather_22 : decode cX4_gather 22 = .ok (.if_icmp .ge 108, 3) := by decide +kernel
theorem dX4_gather_25 : decode cX4_gather 25 = .ok (.aload_n 1, 1) := by decide +kernel
theorem dX4_gather_26 : decode cX4_gather 26 = .ok (.iload 4, 2) := by decide +kernel
theorem dX4_gather_28 : decode cX4_gather 28 = .ok (.invokevirtual 37, 3) := by decide +kernel
theorem dX4_gather_31 : decode cX4_gather 31 = .ok (.astore 5, 2) := by decide +kernel
theorem dX4_gather_33 : decode cX4_gather 33 = .ok (.aload 5, 2) := by decide +kernel
theorem dX4_gather_35 : decode cX4_gather 35 = .ok (.ifnonnull 7, 3) := by decide +kernel
theorem dX4_gather_38 : decode cX4_gather 38 = .ok (.iconst 0, 1) := by decide +kernel
theorem dX4_gather_39 : decode cX4_gather 39 = .ok (.goto 9, 3) := by decide +kernel
theorem dX4_gather_42 : decode cX4_gather 42 = .ok (.aload_n 2, 1) := by decide +kernel
theorem dX4_gather_43 : decode cX4_gather 43 = .ok (.aload 5, 2) := by decide +kernel
theorem dX4_gather_45 : decode cX4_gather 45 = .ok (.invokevirtual 41, 3) := by decide +kernel
theorem dX4_gather_48 : decode cX4_gather 48 = .ok (.istore 6, 2) := by decide +kernel
theorem dX4_gather_50 : decode cX4_gather 50 = .ok (.iload 6, 2) := by decide +kernel
theorem dX4_gather_52 : decode cX4_gather 52 = .ok (.ifCond .le 72, 3) := by decide +kernel
theorem dX4_gather_55 : decode cX4_gather 55 = .ok (.aload_n 0, 1) := by decide +kernel
theorem dX4_gather_56 : decode cX4_gather 56 = .ok (.getfield 9, 3) := by decide +kernel
theorem dX4_gather_59 : decode cX4_gather 59 = .ok (.aload_n 0, 1) := by decide +kernel
theorem dX4_gather_60 : decode cX4_gather 60 = .ok (.getfield 29, 3) := by decide +kernel
theorem dX4_gather_63 : decode cX4_gather 63 = .ok (.arraylength, 1) := by decide +kernel
theorem dX4_gather_64 : decode cX4_gather 64 = .ok (.if_icmp .lt 5, 3) := by decide +kernel
theorem dX4_gather_67 : decode cX4_gather 67 = .ok (.iconst 0, 1) := by decide +kernel
theorem dX4_gather_68 : decode cX4_gather 68 = .ok (.ireturn, 1) := by decide +kernel
theorem dX4_gather_69 : decode cX4_gather 69 = .ok (.aload_n 0, 1) := by decide +kernel
theorem dX4_gather_70 : decode cX4_gather 70 = .ok (.getfield 29, 3) := by decide +kernel
theorem dX4_gather_73 : decode cX4_gather 73 = .ok (.aload_n 0, 1) := by decide +kernel
theorem dX4_gather_74 : decode cX4_gather 74 = .ok (.getfield 9, 3) := by decide +kernel
theorem dX4_gather_77 : decode cX4_gather 77 = .ok (.aaload, 1) := by decide +kernel
theorem dX4_gather_78 : decode cX4_gather 78 = .ok (.ifnonnull 19, 3) := by decide +kernel
theorem dX4_gather_81 : decode cX4_gather 81 = .ok (.aload_n 0, 1) := by decide +kernel
theorem dX4_gather_82 : decode cX4_gather 82 = .ok (.getfield 29, 3) := by decide +kernel
theorem dX4_gather_85 : decode cX4_gather 85 = .ok (.aload_n 0, 1) := by decide +kernel
theorem dX4_gather_86 : decode cX4_gather 86 = .ok (.getfield 9, 3) := by decide +kernel
theorem dX4_gather_89 : decode cX4_gather 89 = .ok (.new 27, 3) := by decide +kernel
theorem dX4_gather_92 : decode cX4_gather 92 = .ok (.dup, 1) := by decide +kernel
theorem dX4_gather_93 : decode cX4_gather 93 = .ok (.invokespecial 47, 3) := by decide +kernel
theorem dX4_gather_96 : decode cX4_gather 96 = .ok (.aastore, 1) := by decide +kernel
theorem dX4_gather_97 : decode cX4_gather 97 = .ok (.aload_n 0, 1) := by decide +kernel
theorem dX4_gather_98 : decode cX4_gather 98 = .ok (.getfield 29, 3) := by decide +kernel
theorem dX4_gather_101 : decode cX4_gather 101 = .ok (.aload_n 0, 1) := by decide +kernel
theorem dX4_gather_102 : decode cX4_gather 102 = .ok (.getfield 9, 3) := by decide +kernel
theorem dX4_gather_105 : decode cX4_gather 105 = .ok (.aaload, 1) := by decide +kernel
theorem dX4_gather_106 : decode cX4_gather 106 = .ok (.aload 5, 2) := by decide +kernel
theorem dX4_gather_108 : decode cX4_gather 108 = .ok (.iload 6, 2) := by decide +kernel
theorem dX4_gather_110 : decode cX4_gather 110 = .ok (.aload_n 3, 1) := by decide +kernel
theorem dX4_gather_111 : decode cX4_gather 111 = .ok (.invokevirtual 48, 3) := by decide +kernel
theorem dX4_gather_114 : decode cX4_gather 114 = .ok (.aload_n 0, 1) := by decide +kernel
theorem dX4_gather_115 : decode cX4_gather 115 = .ok (.dup, 1) := by decide +kernel
theorem dX4_gather_116 : decode cX4_gather 116 = .ok (.getfield 9, 3) := by decide +kernel
theorem dX4_gather_119 : decode cX4_gather 119 = .ok (.iconst 1, 1) := by decide +kernel
theorem dX4_gather_120 : decode cX4_gather 120 = .ok (.iadd, 1) := by decide +kernel
theorem dX4_gather_121 : decode cX4_gather 121 = .ok (.putfield 9, 3) := by decide +kernel
theorem dX4_gather_124 : decode cX4_gather 124 = .ok (.iinc 4 1, 3) := by decide +kernel
theorem dX4_gather_127 : decode cX4_gather 127 = .ok (.goto (-111), 3) := by decide +kernel
theorem dX4_gather_130 : decode cX4_gather 130 = .ok (.iconst 1, 1) := by decide +kernel
theorem dX4_gather_131 : decode cX4_gather 131 = .ok (.ireturn, 1) := by decide +kernel
theorem dX4_prepare_0 : decode cX4_prepare 0 = .ok (.iconst 0, 1) := by decide +kernel
theorem dX4_prepare_1 : decode cX4_prepare 1 = .ok (.istore_n 3, 1) := by decide +kernel
theorem dX4_prepare_2 : decode cX4_prepare 2 = .ok (.iconst 0, 1) := by decide +kernel
theorem dX4_prepare_3 : decode cX4_prepare 3 = .ok (.istore 4, 2) := by decide +kernel
theorem dX4_prepare_5 : decode cX4_prepare 5 = .ok (.aload_n 0, 1) := by decide +kernel
theorem dX4_prepare_6 : decode cX4_prepare 6 = .ok (.getfield 9, 3) := by decide +kernel
theorem dX4_prepare_9 : decode cX4_prepare 9 = .ok (.iconst 1, 1) := by decide +kernel
theorem dX4_prepare_10 : decode cX4_prepare 10 = .ok (.isub, 1) := by decide +kernel
theorem dX4_prepare_11 : decode cX4_prepare 11 = .ok (.istore 5, 2) := by decide +kernel
theorem dX4_prepare_13 : decode cX4_prepare 13 = .ok (.iload 5, 2) := by decide +kernel
theorem dX4_prepare_15 : decode cX4_prepare 15 = .ok (.ifCond .lt 120, 3) := by decide +kernel
theorem dX4_prepare_18 : decode cX4_prepare 18 = .ok (.aload_n 0, 1) := by decide +kernel
theorem dX4_prepare_19 : decode cX4_prepare 19 = .ok (.iload 5, 2) := by decide +kernel
theorem dX4_prepare_21 : decode cX4_prepare 21 = .ok (.invokevirtual 52, 3) := by decide +kernel
theorem dX4_prepare_24 : decode cX4_prepare 24 = .ok (.astore 6, 2) := by decide +kernel
theorem dX4_prepare_26 : decode cX4_prepare 26 = .ok (.aload 6, 2) := by decide +kernel
theorem dX4_prepare_28 : decode cX4_prepare 28 = .ok (.ifnull 101, 3) := by decide +kernel
theorem dX4_prepare_31 : decode cX4_prepare 31 = .ok (.aload 6, 2) := by decide +kernel
theorem dX4_prepare_33 : decode cX4_prepare 33 = .ok (.aload_n 1, 1) := by decide +kernel
theorem dX4_prepare_34 : decode cX4_prepare 34 = .ok (.aload 6, 2) := by decide +kernel
theorem dX4_prepare_36 : decode cX4_prepare 36 = .ok (.iload_n 2, 1) := by decide +kernel
theorem dX4_prepare_37 : decode cX4_prepare 37 = .ok (.invokevirtual 55, 3) := by decide +kernel
theorem dX4_prepare_40 : decode cX4_prepare 40 = .ok (.putfield 59, 3) := by decide +kernel
theorem dX4_prepare_43 : decode cX4_prepare 43 = .ok (.aload 6, 2) := by decide +kernel
theorem dX4_prepare_45 : decode cX4_prepare 45 = .ok (.aload 6, 2) := by decide +kernel
theorem dX4_prepare_47 : decode cX4_prepare 47 = .ok (.getfield 59, 3) := by decide +kernel
theorem dX4_prepare_50 : decode cX4_prepare 50 = .ok (.ifCond .ne 12, 3) := by decide +kernel
theorem dX4_prepare_53 : decode cX4_prepare 53 = .ok (.aload 6, 2) := by decide +kernel
theorem dX4_prepare_55 : decode cX4_prepare 55 = .ok (.getfield 63, 3) := by decide +kernel
theorem dX4_prepare_58 : decode cX4_prepare 58 = .ok (.iload_n 2, 1) := by decide +kernel
theorem dX4_prepare_59 : decode cX4_prepare 59 = .ok (.if_icmp .lt 7, 3) := by decide +kernel
theorem dX4_prepare_62 : decode cX4_prepare 62 = .ok (.iconst 1, 1) := by decide +kernel
theorem dX4_prepare_63 : decode cX4_prepare 63 = .ok (.goto 4, 3) := by decide +kernel
theorem dX4_prepare_66 : decode cX4_prepare 66 = .ok (.iconst 0, 1) := by decide +kernel
theorem dX4_prepare_67 : decode cX4_prepare 67 = .ok (.putfield 66, 3) := by decide +kernel
theorem dX4_prepare_70 : decode cX4_prepare 70 = .ok (.iload_n 3, 1) := by decide +kernel
theorem dX4_prepare_71 : decode cX4_prepare 71 = .ok (.aload 6, 2) := by decide +kernel
theorem dX4_prepare_73 : decode cX4_prepare 73 = .ok (.getfield 59, 3) := by decide +kernel
theorem dX4_prepare_76 : decode cX4_prepare 76 = .ok (.ifCond .eq 7, 3) := by decide +kernel
theorem dX4_prepare_79 : decode cX4_prepare 79 = .ok (.iconst 1, 1) := by decide +kernel
theorem dX4_prepare_80 : decode cX4_prepare 80 = .ok (.goto 4, 3) := by decide +kernel
theorem dX4_prepare_83 : decode cX4_prepare 83 = .ok (.iconst 0, 1) := by decide +kernel
theorem dX4_prepare_84 : decode cX4_prepare 84 = .ok (.iadd, 1) := by decide +kernel
theorem dX4_prepare_85 : decode cX4_prepare 85 = .ok (.istore_n 3, 1) := by decide +kernel
theorem dX4_prepare_86 : decode cX4_prepare 86 = .ok (.iload 4, 2) := by decide +kernel
theorem dX4_prepare_88 : decode cX4_prepare 88 = .ok (.aload 6, 2) := by decide +kernel
theorem dX4_prepare_90 : decode cX4_prepare 90 = .ok (.getfield 66, 3) := by decide +kernel
theorem dX4_prepare_93 : decode cX4_prepare 93 = .ok (.ifCond .eq 11, 3) := by decide +kernel
theorem dX4_prepare_96 : decode cX4_prepare 96 = .ok (.aload 6, 2) := by decide +kernel
theorem dX4_prepare_98 : decode cX4_prepare 98 = .ok (.getfield 69, 3) := by decide +kernel
theorem dX4_prepare_101 : decode cX4_prepare 101 = .ok (.goto 4, 3) := by decide +kernel
theorem dX4_prepare_104 : decode cX4_prepare 104 = .ok (.iconst 0, 1) := by decide +kernel
theorem dX4_prepare_105 : decode cX4_prepare 105 = .ok (.iadd, 1) := by decide +kernel
theorem dX4_prepare_106 : decode cX4_prepare 106 = .ok (.istore 4, 2) := by decide +kernel
theorem dX4_prepare_108 : decode cX4_prepare 108 = .ok (.aload 6, 2) := by decide +kernel
theorem dX4_prepare_110 : decode cX4_prepare 110 = .ok (.iload_n 3, 1) := by decide +kernel
theorem dX4_prepare_111 : decode cX4_prepare 111 = .ok (.putfield 70, 3) := by decide +kernel
theorem dX4_prepare_114 : decode cX4_prepare 114 = .ok (.aload 6, 2) := by decide +kernel
theorem dX4_prepare_116 : decode cX4_prepare 116 = .ok (.iload 4, 2) := by decide +kernel
theorem dX4_prepare_118 : decode cX4_prepare 118 = .ok (.putfield 73, 3) := by decide +kernel
theorem dX4_prepare_121 : decode cX4_prepare 121 = .ok (.aload_n 0, 1) := by decide +kernel
theorem dX4_prepare_122 : decode cX4_prepare 122 = .ok (.aload 6, 2) := by decide +kernel
theorem dX4_prepare_124 : decode cX4_prepare 124 = .ok (.iload 5, 2) := by decide +kernel
theorem dX4_prepare_126 : decode cX4_prepare 126 = .ok (.invokevirtual 76, 3) := by decide +kernel
theorem dX4_prepare_129 : decode cX4_prepare 129 = .ok (.iinc 5 (-1), 3) := by decide +kernel
theorem dX4_prepare_132 : decode cX4_prepare 132 = .ok (.goto (-119), 3) := by decide +kernel
theorem dX4_prepare_135 : decode cX4_prepare 135 = .ok (.return_, 1) := by decide +kernel
theorem dX4_hasUnderWay_0 : decode cX4_hasUnderWay 0 = .ok (.iconst 0, 1) := by decide +kernel
theorem dX4_hasUnderWay_1 : decode cX4_hasUnderWay 1 = .ok (.istore_n 3, 1) := by decide +kernel
theorem dX4_hasUnderWay_2 : decode cX4_hasUnderWay 2 = .ok (.iload_n 3, 1) := by decide +kernel
theorem dX4_hasUnderWay_3 : decode cX4_hasUnderWay 3 = .ok (.aload_n 0, 1) := by decide +kernel
theorem dX4_hasUnderWay_4 : decode cX4_hasUnderWay 4 = .ok (.getfield 9, 3) := by decide +kernel
theorem dX4_hasUnderWay_7 : decode cX4_hasUnderWay 7 = .ok (.if_icmp .ge 49, 3) := by decide +kernel
theorem dX4_hasUnderWay_10 : decode cX4_hasUnderWay 10 = .ok (.aload_n 0, 1) := by decide +kernel
theorem dX4_hasUnderWay_11 : decode cX4_hasUnderWay 11 = .ok (.iload_n 3, 1) := by decide +kernel
theorem dX4_hasUnderWay_12 : decode cX4_hasUnderWay 12 = .ok (.invokevirtual 52, 3) := by decide +kernel
theorem dX4_hasUnderWay_15 : decode cX4_hasUnderWay 15 = .ok (.astore 4, 2) := by decide +kernel
theorem dX4_hasUnderWay_17 : decode cX4_hasUnderWay 17 = .ok (.aload 4, 2) := by decide +kernel
theorem dX4_hasUnderWay_19 : decode cX4_hasUnderWay 19 = .ok (.ifnull 31, 3) := by decide +kernel
theorem dX4_hasUnderWay_22 : decode cX4_hasUnderWay 22 = .ok (.aload 4, 2) := by decide +kernel
