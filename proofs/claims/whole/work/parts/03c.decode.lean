theorem dX8_spells_47 : decode cX8_spells 47 = .ok (.ireturn, 1) := by decide +kernel
theorem dX8_spells_48 : decode cX8_spells 48 = .ok (.iinc 2 1, 3) := by decide +kernel
theorem dX8_spells_51 : decode cX8_spells 51 = .ok (.goto (-31), 3) := by decide +kernel
theorem dX8_spells_54 : decode cX8_spells 54 = .ok (.iconst 1, 1) := by decide +kernel
theorem dX8_spells_55 : decode cX8_spells 55 = .ok (.ireturn, 1) := by decide +kernel
theorem dX9_init_0 : decode cX9_init 0 = .ok (.aload_n 0, 1) := by decide +kernel
theorem dX9_init_1 : decode cX9_init 1 = .ok (.invokespecial 3, 3) := by decide +kernel
theorem dX9_init_4 : decode cX9_init 4 = .ok (.aload_n 0, 1) := by decide +kernel
theorem dX9_init_5 : decode cX9_init 5 = .ok (.iconst 0, 1) := by decide +kernel
theorem dX9_init_6 : decode cX9_init 6 = .ok (.putfield 9, 3) := by decide +kernel
theorem dX9_init_9 : decode cX9_init 9 = .ok (.aload_n 0, 1) := by decide +kernel
theorem dX9_init_10 : decode cX9_init 10 = .ok (.iconst (-1), 1) := by decide +kernel
theorem dX9_init_11 : decode cX9_init 11 = .ok (.putfield 15, 3) := by decide +kernel
theorem dX9_init_14 : decode cX9_init 14 = .ok (.aload_n 0, 1) := by decide +kernel
theorem dX9_init_15 : decode cX9_init 15 = .ok (.iconst (-1), 1) := by decide +kernel
theorem dX9_init_16 : decode cX9_init 16 = .ok (.putfield 18, 3) := by decide +kernel
theorem dX9_init_19 : decode cX9_init 19 = .ok (.aload_n 0, 1) := by decide +kernel
theorem dX9_init_20 : decode cX9_init 20 = .ok (.iconst 0, 1) := by decide +kernel
theorem dX9_init_21 : decode cX9_init 21 = .ok (.putfield 21, 3) := by decide +kernel
theorem dX9_init_24 : decode cX9_init 24 = .ok (.aload_n 0, 1) := by decide +kernel
theorem dX9_init_25 : decode cX9_init 25 = .ok (.iconst 0, 1) := by decide +kernel
theorem dX9_init_26 : decode cX9_init 26 = .ok (.putfield 24, 3) := by decide +kernel
theorem dX9_init_29 : decode cX9_init 29 = .ok (.aload_n 0, 1) := by decide +kernel
theorem dX9_init_30 : decode cX9_init 30 = .ok (.iconst 0, 1) := by decide +kernel
theorem dX9_init_31 : decode cX9_init 31 = .ok (.putfield 27, 3) := by decide +kernel
theorem dX9_init_34 : decode cX9_init 34 = .ok (.aload_n 0, 1) := by decide +kernel
theorem dX9_init_35 : decode cX9_init 35 = .ok (.iconst 0, 1) := by decide +kernel
theorem dX9_init_36 : decode cX9_init 36 = .ok (.putfield 30, 3) := by decide +kernel
theorem dX9_init_39 : decode cX9_init 39 = .ok (.aload_n 0, 1) := by decide +kernel
theorem dX9_init_40 : decode cX9_init 40 = .ok (.iconst 0, 1) := by decide +kernel
theorem dX9_init_41 : decode cX9_init 41 = .ok (.putfield 34, 3) := by decide +kernel
theorem dX9_init_44 : decode cX9_init 44 = .ok (.aload_n 0, 1) := by decide +kernel
theorem dX9_init_45 : decode cX9_init 45 = .ok (.iconst 0, 1) := by decide +kernel
theorem dX9_init_46 : decode cX9_init 46 = .ok (.putfield 37, 3) := by decide +kernel
theorem dX9_init_49 : decode cX9_init 49 = .ok (.aload_n 0, 1) := by decide +kernel
theorem dX9_init_50 : decode cX9_init 50 = .ok (.bipush 23, 2) := by decide +kernel
theorem dX9_init_52 : decode cX9_init 52 = .ok (.newarray .int, 2) := by decide +kernel
theorem dX9_init_54 : decode cX9_init 54 = .ok (.putfield 40, 3) := by decide +kernel
theorem dX9_init_57 : decode cX9_init 57 = .ok (.return_, 1) := by decide +kernel
theorem dX9_compile_0 : decode cX9_compile 0 = .ok (.aload_n 0, 1) := by decide +kernel
theorem dX9_compile_1 : decode cX9_compile 1 = .ok (.invokevirtual 44, 3) := by decide +kernel
theorem dX9_compile_4 : decode cX9_compile 4 = .ok (.aload_n 2, 1) := by decide +kernel
theorem dX9_compile_5 : decode cX9_compile 5 = .ok (.invokevirtual 47, 3) := by decide +kernel
theorem dX9_compile_8 : decode cX9_compile 8 = .ok (.aload_n 1, 1) := by decide +kernel
theorem dX9_compile_9 : decode cX9_compile 9 = .ok (.invokevirtual 52, 3) := by decide +kernel
theorem dX9_compile_12 : decode cX9_compile 12 = .ok (.iconst 0, 1) := by decide +kernel
theorem dX9_compile_13 : decode cX9_compile 13 = .ok (.istore_n 3, 1) := by decide +kernel
theorem dX9_compile_14 : decode cX9_compile 14 = .ok (.iload_n 3, 1) := by decide +kernel
theorem dX9_compile_15 : decode cX9_compile 15 = .ok (.sipush 2000, 3) := by decide +kernel
theorem dX9_compile_18 : decode cX9_compile 18 = .ok (.if_icmp .ge 29, 3) := by decide +kernel
theorem dX9_compile_21 : decode cX9_compile 21 = .ok (.aload_n 0, 1) := by decide +kernel
theorem dX9_compile_22 : decode cX9_compile 22 = .ok (.getfield 9, 3) := by decide +kernel
theorem dX9_compile_25 : decode cX9_compile 25 = .ok (.ifCond .ne 22, 3) := by decide +kernel
theorem dX9_compile_28 : decode cX9_compile 28 = .ok (.aload_n 1, 1) := by decide +kernel
theorem dX9_compile_29 : decode cX9_compile 29 = .ok (.invokevirtual 57, 3) := by decide +kernel
theorem dX9_compile_32 : decode cX9_compile 32 = .ok (.ifCond .eq 15, 3) := by decide +kernel
theorem dX9_compile_35 : decode cX9_compile 35 = .ok (.aload_n 0, 1) := by decide +kernel
theorem dX9_compile_36 : decode cX9_compile 36 = .ok (.aload_n 1, 1) := by decide +kernel
theorem dX9_compile_37 : decode cX9_compile 37 = .ok (.aload_n 2, 1) := by decide +kernel
theorem dX9_compile_38 : decode cX9_compile 38 = .ok (.invokevirtual 61, 3) := by decide +kernel
theorem dX9_compile_41 : decode cX9_compile 41 = .ok (.iinc 3 1, 3) := by decide +kernel
theorem dX9_compile_44 : decode cX9_compile 44 = .ok (.goto (-30), 3) := by decide +kernel
theorem dX9_compile_47 : decode cX9_compile 47 = .ok (.aload_n 0, 1) := by decide +kernel
theorem dX9_compile_48 : decode cX9_compile 48 = .ok (.getfield 9, 3) := by decide +kernel
theorem dX9_compile_51 : decode cX9_compile 51 = .ok (.ifCond .ne 19, 3) := by decide +kernel
theorem dX9_compile_54 : decode cX9_compile 54 = .ok (.aload_n 0, 1) := by decide +kernel
theorem dX9_compile_55 : decode cX9_compile 55 = .ok (.getfield 21, 3) := by decide +kernel
theorem dX9_compile_58 : decode cX9_compile 58 = .ok (.ifCond .eq 12, 3) := by decide +kernel
theorem dX9_compile_61 : decode cX9_compile 61 = .ok (.aload_n 0, 1) := by decide +kernel
theorem dX9_compile_62 : decode cX9_compile 62 = .ok (.iconst 1, 1) := by decide +kernel
theorem dX9_compile_63 : decode cX9_compile 63 = .ok (.aload_n 1, 1) := by decide +kernel
theorem dX9_compile_64 : decode cX9_compile 64 = .ok (.getfield 65, 3) := by decide +kernel
theorem dX9_compile_67 : decode cX9_compile 67 = .ok (.invokevirtual 68, 3) := by decide +kernel
theorem dX9_compile_70 : decode cX9_compile 70 = .ok (.aload_n 0, 1) := by decide +kernel
theorem dX9_compile_71 : decode cX9_compile 71 = .ok (.getfield 9, 3) := by decide +kernel
theorem dX9_compile_74 : decode cX9_compile 74 = .ok (.ifCond .ne 20, 3) := by decide +kernel
theorem dX9_compile_77 : decode cX9_compile 77 = .ok (.aload_n 0, 1) := by decide +kernel
theorem dX9_compile_78 : decode cX9_compile 78 = .ok (.getfield 18, 3) := by decide +kernel
theorem dX9_compile_81 : decode cX9_compile 81 = .ok (.iconst (-1), 1) := by decide +kernel
theorem dX9_compile_82 : decode cX9_compile 82 = .ok (.if_icmp .eq 12, 3) := by decide +kernel
theorem dX9_compile_85 : decode cX9_compile 85 = .ok (.aload_n 0, 1) := by decide +kernel
theorem dX9_compile_86 : decode cX9_compile 86 = .ok (.iconst 5, 1) := by decide +kernel
theorem dX9_compile_87 : decode cX9_compile 87 = .ok (.aload_n 0, 1) := by decide +kernel
theorem dX9_compile_88 : decode cX9_compile 88 = .ok (.getfield 18, 3) := by decide +kernel
theorem dX9_compile_91 : decode cX9_compile 91 = .ok (.invokevirtual 68, 3) := by decide +kernel
theorem dX9_compile_94 : decode cX9_compile 94 = .ok (.return_, 1) := by decide +kernel
theorem dX9_startOver_0 : decode cX9_startOver 0 = .ok (.aload_n 0, 1) := by decide +kernel
theorem dX9_startOver_1 : decode cX9_startOver 1 = .ok (.iconst 0, 1) := by decide +kernel
theorem dX9_startOver_2 : decode cX9_startOver 2 = .ok (.putfield 9, 3) := by decide +kernel
theorem dX9_startOver_5 : decode cX9_startOver 5 = .ok (.aload_n 0, 1) := by decide +kernel
theorem dX9_startOver_6 : decode cX9_startOver 6 = .ok (.iconst (-1), 1) := by decide +kernel
theorem dX9_startOver_7 : decode cX9_startOver 7 = .ok (.putfield 15, 3) := by decide +kernel
theorem dX9_startOver_10 : decode cX9_startOver 10 = .ok (.aload_n 0, 1) := by decide +kernel
theorem dX9_startOver_11 : decode cX9_startOver 11 = .ok (.iconst (-1), 1) := by decide +kernel
theorem dX9_startOver_12 : decode cX9_startOver 12 = .ok (.putfield 18, 3) := by decide +kernel
theorem dX9_startOver_15 : decode cX9_startOver 15 = .ok (.aload_n 0, 1) := by decide +kernel
theorem dX9_startOver_16 : decode cX9_startOver 16 = .ok (.iconst 0, 1) := by decide +kernel
theorem dX9_startOver_17 : decode cX9_startOver 17 = .ok (.putfield 21, 3) := by decide +kernel
theorem dX9_startOver_20 : decode cX9_startOver 20 = .ok (.aload_n 0, 1) := by decide +kernel
theorem dX9_startOver_21 : decode cX9_startOver 21 = .ok (.iconst 0, 1) := by decide +kernel
theorem dX9_startOver_22 : decode cX9_startOver 22 = .ok (.putfield 24, 3) := by decide +kernel
theorem dX9_startOver_25 : decode cX9_startOver 25 = .ok (.aload_n 0, 1) := by decide +kernel
theorem dX9_startOver_26 : decode cX9_startOver 26 = .ok (.iconst 0, 1) := by decide +kernel
theorem dX9_startOver_27 : decode cX9_startOver 27 = .ok (.putfield 27, 3) := by decide +kernel
theorem dX9_startOver_30 : decode cX9_startOver 30 = .ok (.aload_n 0, 1) := by decide +kernel
theorem dX9_startOver_31 : decode cX9_startOver 31 = .ok (.iconst 0, 1) := by decide +kernel
theorem dX9_startOver_32 : decode cX9_startOver 32 = .ok (.putfield 30, 3) := by decide +kernel
theorem dX9_startOver_35 : decode cX9_startOver 35 = .ok (.aload_n 0, 1) := by decide +kernel
theorem dX9_startOver_36 : decode cX9_startOver 36 = .ok (.iconst 0, 1) := by decide +kernel
theorem dX9_startOver_37 : decode cX9_startOver 37 = .ok (.putfield 37, 3) := by decide +kernel
theorem dX9_startOver_40 : decode cX9_startOver 40 = .ok (.return_, 1) := by decide +kernel
theorem dX9_fail_0 : decode cX9_fail 0 = .ok (.aload_n 0, 1) := by decide +kernel
theorem dX9_fail_1 : decode cX9_fail 1 = .ok (.iload_n 1, 1) := by decide +kernel
theorem dX9_fail_2 : decode cX9_fail 2 = .ok (.putfield 9, 3) := by decide +kernel
theorem dX9_fail_5 : decode cX9_fail 5 = .ok (.aload_n 0, 1) := by decide +kernel
theorem dX9_fail_6 : decode cX9_fail 6 = .ok (.iload_n 2, 1) := by decide +kernel
theorem dX9_fail_7 : decode cX9_fail 7 = .ok (.putfield 15, 3) := by decide +kernel
theorem dX9_fail_10 : decode cX9_fail 10 = .ok (.return_, 1) := by decide +kernel
theorem dX9_accept_0 : decode cX9_accept 0 = .ok (.aload_n 0, 1) := by decide +kernel
theorem dX9_accept_1 : decode cX9_accept 1 = .ok (.aload_n 1, 1) := by decide +kernel
theorem dX9_accept_2 : decode cX9_accept 2 = .ok (.getfield 72, 3) := by decide +kernel
theorem dX9_accept_5 : decode cX9_accept 5 = .ok (.invokevirtual 75, 3) := by decide +kernel
theorem dX9_accept_8 : decode cX9_accept 8 = .ok (.ifCond .ne 15, 3) := by decide +kernel
theorem dX9_accept_11 : decode cX9_accept 11 = .ok (.aload_n 0, 1) := by decide +kernel
theorem dX9_accept_12 : decode cX9_accept 12 = .ok (.iconst 1, 1) := by decide +kernel
theorem dX9_accept_13 : decode cX9_accept 13 = .ok (.aload_n 1, 1) := by decide +kernel
theorem dX9_accept_14 : decode cX9_accept 14 = .ok (.getfield 79, 3) := by decide +kernel
theorem dX9_accept_17 : decode cX9_accept 17 = .ok (.invokevirtual 68, 3) := by decide +kernel
theorem dX9_accept_20 : decode cX9_accept 20 = .ok (.goto 43, 3) := by decide +kernel
theorem dX9_accept_23 : decode cX9_accept 23 = .ok (.aload_n 0, 1) := by decide +kernel
theorem dX9_accept_24 : decode cX9_accept 24 = .ok (.aload_n 1, 1) := by decide +kernel
theorem dX9_accept_25 : decode cX9_accept 25 = .ok (.getfield 72, 3) := by decide +kernel
theorem dX9_accept_28 : decode cX9_accept 28 = .ok (.aload_n 2, 1) := by decide +kernel
theorem dX9_accept_29 : decode cX9_accept 29 = .ok (.invokevirtual 82, 3) := by decide +kernel
theorem dX9_accept_32 : decode cX9_accept 32 = .ok (.ifCond .eq 15, 3) := by decide +kernel
theorem dX9_accept_35 : decode cX9_accept 35 = .ok (.aload_n 0, 1) := by decide +kernel
theorem dX9_accept_36 : decode cX9_accept 36 = .ok (.iconst 2, 1) := by decide +kernel
theorem dX9_accept_37 : decode cX9_accept 37 = .ok (.aload_n 1, 1) := by decide +kernel
theorem dX9_accept_38 : decode cX9_accept 38 = .ok (.getfield 79, 3) := by decide +kernel
theorem dX9_accept_41 : decode cX9_accept 41 = .ok (.invokevirtual 68, 3) := by decide +kernel
theorem dX9_accept_44 : decode cX9_accept 44 = .ok (.goto 19, 3) := by decide +kernel
theorem dX9_accept_47 : decode cX9_accept 47 = .ok (.aload_n 0, 1) := by decide +kernel
theorem dX9_accept_48 : decode cX9_accept 48 = .ok (.dup, 1) := by decide +kernel
theorem dX9_accept_49 : decode cX9_accept 49 = .ok (.getfield 24, 3) := by decide +kernel
theorem dX9_accept_52 : decode cX9_accept 52 = .ok (.iconst 1, 1) := by decide +kernel
theorem dX9_accept_53 : decode cX9_accept 53 = .ok (.iadd, 1) := by decide +kernel
theorem dX9_accept_54 : decode cX9_accept 54 = .ok (.putfield 24, 3) := by decide +kernel
theorem dX9_accept_57 : decode cX9_accept 57 = .ok (.aload_n 0, 1) := by decide +kernel
theorem dX9_accept_58 : decode cX9_accept 58 = .ok (.aload_n 1, 1) := by decide +kernel
theorem dX9_accept_59 : decode cX9_accept 59 = .ok (.aload_n 2, 1) := by decide +kernel
theorem dX9_accept_60 : decode cX9_accept 60 = .ok (.invokevirtual 86, 3) := by decide +kernel
theorem dX9_accept_63 : decode cX9_accept 63 = .ok (.return_, 1) := by decide +kernel
theorem dX9_goesOnWith_0 : decode cX9_goesOnWith 0 = .ok (.aload_n 0, 1) := by decide +kernel
theorem dX9_goesOnWith_1 : decode cX9_goesOnWith 1 = .ok (.getfield 21, 3) := by decide +kernel
theorem dX9_goesOnWith_4 : decode cX9_goesOnWith 4 = .ok (.tableswitch 116 0 5 #[40, 58, 69, 81, 106, 111], 40) := by decide +kernel
theorem dX9_goesOnWith_44 : decode cX9_goesOnWith 44 = .ok (.iload_n 1, 1) := by decide +kernel
theorem dX9_goesOnWith_45 : decode cX9_goesOnWith 45 = .ok (.bipush 23, 2) := by decide +kernel
theorem dX9_goesOnWith_47 : decode cX9_goesOnWith 47 = .ok (.if_icmp .eq 9, 3) := by decide +kernel
theorem dX9_goesOnWith_50 : decode cX9_goesOnWith 50 = .ok (.iload_n 1, 1) := by decide +kernel
theorem dX9_goesOnWith_51 : decode cX9_goesOnWith 51 = .ok (.bipush 24, 2) := by decide +kernel
theorem dX9_goesOnWith_53 : decode cX9_goesOnWith 53 = .ok (.if_icmp .ne 7, 3) := by decide +kernel
theorem dX9_goesOnWith_56 : decode cX9_goesOnWith 56 = .ok (.iconst 1, 1) := by decide +kernel
theorem dX9_goesOnWith_57 : decode cX9_goesOnWith 57 = .ok (.goto 4, 3) := by decide +kernel
theorem dX9_goesOnWith_60 : decode cX9_goesOnWith 60 = .ok (.iconst 0, 1) := by decide +kernel
theorem dX9_goesOnWith_61 : decode cX9_goesOnWith 61 = .ok (.ireturn, 1) := by decide +kernel
theorem dX9_goesOnWith_62 : decode cX9_goesOnWith 62 = .ok (.iload_n 1, 1) := by decide +kernel
theorem dX9_goesOnWith_63 : decode cX9_goesOnWith 63 = .ok (.iconst 1, 1) := by decide +kernel
theorem dX9_goesOnWith_64 : decode cX9_goesOnWith 64 = .ok (.if_icmp .ne 7, 3) := by decide +kernel
theorem dX9_goesOnWith_67 : decode cX9_goesOnWith 67 = .ok (.iconst 1, 1) := by decide +kernel
theorem dX9_goesOnWith_68 : decode cX9_goesOnWith 68 = .ok (.goto 4, 3) := by decide +kernel
theorem dX9_goesOnWith_71 : decode cX9_goesOnWith 71 = .ok (.iconst 0, 1) := by decide +kernel
theorem dX9_goesOnWith_72 : decode cX9_goesOnWith 72 = .ok (.ireturn, 1) := by decide +kernel
theorem dX9_goesOnWith_73 : decode cX9_goesOnWith 73 = .ok (.iload_n 1, 1) := by decide +kernel
theorem dX9_goesOnWith_74 : decode cX9_goesOnWith 74 = .ok (.bipush 25, 2) := by decide +kernel
theorem dX9_goesOnWith_76 : decode cX9_goesOnWith 76 = .ok (.if_icmp .ne 7, 3) := by decide +kernel
theorem dX9_goesOnWith_79 : decode cX9_goesOnWith 79 = .ok (.iconst 1, 1) := by decide +kernel
theorem dX9_goesOnWith_80 : decode cX9_goesOnWith 80 = .ok (.goto 4, 3) := by decide +kernel
theorem dX9_goesOnWith_83 : decode cX9_goesOnWith 83 = .ok (.iconst 0, 1) := by decide +kernel
theorem dX9_goesOnWith_84 : decode cX9_goesOnWith 84 = .ok (.ireturn, 1) := by decide +kernel
theorem dX9_goesOnWith_85 : decode cX9_goesOnWith 85 = .ok (.iload_n 1, 1) := by decide +kernel
theorem dX9_goesOnWith_86 : decode cX9_goesOnWith 86 = .ok (.bipush 9, 2) := by decide +kernel
theorem dX9_goesOnWith_88 : decode cX9_goesOnWith 88 = .ok (.if_icmp .eq 16, 3) := by decide +kernel
theorem dX9_goesOnWith_91 : decode cX9_goesOnWith 91 = .ok (.iload_n 1, 1) := by decide +kernel
theorem dX9_goesOnWith_92 : decode cX9_goesOnWith 92 = .ok (.bipush 10, 2) := by decide +kernel
theorem dX9_goesOnWith_94 : decode cX9_goesOnWith 94 = .ok (.if_icmp .eq 10, 3) := by decide +kernel
theorem dX9_goesOnWith_97 : decode cX9_goesOnWith 97 = .ok (.iload_n 1, 1) := by decide +kernel
theorem dX9_goesOnWith_98 : decode cX9_goesOnWith 98 = .ok (.invokestatic 89, 3) := by decide +kernel
theorem dX9_goesOnWith_101 : decode cX9_goesOnWith 101 = .ok (.ifCond .eq 7, 3) := by decide +kernel
theorem dX9_goesOnWith_104 : decode cX9_goesOnWith 104 = .ok (.iconst 1, 1) := by decide +kernel
theorem dX9_goesOnWith_105 : decode cX9_goesOnWith 105 = .ok (.goto 4, 3) := by decide +kernel
theorem dX9_goesOnWith_108 : decode cX9_goesOnWith 108 = .ok (.iconst 0, 1) := by decide +kernel
theorem dX9_goesOnWith_109 : decode cX9_goesOnWith 109 = .ok (.ireturn, 1) := by decide +kernel
theorem dX9_goesOnWith_110 : decode cX9_goesOnWith 110 = .ok (.iload_n 1, 1) := by decide +kernel
theorem dX9_goesOnWith_111 : decode cX9_goesOnWith 111 = .ok (.invokestatic 89, 3) := by decide +kernel
theorem dX9_goesOnWith_114 : decode cX9_goesOnWith 114 = .ok (.ireturn, 1) := by decide +kernel
theorem dX9_goesOnWith_115 : decode cX9_goesOnWith 115 = .ok (.iload_n 1, 1) := by decide +kernel
theorem dX9_goesOnWith_116 : decode cX9_goesOnWith 116 = .ok (.invokestatic 92, 3) := by decide +kernel
theorem dX9_goesOnWith_119 : decode cX9_goesOnWith 119 = .ok (.ireturn, 1) := by decide +kernel
theorem dX9_goesOnWith_120 : decode cX9_goesOnWith 120 = .ok (.aload_n 0, 1) := by decide +kernel
theorem dX9_goesOnWith_121 : decode cX9_goesOnWith 121 = .ok (.iload_n 1, 1) := by decide +kernel
theorem dX9_goesOnWith_122 : decode cX9_goesOnWith 122 = .ok (.invokevirtual 95, 3) := by decide +kernel
theorem dX9_goesOnWith_125 : decode cX9_goesOnWith 125 = .ok (.ireturn, 1) := by decide +kernel
theorem dX9_beginsOperand_0 : decode cX9_beginsOperand 0 = .ok (.iload_n 0, 1) := by decide +kernel
theorem dX9_beginsOperand_1 : decode cX9_beginsOperand 1 = .ok (.iconst 1, 1) := by decide +kernel
theorem dX9_beginsOperand_2 : decode cX9_beginsOperand 2 = .ok (.if_icmp .eq 20, 3) := by decide +kernel
theorem dX9_beginsOperand_5 : decode cX9_beginsOperand 5 = .ok (.iload_n 0, 1) := by decide +kernel
theorem dX9_beginsOperand_6 : decode cX9_beginsOperand 6 = .ok (.bipush 20, 2) := by decide +kernel
theorem dX9_beginsOperand_8 : decode cX9_beginsOperand 8 = .ok (.if_icmp .eq 14, 3) := by decide +kernel
theorem dX9_beginsOperand_11 : decode cX9_beginsOperand 11 = .ok (.iload_n 0, 1) := by decide +kernel
theorem dX9_beginsOperand_12 : decode cX9_beginsOperand 12 = .ok (.iconst 2, 1) := by decide +kernel
theorem dX9_beginsOperand_13 : decode cX9_beginsOperand 13 = .ok (.if_icmp .lt 13, 3) := by decide +kernel
theorem dX9_beginsOperand_16 : decode cX9_beginsOperand 16 = .ok (.iload_n 0, 1) := by decide +kernel
theorem dX9_beginsOperand_17 : decode cX9_beginsOperand 17 = .ok (.bipush 8, 2) := by decide +kernel
theorem dX9_beginsOperand_19 : decode cX9_beginsOperand 19 = .ok (.if_icmp .gt 7, 3) := by decide +kernel
theorem dX9_beginsOperand_22 : decode cX9_beginsOperand 22 = .ok (.iconst 1, 1) := by decide +kernel
theorem dX9_beginsOperand_23 : decode cX9_beginsOperand 23 = .ok (.goto 4, 3) := by decide +kernel
theorem dX9_beginsOperand_26 : decode cX9_beginsOperand 26 = .ok (.iconst 0, 1) := by decide +kernel
theorem dX9_beginsOperand_27 : decode cX9_beginsOperand 27 = .ok (.ireturn, 1) := by decide +kernel
theorem dX9_followsLiteral_0 : decode cX9_followsLiteral 0 = .ok (.iload_n 0, 1) := by decide +kernel
theorem dX9_followsLiteral_1 : decode cX9_followsLiteral 1 = .ok (.bipush 12, 2) := by decide +kernel
theorem dX9_followsLiteral_3 : decode cX9_followsLiteral 3 = .ok (.if_icmp .eq 15, 3) := by decide +kernel
theorem dX9_followsLiteral_6 : decode cX9_followsLiteral 6 = .ok (.iload_n 0, 1) := by decide +kernel
theorem dX9_followsLiteral_7 : decode cX9_followsLiteral 7 = .ok (.bipush 11, 2) := by decide +kernel
theorem dX9_followsLiteral_9 : decode cX9_followsLiteral 9 = .ok (.if_icmp .eq 9, 3) := by decide +kernel
theorem dX9_followsLiteral_12 : decode cX9_followsLiteral 12 = .ok (.iload_n 0, 1) := by decide +kernel
theorem dX9_followsLiteral_13 : decode cX9_followsLiteral 13 = .ok (.bipush 22, 2) := by decide +kernel
theorem dX9_followsLiteral_15 : decode cX9_followsLiteral 15 = .ok (.if_icmp .ne 7, 3) := by decide +kernel
theorem dX9_followsLiteral_18 : decode cX9_followsLiteral 18 = .ok (.iconst 1, 1) := by decide +kernel
theorem dX9_followsLiteral_19 : decode cX9_followsLiteral 19 = .ok (.goto 4, 3) := by decide +kernel
theorem dX9_followsLiteral_22 : decode cX9_followsLiteral 22 = .ok (.iconst 0, 1) := by decide +kernel
theorem dX9_followsLiteral_23 : decode cX9_followsLiteral 23 = .ok (.ireturn, 1) := by decide +kernel
theorem dX9_followsOperand_0 : decode cX9_followsOperand 0 = .ok (.iload_n 1, 1) := by decide +kernel
theorem dX9_followsOperand_1 : decode cX9_followsOperand 1 = .ok (.invokestatic 98, 3) := by decide +kernel
theorem dX9_followsOperand_4 : decode cX9_followsOperand 4 = .ok (.ifCond .eq 5, 3) := by decide +kernel
theorem dX9_followsOperand_7 : decode cX9_followsOperand 7 = .ok (.iconst 1, 1) := by decide +kernel
theorem dX9_followsOperand_8 : decode cX9_followsOperand 8 = .ok (.ireturn, 1) := by decide +kernel
theorem dX9_followsOperand_9 : decode cX9_followsOperand 9 = .ok (.aload_n 0, 1) := by decide +kernel
theorem dX9_followsOperand_10 : decode cX9_followsOperand 10 = .ok (.getfield 27, 3) := by decide +kernel
theorem dX9_followsOperand_13 : decode cX9_followsOperand 13 = .ok (.ifCond .le 15, 3) := by decide +kernel
theorem dX9_followsOperand_16 : decode cX9_followsOperand 16 = .ok (.iload_n 1, 1) := by decide +kernel
theorem dX9_followsOperand_17 : decode cX9_followsOperand 17 = .ok (.bipush 21, 2) := by decide +kernel
theorem dX9_followsOperand_19 : decode cX9_followsOperand 19 = .ok (.if_icmp .ne 7, 3) := by decide +kernel
theorem dX9_followsOperand_22 : decode cX9_followsOperand 22 = .ok (.iconst 1, 1) := by decide +kernel
theorem dX9_followsOperand_23 : decode cX9_followsOperand 23 = .ok (.goto 4, 3) := by decide +kernel
theorem dX9_followsOperand_26 : decode cX9_followsOperand 26 = .ok (.iconst 0, 1) := by decide +kernel
theorem dX9_followsOperand_27 : decode cX9_followsOperand 27 = .ok (.ireturn, 1) := by decide +kernel
theorem dX9_followsOperand_28 : decode cX9_followsOperand 28 = .ok (.aload_n 0, 1) := by decide +kernel
theorem dX9_followsOperand_29 : decode cX9_followsOperand 29 = .ok (.getfield 30, 3) := by decide +kernel
theorem dX9_followsOperand_32 : decode cX9_followsOperand 32 = .ok (.ifCond .eq 10, 3) := by decide +kernel
theorem dX9_followsOperand_35 : decode cX9_followsOperand 35 = .ok (.iload_n 1, 1) := by decide +kernel
theorem dX9_followsOperand_36 : decode cX9_followsOperand 36 = .ok (.invokestatic 92, 3) := by decide +kernel
theorem dX9_followsOperand_39 : decode cX9_followsOperand 39 = .ok (.goto 7, 3) := by decide +kernel
theorem dX9_followsOperand_42 : decode cX9_followsOperand 42 = .ok (.iload_n 1, 1) := by decide +kernel
theorem dX9_followsOperand_43 : decode cX9_followsOperand 43 = .ok (.invokestatic 101, 3) := by decide +kernel
theorem dX9_followsOperand_46 : decode cX9_followsOperand 46 = .ok (.ireturn, 1) := by decide +kernel
theorem dX9_isArithmetic_0 : decode cX9_isArithmetic 0 = .ok (.iload_n 0, 1) := by decide +kernel
theorem dX9_isArithmetic_1 : decode cX9_isArithmetic 1 = .ok (.bipush 17, 2) := by decide +kernel
theorem dX9_isArithmetic_3 : decode cX9_isArithmetic 3 = .ok (.if_icmp .lt 13, 3) := by decide +kernel
theorem dX9_isArithmetic_6 : decode cX9_isArithmetic 6 = .ok (.iload_n 0, 1) := by decide +kernel
theorem dX9_isArithmetic_7 : decode cX9_isArithmetic 7 = .ok (.bipush 19, 2) := by decide +kernel
theorem dX9_isArithmetic_9 : decode cX9_isArithmetic 9 = .ok (.if_icmp .gt 7, 3) := by decide +kernel
theorem dX9_isArithmetic_12 : decode cX9_isArithmetic 12 = .ok (.iconst 1, 1) := by decide +kernel
theorem dX9_isArithmetic_13 : decode cX9_isArithmetic 13 = .ok (.goto 4, 3) := by decide +kernel
theorem dX9_isArithmetic_16 : decode cX9_isArithmetic 16 = .ok (.iconst 0, 1) := by decide +kernel
theorem dX9_isArithmetic_17 : decode cX9_isArithmetic 17 = .ok (.ireturn, 1) := by decide +kernel
theorem dX9_isComparison_0 : decode cX9_isComparison 0 = .ok (.iload_n 0, 1) := by decide +kernel
theorem dX9_isComparison_1 : decode cX9_isComparison 1 = .ok (.bipush 13, 2) := by decide +kernel
theorem dX9_isComparison_3 : decode cX9_isComparison 3 = .ok (.if_icmp .lt 13, 3) := by decide +kernel
theorem dX9_isComparison_6 : decode cX9_isComparison 6 = .ok (.iload_n 0, 1) := by decide +kernel
theorem dX9_isComparison_7 : decode cX9_isComparison 7 = .ok (.bipush 16, 2) := by decide +kernel
theorem dX9_isComparison_9 : decode cX9_isComparison 9 = .ok (.if_icmp .gt 7, 3) := by decide +kernel
theorem dX9_isComparison_12 : decode cX9_isComparison 12 = .ok (.iconst 1, 1) := by decide +kernel
theorem dX9_isComparison_13 : decode cX9_isComparison 13 = .ok (.goto 4, 3) := by decide +kernel
theorem dX9_isComparison_16 : decode cX9_isComparison 16 = .ok (.iconst 0, 1) := by decide +kernel
theorem dX9_isComparison_17 : decode cX9_isComparison 17 = .ok (.ireturn, 1) := by decide +kernel
theorem dX9_isTooMuch_0 : decode cX9_isTooMuch 0 = .ok (.aload_n 0, 1) := by decide +kernel
theorem dX9_isTooMuch_1 : decode cX9_isTooMuch 1 = .ok (.getfield 24, 3) := by decide +kernel
theorem dX9_isTooMuch_4 : decode cX9_isTooMuch 4 = .ok (.sipush 400, 3) := by decide +kernel
theorem dX9_isTooMuch_7 : decode cX9_isTooMuch 7 = .ok (.if_icmp .ge 34, 3) := by decide +kernel
theorem dX9_isTooMuch_10 : decode cX9_isTooMuch 10 = .ok (.aload_n 0, 1) := by decide +kernel
theorem dX9_isTooMuch_11 : decode cX9_isTooMuch 11 = .ok (.getfield 21, 3) := by decide +kernel
theorem dX9_isTooMuch_14 : decode cX9_isTooMuch 14 = .ok (.ifCond .ne 12, 3) := by decide +kernel
theorem dX9_isTooMuch_17 : decode cX9_isTooMuch 17 = .ok (.aload_n 2, 1) := by decide +kernel
theorem dX9_isTooMuch_18 : decode cX9_isTooMuch 18 = .ok (.getfield 104, 3) := by decide +kernel
theorem dX9_isTooMuch_21 : decode cX9_isTooMuch 21 = .ok (.bipush 20, 2) := by decide +kernel
theorem dX9_isTooMuch_23 : decode cX9_isTooMuch 23 = .ok (.if_icmp .ge 18, 3) := by decide +kernel
theorem dX9_isTooMuch_26 : decode cX9_isTooMuch 26 = .ok (.iload_n 1, 1) := by decide +kernel
theorem dX9_isTooMuch_27 : decode cX9_isTooMuch 27 = .ok (.bipush 20, 2) := by decide +kernel
theorem dX9_isTooMuch_29 : decode cX9_isTooMuch 29 = .ok (.if_icmp .ne 16, 3) := by decide +kernel
theorem dX9_isTooMuch_32 : decode cX9_isTooMuch 32 = .ok (.aload_n 0, 1) := by decide +kernel
theorem dX9_isTooMuch_33 : decode cX9_isTooMuch 33 = .ok (.getfield 27, 3) := by decide +kernel
theorem dX9_isTooMuch_36 : decode cX9_isTooMuch 36 = .ok (.bipush 6, 2) := by decide +kernel
theorem dX9_isTooMuch_38 : decode cX9_isTooMuch 38 = .ok (.if_icmp .lt 7, 3) := by decide +kernel
theorem dX9_isTooMuch_41 : decode cX9_isTooMuch 41 = .ok (.iconst 1, 1) := by decide +kernel
theorem dX9_isTooMuch_42 : decode cX9_isTooMuch 42 = .ok (.goto 4, 3) := by decide +kernel
theorem dX9_isTooMuch_45 : decode cX9_isTooMuch 45 = .ok (.iconst 0, 1) := by decide +kernel
theorem dX9_isTooMuch_46 : decode cX9_isTooMuch 46 = .ok (.ireturn, 1) := by decide +kernel
theorem dX9_take_0 : decode cX9_take 0 = .ok (.aload_n 0, 1) := by decide +kernel
theorem dX9_take_1 : decode cX9_take 1 = .ok (.getfield 21, 3) := by decide +kernel
theorem dX9_take_4 : decode cX9_take 4 = .ok (.tableswitch 87 0 4 #[36, 62, 70, 78, 78], 36) := by decide +kernel
theorem dX9_take_40 : decode cX9_take 40 = .ok (.aload_n 0, 1) := by decide +kernel
theorem dX9_take_41 : decode cX9_take 41 = .ok (.iconst 0, 1) := by decide +kernel
theorem dX9_take_42 : decode cX9_take 42 = .ok (.putfield 34, 3) := by decide +kernel
theorem dX9_take_45 : decode cX9_take 45 = .ok (.aload_n 0, 1) := by decide +kernel
theorem dX9_take_46 : decode cX9_take 46 = .ok (.aload_n 1, 1) := by decide +kernel
theorem dX9_take_47 : decode cX9_take 47 = .ok (.getfield 72, 3) := by decide +kernel
theorem dX9_take_50 : decode cX9_take 50 = .ok (.bipush 23, 2) := by decide +kernel
theorem dX9_take_52 : decode cX9_take 52 = .ok (.if_icmp .ne 7, 3) := by decide +kernel
theorem dX9_take_55 : decode cX9_take 55 = .ok (.iconst 1, 1) := by decide +kernel
theorem dX9_take_56 : decode cX9_take 56 = .ok (.goto 4, 3) := by decide +kernel
theorem dX9_take_59 : decode cX9_take 59 = .ok (.iconst 2, 1) := by decide +kernel
theorem dX9_take_60 : decode cX9_take 60 = .ok (.putfield 21, 3) := by decide +kernel
theorem dX9_take_63 : decode cX9_take 63 = .ok (.goto 37, 3) := by decide +kernel
theorem dX9_take_66 : decode cX9_take 66 = .ok (.aload_n 0, 1) := by decide +kernel
theorem dX9_take_67 : decode cX9_take 67 = .ok (.aload_n 1, 1) := by decide +kernel
theorem dX9_take_68 : decode cX9_take 68 = .ok (.invokevirtual 107, 3) := by decide +kernel
theorem dX9_take_71 : decode cX9_take 71 = .ok (.goto 29, 3) := by decide +kernel
theorem dX9_take_74 : decode cX9_take 74 = .ok (.aload_n 0, 1) := by decide +kernel
theorem dX9_take_75 : decode cX9_take 75 = .ok (.iconst 3, 1) := by decide +kernel
theorem dX9_take_76 : decode cX9_take 76 = .ok (.putfield 21, 3) := by decide +kernel
theorem dX9_take_79 : decode cX9_take 79 = .ok (.goto 21, 3) := by decide +kernel
theorem dX9_take_82 : decode cX9_take 82 = .ok (.aload_n 0, 1) := by decide +kernel
theorem dX9_take_83 : decode cX9_take 83 = .ok (.aload_n 1, 1) := by decide +kernel
theorem dX9_take_84 : decode cX9_take 84 = .ok (.aload_n 2, 1) := by decide +kernel
theorem dX9_take_85 : decode cX9_take 85 = .ok (.invokevirtual 111, 3) := by decide +kernel
theorem dX9_take_88 : decode cX9_take 88 = .ok (.goto 12, 3) := by decide +kernel
theorem dX9_take_91 : decode cX9_take 91 = .ok (.aload_n 0, 1) := by decide +kernel
theorem dX9_take_92 : decode cX9_take 92 = .ok (.aload_n 1, 1) := by decide +kernel
theorem dX9_take_93 : decode cX9_take 93 = .ok (.getfield 72, 3) := by decide +kernel
theorem dX9_take_96 : decode cX9_take 96 = .ok (.aload_n 2, 1) := by decide +kernel
theorem dX9_take_97 : decode cX9_take 97 = .ok (.invokevirtual 114, 3) := by decide +kernel
theorem dX9_take_100 : decode cX9_take 100 = .ok (.return_, 1) := by decide +kernel
theorem dX9_takeAmount_0 : decode cX9_takeAmount 0 = .ok (.aload_n 0, 1) := by decide +kernel
theorem dX9_takeAmount_1 : decode cX9_takeAmount 1 = .ok (.aload_n 1, 1) := by decide +kernel
theorem dX9_takeAmount_2 : decode cX9_takeAmount 2 = .ok (.getfield 118, 3) := by decide +kernel
theorem dX9_takeAmount_5 : decode cX9_takeAmount 5 = .ok (.putfield 34, 3) := by decide +kernel
theorem dX9_takeAmount_8 : decode cX9_takeAmount 8 = .ok (.aload_n 0, 1) := by decide +kernel
theorem dX9_takeAmount_9 : decode cX9_takeAmount 9 = .ok (.getfield 18, 3) := by decide +kernel
theorem dX9_takeAmount_12 : decode cX9_takeAmount 12 = .ok (.iconst (-1), 1) := by decide +kernel
theorem dX9_takeAmount_13 : decode cX9_takeAmount 13 = .ok (.if_icmp .ne 29, 3) := by decide +kernel
theorem dX9_takeAmount_16 : decode cX9_takeAmount 16 = .ok (.aload_n 0, 1) := by decide +kernel
theorem dX9_takeAmount_17 : decode cX9_takeAmount 17 = .ok (.getfield 34, 3) := by decide +kernel
theorem dX9_takeAmount_20 : decode cX9_takeAmount 20 = .ok (.iconst 1, 1) := by decide +kernel
theorem dX9_takeAmount_21 : decode cX9_takeAmount 21 = .ok (.if_icmp .lt 13, 3) := by decide +kernel
theorem dX9_takeAmount_24 : decode cX9_takeAmount 24 = .ok (.aload_n 0, 1) := by decide +kernel
theorem dX9_takeAmount_25 : decode cX9_takeAmount 25 = .ok (.getfield 34, 3) := by decide +kernel
theorem dX9_takeAmount_28 : decode cX9_takeAmount 28 = .ok (.sipush 1000, 3) := by decide +kernel
theorem dX9_takeAmount_31 : decode cX9_takeAmount 31 = .ok (.if_icmp .le 11, 3) := by decide +kernel
theorem dX9_takeAmount_34 : decode cX9_takeAmount 34 = .ok (.aload_n 0, 1) := by decide +kernel
theorem dX9_takeAmount_35 : decode cX9_takeAmount 35 = .ok (.aload_n 1, 1) := by decide +kernel
theorem dX9_takeAmount_36 : decode cX9_takeAmount 36 = .ok (.getfield 79, 3) := by decide +kernel
theorem dX9_takeAmount_39 : decode cX9_takeAmount 39 = .ok (.putfield 18, 3) := by decide +kernel
theorem dX9_takeAmount_42 : decode cX9_takeAmount 42 = .ok (.aload_n 0, 1) := by decide +kernel
theorem dX9_takeAmount_43 : decode cX9_takeAmount 43 = .ok (.iconst 2, 1) := by decide +kernel
theorem dX9_takeAmount_44 : decode cX9_takeAmount 44 = .ok (.putfield 21, 3) := by decide +kernel
theorem dX9_takeAmount_47 : decode cX9_takeAmount 47 = .ok (.return_, 1) := by decide +kernel
theorem dX9_takeOperand_0 : decode cX9_takeOperand 0 = .ok (.aload_n 1, 1) := by decide +kernel
theorem dX9_takeOperand_1 : decode cX9_takeOperand 1 = .ok (.getfield 72, 3) := by decide +kernel
theorem dX9_takeOperand_4 : decode cX9_takeOperand 4 = .ok (.bipush 20, 2) := by decide +kernel
theorem dX9_takeOperand_6 : decode cX9_takeOperand 6 = .ok (.if_icmp .ne 25, 3) := by decide +kernel
theorem dX9_takeOperand_9 : decode cX9_takeOperand 9 = .ok (.aload_n 0, 1) := by decide +kernel
theorem dX9_takeOperand_10 : decode cX9_takeOperand 10 = .ok (.bipush 20, 2) := by decide +kernel
theorem dX9_takeOperand_12 : decode cX9_takeOperand 12 = .ok (.invokevirtual 121, 3) := by decide +kernel
theorem dX9_takeOperand_15 : decode cX9_takeOperand 15 = .ok (.aload_n 0, 1) := by decide +kernel
theorem dX9_takeOperand_16 : decode cX9_takeOperand 16 = .ok (.dup, 1) := by decide +kernel
theorem dX9_takeOperand_17 : decode cX9_takeOperand 17 = .ok (.getfield 27, 3) := by decide +kernel
theorem dX9_takeOperand_20 : decode cX9_takeOperand 20 = .ok (.iconst 1, 1) := by decide +kernel
theorem dX9_takeOperand_21 : decode cX9_takeOperand 21 = .ok (.iadd, 1) := by decide +kernel
theorem dX9_takeOperand_22 : decode cX9_takeOperand 22 = .ok (.putfield 27, 3) := by decide +kernel
theorem dX9_takeOperand_25 : decode cX9_takeOperand 25 = .ok (.aload_n 0, 1) := by decide +kernel
theorem dX9_takeOperand_26 : decode cX9_takeOperand 26 = .ok (.iconst 4, 1) := by decide +kernel
theorem dX9_takeOperand_27 : decode cX9_takeOperand 27 = .ok (.putfield 21, 3) := by decide +kernel
theorem dX9_takeOperand_30 : decode cX9_takeOperand 30 = .ok (.return_, 1) := by decide +kernel
theorem dX9_takeOperand_31 : decode cX9_takeOperand 31 = .ok (.aload_n 2, 1) := by decide +kernel
theorem dX9_takeOperand_32 : decode cX9_takeOperand 32 = .ok (.aload_n 1, 1) := by decide +kernel
theorem dX9_takeOperand_33 : decode cX9_takeOperand 33 = .ok (.getfield 72, 3) := by decide +kernel
theorem dX9_takeOperand_36 : decode cX9_takeOperand 36 = .ok (.iconst 1, 1) := by decide +kernel
theorem dX9_takeOperand_37 : decode cX9_takeOperand 37 = .ok (.if_icmp .ne 10, 3) := by decide +kernel
theorem dX9_takeOperand_40 : decode cX9_takeOperand 40 = .ok (.aload_n 1, 1) := by decide +kernel
theorem dX9_takeOperand_41 : decode cX9_takeOperand 41 = .ok (.getfield 118, 3) := by decide +kernel
theorem dX9_takeOperand_44 : decode cX9_takeOperand 44 = .ok (.goto 8, 3) := by decide +kernel
theorem dX9_takeOperand_47 : decode cX9_takeOperand 47 = .ok (.aload_n 1, 1) := by decide +kernel
theorem dX9_takeOperand_48 : decode cX9_takeOperand 48 = .ok (.getfield 72, 3) := by decide +kernel
theorem dX9_takeOperand_51 : decode cX9_takeOperand 51 = .ok (.ineg, 1) := by decide +kernel
theorem dX9_takeOperand_52 : decode cX9_takeOperand 52 = .ok (.invokevirtual 125, 3) := by decide +kernel
theorem dX9_takeOperand_55 : decode cX9_takeOperand 55 = .ok (.aload_n 0, 1) := by decide +kernel
theorem dX9_takeOperand_56 : decode cX9_takeOperand 56 = .ok (.aload_n 1, 1) := by decide +kernel
theorem dX9_takeOperand_57 : decode cX9_takeOperand 57 = .ok (.getfield 72, 3) := by decide +kernel
theorem dX9_takeOperand_60 : decode cX9_takeOperand 60 = .ok (.bipush 9, 2) := by decide +kernel
theorem dX9_takeOperand_62 : decode cX9_takeOperand 62 = .ok (.if_icmp .eq 12, 3) := by decide +kernel
theorem dX9_takeOperand_65 : decode cX9_takeOperand 65 = .ok (.aload_n 1, 1) := by decide +kernel
theorem dX9_takeOperand_66 : decode cX9_takeOperand 66 = .ok (.getfield 72, 3) := by decide +kernel
theorem dX9_takeOperand_69 : decode cX9_takeOperand 69 = .ok (.bipush 10, 2) := by decide +kernel
theorem dX9_takeOperand_71 : decode cX9_takeOperand 71 = .ok (.if_icmp .ne 7, 3) := by decide +kernel
theorem dX9_takeOperand_74 : decode cX9_takeOperand 74 = .ok (.iconst 5, 1) := by decide +kernel
theorem dX9_takeOperand_75 : decode cX9_takeOperand 75 = .ok (.goto 5, 3) := by decide +kernel
theorem dX9_takeOperand_78 : decode cX9_takeOperand 78 = .ok (.bipush 6, 2) := by decide +kernel
theorem dX9_takeOperand_80 : decode cX9_takeOperand 80 = .ok (.putfield 21, 3) := by decide +kernel
theorem dX9_takeOperand_83 : decode cX9_takeOperand 83 = .ok (.return_, 1) := by decide +kernel
theorem dX9_takeOperator_0 : decode cX9_takeOperator 0 = .ok (.aload_n 0, 1) := by decide +kernel
theorem dX9_takeOperator_1 : decode cX9_takeOperator 1 = .ok (.iload_n 1, 1) := by decide +kernel
theorem dX9_takeOperator_2 : decode cX9_takeOperator 2 = .ok (.aload_n 2, 1) := by decide +kernel
theorem dX9_takeOperator_3 : decode cX9_takeOperator 3 = .ok (.invokevirtual 128, 3) := by decide +kernel
theorem dX9_takeOperator_6 : decode cX9_takeOperator 6 = .ok (.iload_n 1, 1) := by decide +kernel
theorem dX9_takeOperator_7 : decode cX9_takeOperator 7 = .ok (.bipush 21, 2) := by decide +kernel
theorem dX9_takeOperator_9 : decode cX9_takeOperator 9 = .ok (.if_icmp .ne 30, 3) := by decide +kernel
theorem dX9_takeOperator_12 : decode cX9_takeOperator 12 = .ok (.aload_n 0, 1) := by decide +kernel
theorem dX9_takeOperator_13 : decode cX9_takeOperator 13 = .ok (.aload_n 0, 1) := by decide +kernel
theorem dX9_takeOperator_14 : decode cX9_takeOperator 14 = .ok (.getfield 37, 3) := by decide +kernel
theorem dX9_takeOperator_17 : decode cX9_takeOperator 17 = .ok (.iconst 1, 1) := by decide +kernel
theorem dX9_takeOperator_18 : decode cX9_takeOperator 18 = .ok (.isub, 1) := by decide +kernel
theorem dX9_takeOperator_19 : decode cX9_takeOperator 19 = .ok (.iconst 0, 1) := by decide +kernel
theorem dX9_takeOperator_20 : decode cX9_takeOperator 20 = .ok (.invokestatic 131, 3) := by decide +kernel
theorem dX9_takeOperator_23 : decode cX9_takeOperator 23 = .ok (.putfield 37, 3) := by decide +kernel
theorem dX9_takeOperator_26 : decode cX9_takeOperator 26 = .ok (.aload_n 0, 1) := by decide +kernel
theorem dX9_takeOperator_27 : decode cX9_takeOperator 27 = .ok (.dup, 1) := by decide +kernel
theorem dX9_takeOperator_28 : decode cX9_takeOperator 28 = .ok (.getfield 27, 3) := by decide +kernel
theorem dX9_takeOperator_31 : decode cX9_takeOperator 31 = .ok (.iconst 1, 1) := by decide +kernel
theorem dX9_takeOperator_32 : decode cX9_takeOperator 32 = .ok (.isub, 1) := by decide +kernel
theorem dX9_takeOperator_33 : decode cX9_takeOperator 33 = .ok (.putfield 27, 3) := by decide +kernel
theorem dX9_takeOperator_36 : decode cX9_takeOperator 36 = .ok (.goto 86, 3) := by decide +kernel
theorem dX9_takeOperator_39 : decode cX9_takeOperator 39 = .ok (.iload_n 1, 1) := by decide +kernel
theorem dX9_takeOperator_40 : decode cX9_takeOperator 40 = .ok (.bipush 22, 2) := by decide +kernel
theorem dX9_takeOperator_42 : decode cX9_takeOperator 42 = .ok (.if_icmp .ne 24, 3) := by decide +kernel
theorem dX9_takeOperator_45 : decode cX9_takeOperator 45 = .ok (.aload_n 2, 1) := by decide +kernel
theorem dX9_takeOperator_46 : decode cX9_takeOperator 46 = .ok (.aload_n 0, 1) := by decide +kernel
theorem dX9_takeOperator_47 : decode cX9_takeOperator 47 = .ok (.getfield 34, 3) := by decide +kernel
theorem dX9_takeOperator_50 : decode cX9_takeOperator 50 = .ok (.invokevirtual 137, 3) := by decide +kernel
theorem dX9_takeOperator_53 : decode cX9_takeOperator 53 = .ok (.aload_n 0, 1) := by decide +kernel
theorem dX9_takeOperator_54 : decode cX9_takeOperator 54 = .ok (.iconst 0, 1) := by decide +kernel
theorem dX9_takeOperator_55 : decode cX9_takeOperator 55 = .ok (.putfield 30, 3) := by decide +kernel
theorem dX9_takeOperator_58 : decode cX9_takeOperator 58 = .ok (.aload_n 0, 1) := by decide +kernel
theorem dX9_takeOperator_59 : decode cX9_takeOperator 59 = .ok (.iconst 0, 1) := by decide +kernel
theorem dX9_takeOperator_60 : decode cX9_takeOperator 60 = .ok (.putfield 21, 3) := by decide +kernel
theorem dX9_takeOperator_63 : decode cX9_takeOperator 63 = .ok (.goto 59, 3) := by decide +kernel
theorem dX9_takeOperator_66 : decode cX9_takeOperator 66 = .ok (.aload_n 0, 1) := by decide +kernel
theorem dX9_takeOperator_67 : decode cX9_takeOperator 67 = .ok (.iload_n 1, 1) := by decide +kernel
theorem dX9_takeOperator_68 : decode cX9_takeOperator 68 = .ok (.invokevirtual 121, 3) := by decide +kernel
theorem dX9_takeOperator_71 : decode cX9_takeOperator 71 = .ok (.aload_n 0, 1) := by decide +kernel
theorem dX9_takeOperator_72 : decode cX9_takeOperator 72 = .ok (.iload_n 1, 1) := by decide +kernel
theorem dX9_takeOperator_73 : decode cX9_takeOperator 73 = .ok (.invokestatic 101, 3) := by decide +kernel
theorem dX9_takeOperator_76 : decode cX9_takeOperator 76 = .ok (.ifCond .ne 17, 3) := by decide +kernel
theorem dX9_takeOperator_79 : decode cX9_takeOperator 79 = .ok (.aload_n 0, 1) := by decide +kernel
theorem dX9_takeOperator_80 : decode cX9_takeOperator 80 = .ok (.getfield 30, 3) := by decide +kernel
theorem dX9_takeOperator_83 : decode cX9_takeOperator 83 = .ok (.ifCond .eq 14, 3) := by decide +kernel
theorem dX9_takeOperator_86 : decode cX9_takeOperator 86 = .ok (.iload_n 1, 1) := by decide +kernel
theorem dX9_takeOperator_87 : decode cX9_takeOperator 87 = .ok (.invokestatic 98, 3) := by decide +kernel
theorem dX9_takeOperator_90 : decode cX9_takeOperator 90 = .ok (.ifCond .eq 7, 3) := by decide +kernel
theorem dX9_takeOperator_93 : decode cX9_takeOperator 93 = .ok (.iconst 1, 1) := by decide +kernel
theorem dX9_takeOperator_94 : decode cX9_takeOperator 94 = .ok (.goto 4, 3) := by decide +kernel
theorem dX9_takeOperator_97 : decode cX9_takeOperator 97 = .ok (.iconst 0, 1) := by decide +kernel
theorem dX9_takeOperator_98 : decode cX9_takeOperator 98 = .ok (.putfield 30, 3) := by decide +kernel
theorem dX9_takeOperator_101 : decode cX9_takeOperator 101 = .ok (.aload_n 0, 1) := by decide +kernel
theorem dX9_takeOperator_102 : decode cX9_takeOperator 102 = .ok (.iload_n 1, 1) := by decide +kernel
theorem dX9_takeOperator_103 : decode cX9_takeOperator 103 = .ok (.bipush 12, 2) := by decide +kernel
theorem dX9_takeOperator_105 : decode cX9_takeOperator 105 = .ok (.if_icmp .eq 9, 3) := by decide +kernel
theorem dX9_takeOperator_108 : decode cX9_takeOperator 108 = .ok (.iload_n 1, 1) := by decide +kernel
theorem dX9_takeOperator_109 : decode cX9_takeOperator 109 = .ok (.bipush 11, 2) := by decide +kernel
theorem dX9_takeOperator_111 : decode cX9_takeOperator 111 = .ok (.if_icmp .ne 7, 3) := by decide +kernel
theorem dX9_takeOperator_114 : decode cX9_takeOperator 114 = .ok (.iconst 3, 1) := by decide +kernel
theorem dX9_takeOperator_115 : decode cX9_takeOperator 115 = .ok (.goto 4, 3) := by decide +kernel
theorem dX9_takeOperator_118 : decode cX9_takeOperator 118 = .ok (.iconst 4, 1) := by decide +kernel
theorem dX9_takeOperator_119 : decode cX9_takeOperator 119 = .ok (.putfield 21, 3) := by decide +kernel
theorem dX9_takeOperator_122 : decode cX9_takeOperator 122 = .ok (.return_, 1) := by decide +kernel
theorem dX9_putOff_0 : decode cX9_putOff 0 = .ok (.aload_n 0, 1) := by decide +kernel
theorem dX9_putOff_1 : decode cX9_putOff 1 = .ok (.getfield 37, 3) := by decide +kernel
theorem dX9_putOff_4 : decode cX9_putOff 4 = .ok (.aload_n 0, 1) := by decide +kernel
theorem dX9_putOff_5 : decode cX9_putOff 5 = .ok (.getfield 40, 3) := by decide +kernel
theorem dX9_putOff_8 : decode cX9_putOff 8 = .ok (.arraylength, 1) := by decide +kernel
theorem dX9_putOff_9 : decode cX9_putOff 9 = .ok (.if_icmp .ge 23, 3) := by decide +kernel
theorem dX9_putOff_12 : decode cX9_putOff 12 = .ok (.aload_n 0, 1) := by decide +kernel
theorem dX9_putOff_13 : decode cX9_putOff 13 = .ok (.getfield 40, 3) := by decide +kernel
theorem dX9_putOff_16 : decode cX9_putOff 16 = .ok (.aload_n 0, 1) := by decide +kernel
theorem dX9_putOff_17 : decode cX9_putOff 17 = .ok (.getfield 37, 3) := by decide +kernel
theorem dX9_putOff_20 : decode cX9_putOff 20 = .ok (.iload_n 1, 1) := by decide +kernel
theorem dX9_putOff_21 : decode cX9_putOff 21 = .ok (.iastore, 1) := by decide +kernel
theorem dX9_putOff_22 : decode cX9_putOff 22 = .ok (.aload_n 0, 1) := by decide +kernel
theorem dX9_putOff_23 : decode cX9_putOff 23 = .ok (.dup, 1) := by decide +kernel
theorem dX9_putOff_24 : decode cX9_putOff 24 = .ok (.getfield 37, 3) := by decide +kernel
theorem dX9_putOff_27 : decode cX9_putOff 27 = .ok (.iconst 1, 1) := by decide +kernel
theorem dX9_putOff_28 : decode cX9_putOff 28 = .ok (.iadd, 1) := by decide +kernel
theorem dX9_putOff_29 : decode cX9_putOff 29 = .ok (.putfield 37, 3) := by decide +kernel
theorem dX9_putOff_32 : decode cX9_putOff 32 = .ok (.return_, 1) := by decide +kernel
theorem dX9_writeTighter_0 : decode cX9_writeTighter 0 = .ok (.aload_n 0, 1) := by decide +kernel
theorem dX9_writeTighter_1 : decode cX9_writeTighter 1 = .ok (.getfield 37, 3) := by decide +kernel
theorem dX9_writeTighter_4 : decode cX9_writeTighter 4 = .ok (.ifCond .le 51, 3) := by decide +kernel
theorem dX9_writeTighter_7 : decode cX9_writeTighter 7 = .ok (.aload_n 0, 1) := by decide +kernel
theorem dX9_writeTighter_8 : decode cX9_writeTighter 8 = .ok (.getfield 40, 3) := by decide +kernel
theorem dX9_writeTighter_11 : decode cX9_writeTighter 11 = .ok (.aload_n 0, 1) := by decide +kernel
theorem dX9_writeTighter_12 : decode cX9_writeTighter 12 = .ok (.getfield 37, 3) := by decide +kernel
theorem dX9_writeTighter_15 : decode cX9_writeTighter 15 = .ok (.iconst 1, 1) := by decide +kernel
theorem dX9_writeTighter_16 : decode cX9_writeTighter 16 = .ok (.isub, 1) := by decide +kernel
theorem dX9_writeTighter_17 : decode cX9_writeTighter 17 = .ok (.iaload, 1) := by decide +kernel
theorem dX9_writeTighter_18 : decode cX9_writeTighter 18 = .ok (.invokestatic 140, 3) := by decide +kernel
theorem dX9_writeTighter_21 : decode cX9_writeTighter 21 = .ok (.iload_n 1, 1) := by decide +kernel
theorem dX9_writeTighter_22 : decode cX9_writeTighter 22 = .ok (.invokestatic 140, 3) := by decide +kernel
theorem dX9_writeTighter_25 : decode cX9_writeTighter 25 = .ok (.if_icmp .lt 30, 3) := by decide +kernel
theorem dX9_writeTighter_28 : decode cX9_writeTighter 28 = .ok (.aload_n 0, 1) := by decide +kernel
theorem dX9_writeTighter_29 : decode cX9_writeTighter 29 = .ok (.dup, 1) := by decide +kernel
theorem dX9_writeTighter_30 : decode cX9_writeTighter 30 = .ok (.getfield 37, 3) := by decide +kernel
theorem dX9_writeTighter_33 : decode cX9_writeTighter 33 = .ok (.iconst 1, 1) := by decide +kernel
theorem dX9_writeTighter_34 : decode cX9_writeTighter 34 = .ok (.isub, 1) := by decide +kernel
theorem dX9_writeTighter_35 : decode cX9_writeTighter 35 = .ok (.putfield 37, 3) := by decide +kernel
theorem dX9_writeTighter_38 : decode cX9_writeTighter 38 = .ok (.aload_n 2, 1) := by decide +kernel
theorem dX9_writeTighter_39 : decode cX9_writeTighter 39 = .ok (.aload_n 0, 1) := by decide +kernel
theorem dX9_writeTighter_40 : decode cX9_writeTighter 40 = .ok (.getfield 40, 3) := by decide +kernel
theorem dX9_writeTighter_43 : decode cX9_writeTighter 43 = .ok (.aload_n 0, 1) := by decide +kernel
theorem dX9_writeTighter_44 : decode cX9_writeTighter 44 = .ok (.getfield 37, 3) := by decide +kernel
theorem dX9_writeTighter_47 : decode cX9_writeTighter 47 = .ok (.iaload, 1) := by decide +kernel
theorem dX9_writeTighter_48 : decode cX9_writeTighter 48 = .ok (.ineg, 1) := by decide +kernel
theorem dX9_writeTighter_49 : decode cX9_writeTighter 49 = .ok (.invokevirtual 125, 3) := by decide +kernel
theorem dX9_writeTighter_52 : decode cX9_writeTighter 52 = .ok (.goto (-52), 3) := by decide +kernel
theorem dX9_writeTighter_55 : decode cX9_writeTighter 55 = .ok (.return_, 1) := by decide +kernel
theorem dX9_tightness_0 : decode cX9_tightness 0 = .ok (.iload_n 0, 1) := by decide +kernel
theorem dX9_tightness_1 : decode cX9_tightness 1 = .ok (.tableswitch 76 11 22 #[67, 69, 76, 76, 76, 76, 71, 71, 73, 63, 65, 65], 63) := by decide +kernel
theorem dX9_tightness_64 : decode cX9_tightness 64 = .ok (.iconst 0, 1) := by decide +kernel
theorem dX9_tightness_65 : decode cX9_tightness 65 = .ok (.ireturn, 1) := by decide +kernel
theorem dX9_tightness_66 : decode cX9_tightness 66 = .ok (.iconst 1, 1) := by decide +kernel
theorem dX9_tightness_67 : decode cX9_tightness 67 = .ok (.ireturn, 1) := by decide +kernel
theorem dX9_tightness_68 : decode cX9_tightness 68 = .ok (.iconst 2, 1) := by decide +kernel
theorem dX9_tightness_69 : decode cX9_tightness 69 = .ok (.ireturn, 1) := by decide +kernel
theorem dX9_tightness_70 : decode cX9_tightness 70 = .ok (.iconst 3, 1) := by decide +kernel
theorem dX9_tightness_71 : decode cX9_tightness 71 = .ok (.ireturn, 1) := by decide +kernel
theorem dX9_tightness_72 : decode cX9_tightness 72 = .ok (.iconst 5, 1) := by decide +kernel
theorem dX9_tightness_73 : decode cX9_tightness 73 = .ok (.ireturn, 1) := by decide +kernel
theorem dX9_tightness_74 : decode cX9_tightness 74 = .ok (.bipush 6, 2) := by decide +kernel
theorem dX9_tightness_76 : decode cX9_tightness 76 = .ok (.ireturn, 1) := by decide +kernel
theorem dX9_tightness_77 : decode cX9_tightness 77 = .ok (.iconst 4, 1) := by decide +kernel
theorem dX9_tightness_78 : decode cX9_tightness 78 = .ok (.ireturn, 1) := by decide +kernel
theorem dX10_init_0 : decode cX10_init 0 = .ok (.aload_n 0, 1) := by decide +kernel
theorem dX10_init_1 : decode cX10_init 1 = .ok (.invokespecial 3, 3) := by decide +kernel
theorem dX10_init_4 : decode cX10_init 4 = .ok (.aload_n 0, 1) := by decide +kernel
theorem dX10_init_5 : decode cX10_init 5 = .ok (.iconst 0, 1) := by decide +kernel
theorem dX10_init_6 : decode cX10_init 6 = .ok (.putfield 9, 3) := by decide +kernel
theorem dX10_init_9 : decode cX10_init 9 = .ok (.aload_n 0, 1) := by decide +kernel
theorem dX10_init_10 : decode cX10_init 10 = .ok (.iconst 0, 1) := by decide +kernel
theorem dX10_init_11 : decode cX10_init 11 = .ok (.putfield 15, 3) := by decide +kernel
theorem dX10_init_14 : decode cX10_init 14 = .ok (.aload_n 0, 1) := by decide +kernel
theorem dX10_init_15 : decode cX10_init 15 = .ok (.sipush 400, 3) := by decide +kernel
theorem dX10_init_18 : decode cX10_init 18 = .ok (.newarray .int, 2) := by decide +kernel
theorem dX10_init_20 : decode cX10_init 20 = .ok (.putfield 18, 3) := by decide +kernel
theorem dX10_init_23 : decode cX10_init 23 = .ok (.aload_n 0, 1) := by decide +kernel
theorem dX10_init_24 : decode cX10_init 24 = .ok (.bipush 20, 2) := by decide +kernel
theorem dX10_init_26 : decode cX10_init 26 = .ok (.newarray .int, 2) := by decide +kernel
theorem dX10_init_28 : decode cX10_init 28 = .ok (.putfield 22, 3) := by decide +kernel
theorem dX10_init_31 : decode cX10_init 31 = .ok (.aload_n 0, 1) := by decide +kernel
theorem dX10_init_32 : decode cX10_init 32 = .ok (.bipush 20, 2) := by decide +kernel
theorem dX10_init_34 : decode cX10_init 34 = .ok (.newarray .int, 2) := by decide +kernel
theorem dX10_init_36 : decode cX10_init 36 = .ok (.putfield 25, 3) := by decide +kernel
theorem dX10_init_39 : decode cX10_init 39 = .ok (.aload_n 0, 1) := by decide +kernel
theorem dX10_init_40 : decode cX10_init 40 = .ok (.bipush 24, 2) := by decide +kernel
theorem dX10_init_42 : decode cX10_init 42 = .ok (.newarray .int, 2) := by decide +kernel
theorem dX10_init_44 : decode cX10_init 44 = .ok (.putfield 28, 3) := by decide +kernel
theorem dX10_init_47 : decode cX10_init 47 = .ok (.return_, 1) := by decide +kernel
theorem dX10_clear_0 : decode cX10_clear 0 = .ok (.aload_n 0, 1) := by decide +kernel
theorem dX10_clear_1 : decode cX10_clear 1 = .ok (.iconst 0, 1) := by decide +kernel
theorem dX10_clear_2 : decode cX10_clear 2 = .ok (.putfield 9, 3) := by decide +kernel
theorem dX10_clear_5 : decode cX10_clear 5 = .ok (.aload_n 0, 1) := by decide +kernel
theorem dX10_clear_6 : decode cX10_clear 6 = .ok (.iconst 0, 1) := by decide +kernel
theorem dX10_clear_7 : decode cX10_clear 7 = .ok (.putfield 15, 3) := by decide +kernel
theorem dX10_clear_10 : decode cX10_clear 10 = .ok (.return_, 1) := by decide +kernel
theorem dX10_write_0 : decode cX10_write 0 = .ok (.aload_n 0, 1) := by decide +kernel
theorem dX10_write_1 : decode cX10_write 1 = .ok (.getfield 15, 3) := by decide +kernel
theorem dX10_write_4 : decode cX10_write 4 = .ok (.aload_n 0, 1) := by decide +kernel
theorem dX10_write_5 : decode cX10_write 5 = .ok (.getfield 18, 3) := by decide +kernel
theorem dX10_write_8 : decode cX10_write 8 = .ok (.arraylength, 1) := by decide +kernel
theorem dX10_write_9 : decode cX10_write 9 = .ok (.if_icmp .ge 23, 3) := by decide +kernel
theorem dX10_write_12 : decode cX10_write 12 = .ok (.aload_n 0, 1) := by decide +kernel
theorem dX10_write_13 : decode cX10_write 13 = .ok (.getfield 18, 3) := by decide +kernel
theorem dX10_write_16 : decode cX10_write 16 = .ok (.aload_n 0, 1) := by decide +kernel
theorem dX10_write_17 : decode cX10_write 17 = .ok (.getfield 15, 3) := by decide +kernel
theorem dX10_write_20 : decode cX10_write 20 = .ok (.iload_n 1, 1) := by decide +kernel
theorem dX10_write_21 : decode cX10_write 21 = .ok (.iastore, 1) := by decide +kernel
theorem dX10_write_22 : decode cX10_write 22 = .ok (.aload_n 0, 1) := by decide +kernel
theorem dX10_write_23 : decode cX10_write 23 = .ok (.dup, 1) := by decide +kernel
theorem dX10_write_24 : decode cX10_write 24 = .ok (.getfield 15, 3) := by decide +kernel
theorem dX10_write_27 : decode cX10_write 27 = .ok (.iconst 1, 1) := by decide +kernel
theorem dX10_write_28 : decode cX10_write 28 = .ok (.iadd, 1) := by decide +kernel
theorem dX10_write_29 : decode cX10_write 29 = .ok (.putfield 15, 3) := by decide +kernel
theorem dX10_write_32 : decode cX10_write 32 = .ok (.return_, 1) := by decide +kernel
theorem dX10_endRule_0 : decode cX10_endRule 0 = .ok (.aload_n 0, 1) := by decide +kernel
theorem dX10_endRule_1 : decode cX10_endRule 1 = .ok (.getfield 9, 3) := by decide +kernel
theorem dX10_endRule_4 : decode cX10_endRule 4 = .ok (.aload_n 0, 1) := by decide +kernel
theorem dX10_endRule_5 : decode cX10_endRule 5 = .ok (.getfield 22, 3) := by decide +kernel
theorem dX10_endRule_8 : decode cX10_endRule 8 = .ok (.arraylength, 1) := by decide +kernel
theorem dX10_endRule_9 : decode cX10_endRule 9 = .ok (.if_icmp .ge 48, 3) := by decide +kernel
theorem dX10_endRule_12 : decode cX10_endRule 12 = .ok (.aload_n 0, 1) := by decide +kernel
theorem dX10_endRule_13 : decode cX10_endRule 13 = .ok (.getfield 9, 3) := by decide +kernel
theorem dX10_endRule_16 : decode cX10_endRule 16 = .ok (.aload_n 0, 1) := by decide +kernel
theorem dX10_endRule_17 : decode cX10_endRule 17 = .ok (.getfield 25, 3) := by decide +kernel
theorem dX10_endRule_20 : decode cX10_endRule 20 = .ok (.arraylength, 1) := by decide +kernel
theorem dX10_endRule_21 : decode cX10_endRule 21 = .ok (.if_icmp .ge 36, 3) := by decide +kernel
theorem dX10_endRule_24 : decode cX10_endRule 24 = .ok (.aload_n 0, 1) := by decide +kernel
theorem dX10_endRule_25 : decode cX10_endRule 25 = .ok (.getfield 22, 3) := by decide +kernel
theorem dX10_endRule_28 : decode cX10_endRule 28 = .ok (.aload_n 0, 1) := by decide +kernel
theorem dX10_endRule_29 : decode cX10_endRule 29 = .ok (.getfield 9, 3) := by decide +kernel
theorem dX10_endRule_32 : decode cX10_endRule 32 = .ok (.aload_n 0, 1) := by decide +kernel
theorem dX10_endRule_33 : decode cX10_endRule 33 = .ok (.getfield 15, 3) := by decide +kernel
theorem dX10_endRule_36 : decode cX10_endRule 36 = .ok (.iastore, 1) := by decide +kernel
theorem dX10_endRule_37 : decode cX10_endRule 37 = .ok (.aload_n 0, 1) := by decide +kernel
theorem dX10_endRule_38 : decode cX10_endRule 38 = .ok (.getfield 25, 3) := by decide +kernel
theorem dX10_endRule_41 : decode cX10_endRule 41 = .ok (.aload_n 0, 1) := by decide +kernel
theorem dX10_endRule_42 : decode cX10_endRule 42 = .ok (.getfield 9, 3) := by decide +kernel
theorem dX10_endRule_45 : decode cX10_endRule 45 = .ok (.iload_n 1, 1) := by decide +kernel
theorem dX10_endRule_46 : decode cX10_endRule 46 = .ok (.iastore, 1) := by decide +kernel
theorem dX10_endRule_47 : decode cX10_endRule 47 = .ok (.aload_n 0, 1) := by decide +kernel
theorem dX10_endRule_48 : decode cX10_endRule 48 = .ok (.dup, 1) := by decide +kernel
theorem dX10_endRule_49 : decode cX10_endRule 49 = .ok (.getfield 9, 3) := by decide +kernel
theorem dX10_endRule_52 : decode cX10_endRule 52 = .ok (.iconst 1, 1) := by decide +kernel
theorem dX10_endRule_53 : decode cX10_endRule 53 = .ok (.iadd, 1) := by decide +kernel
theorem dX10_endRule_54 : decode cX10_endRule 54 = .ok (.putfield 9, 3) := by decide +kernel
theorem dX10_endRule_57 : decode cX10_endRule 57 = .ok (.return_, 1) := by decide +kernel
theorem dX10_weigh_0 : decode cX10_weigh 0 = .ok (.iconst 0, 1) := by decide +kernel
theorem dX10_weigh_1 : decode cX10_weigh 1 = .ok (.istore_n 2, 1) := by decide +kernel
theorem dX10_weigh_2 : decode cX10_weigh 2 = .ok (.iconst 0, 1) := by decide +kernel
theorem dX10_weigh_3 : decode cX10_weigh 3 = .ok (.istore_n 3, 1) := by decide +kernel
theorem dX10_weigh_4 : decode cX10_weigh 4 = .ok (.iload_n 3, 1) := by decide +kernel
theorem dX10_weigh_5 : decode cX10_weigh 5 = .ok (.aload_n 0, 1) := by decide +kernel
theorem dX10_weigh_6 : decode cX10_weigh 6 = .ok (.getfield 9, 3) := by decide +kernel
theorem dX10_weigh_9 : decode cX10_weigh 9 = .ok (.if_icmp .ge 72, 3) := by decide +kernel
theorem dX10_weigh_12 : decode cX10_weigh 12 = .ok (.iload_n 3, 1) := by decide +kernel
theorem dX10_weigh_13 : decode cX10_weigh 13 = .ok (.aload_n 0, 1) := by decide +kernel
theorem dX10_weigh_14 : decode cX10_weigh 14 = .ok (.getfield 25, 3) := by decide +kernel
theorem dX10_weigh_17 : decode cX10_weigh 17 = .ok (.arraylength, 1) := by decide +kernel
theorem dX10_weigh_18 : decode cX10_weigh 18 = .ok (.if_icmp .ge 63, 3) := by decide +kernel
theorem dX10_weigh_21 : decode cX10_weigh 21 = .ok (.aload_n 0, 1) := by decide +kernel
theorem dX10_weigh_22 : decode cX10_weigh 22 = .ok (.getfield 25, 3) := by decide +kernel
theorem dX10_weigh_25 : decode cX10_weigh 25 = .ok (.iload_n 3, 1) := by decide +kernel
theorem dX10_weigh_26 : decode cX10_weigh 26 = .ok (.iaload, 1) := by decide +kernel
theorem dX10_weigh_27 : decode cX10_weigh 27 = .ok (.ifCond .ne 7, 3) := by decide +kernel
theorem dX10_weigh_30 : decode cX10_weigh 30 = .ok (.iconst 1, 1) := by decide +kernel
theorem dX10_weigh_31 : decode cX10_weigh 31 = .ok (.goto 4, 3) := by decide +kernel
theorem dX10_weigh_34 : decode cX10_weigh 34 = .ok (.iconst 0, 1) := by decide +kernel
theorem dX10_weigh_35 : decode cX10_weigh 35 = .ok (.istore 4, 2) := by decide +kernel
theorem dX10_weigh_37 : decode cX10_weigh 37 = .ok (.iload 4, 2) := by decide +kernel
theorem dX10_weigh_39 : decode cX10_weigh 39 = .ok (.ifCond .ne 13, 3) := by decide +kernel
theorem dX10_weigh_42 : decode cX10_weigh 42 = .ok (.aload_n 0, 1) := by decide +kernel
theorem dX10_weigh_43 : decode cX10_weigh 43 = .ok (.getfield 25, 3) := by decide +kernel
theorem dX10_weigh_46 : decode cX10_weigh 46 = .ok (.iload_n 3, 1) := by decide +kernel
theorem dX10_weigh_47 : decode cX10_weigh 47 = .ok (.iaload, 1) := by decide +kernel
theorem dX10_weigh_48 : decode cX10_weigh 48 = .ok (.iload_n 2, 1) := by decide +kernel
theorem dX10_weigh_49 : decode cX10_weigh 49 = .ok (.if_icmp .le 26, 3) := by decide +kernel
theorem dX10_weigh_52 : decode cX10_weigh 52 = .ok (.aload_n 0, 1) := by decide +kernel
theorem dX10_weigh_53 : decode cX10_weigh 53 = .ok (.iload_n 3, 1) := by decide +kernel
theorem dX10_weigh_54 : decode cX10_weigh 54 = .ok (.aload_n 1, 1) := by decide +kernel
theorem dX10_weigh_55 : decode cX10_weigh 55 = .ok (.invokevirtual 31, 3) := by decide +kernel
theorem dX10_weigh_58 : decode cX10_weigh 58 = .ok (.ifCond .eq 17, 3) := by decide +kernel
theorem dX10_weigh_61 : decode cX10_weigh 61 = .ok (.iload 4, 2) := by decide +kernel
theorem dX10_weigh_63 : decode cX10_weigh 63 = .ok (.ifCond .eq 5, 3) := by decide +kernel
theorem dX10_weigh_66 : decode cX10_weigh 66 = .ok (.iconst 0, 1) := by decide +kernel
theorem dX10_weigh_67 : decode cX10_weigh 67 = .ok (.ireturn, 1) := by decide +kernel
theorem dX10_weigh_68 : decode cX10_weigh 68 = .ok (.aload_n 0, 1) := by decide +kernel
theorem dX10_weigh_69 : decode cX10_weigh 69 = .ok (.getfield 25, 3) := by decide +kernel
theorem dX10_weigh_72 : decode cX10_weigh 72 = .ok (.iload_n 3, 1) := by decide +kernel
theorem dX10_weigh_73 : decode cX10_weigh 73 = .ok (.iaload, 1) := by decide +kernel
theorem dX10_weigh_74 : decode cX10_weigh 74 = .ok (.istore_n 2, 1) := by decide +kernel
theorem dX10_weigh_75 : decode cX10_weigh 75 = .ok (.iinc 3 1, 3) := by decide +kernel
theorem dX10_weigh_78 : decode cX10_weigh 78 = .ok (.goto (-74), 3) := by decide +kernel
theorem dX10_weigh_81 : decode cX10_weigh 81 = .ok (.iload_n 2, 1) := by decide +kernel
theorem dX10_weigh_82 : decode cX10_weigh 82 = .ok (.ireturn, 1) := by decide +kernel
theorem dX10_isMet_0 : decode cX10_isMet 0 = .ok (.iload_n 1, 1) := by decide +kernel
theorem dX10_isMet_1 : decode cX10_isMet 1 = .ok (.ifCond .lt 20, 3) := by decide +kernel
theorem dX10_isMet_4 : decode cX10_isMet 4 = .ok (.iload_n 1, 1) := by decide +kernel
theorem dX10_isMet_5 : decode cX10_isMet 5 = .ok (.aload_n 0, 1) := by decide +kernel
theorem dX10_isMet_6 : decode cX10_isMet 6 = .ok (.getfield 9, 3) := by decide +kernel
theorem dX10_isMet_9 : decode cX10_isMet 9 = .ok (.if_icmp .ge 12, 3) := by decide +kernel
theorem dX10_isMet_12 : decode cX10_isMet 12 = .ok (.iload_n 1, 1) := by decide +kernel
theorem dX10_isMet_13 : decode cX10_isMet 13 = .ok (.aload_n 0, 1) := by decide +kernel
theorem dX10_isMet_14 : decode cX10_isMet 14 = .ok (.getfield 22, 3) := by decide +kernel
theorem dX10_isMet_17 : decode cX10_isMet 17 = .ok (.arraylength, 1) := by decide +kernel
theorem dX10_isMet_18 : decode cX10_isMet 18 = .ok (.if_icmp .lt 5, 3) := by decide +kernel
theorem dX10_isMet_21 : decode cX10_isMet 21 = .ok (.iconst 0, 1) := by decide +kernel
theorem dX10_isMet_22 : decode cX10_isMet 22 = .ok (.ireturn, 1) := by decide +kernel
theorem dX10_isMet_23 : decode cX10_isMet 23 = .ok (.iconst 0, 1) := by decide +kernel
theorem dX10_isMet_24 : decode cX10_isMet 24 = .ok (.istore_n 3, 1) := by decide +kernel
theorem dX10_isMet_25 : decode cX10_isMet 25 = .ok (.aload_n 0, 1) := by decide +kernel
theorem dX10_isMet_26 : decode cX10_isMet 26 = .ok (.getfield 22, 3) := by decide +kernel
theorem dX10_isMet_29 : decode cX10_isMet 29 = .ok (.iload_n 1, 1) := by decide +kernel
theorem dX10_isMet_30 : decode cX10_isMet 30 = .ok (.iaload, 1) := by decide +kernel
theorem dX10_isMet_31 : decode cX10_isMet 31 = .ok (.aload_n 0, 1) := by decide +kernel
theorem dX10_isMet_32 : decode cX10_isMet 32 = .ok (.getfield 18, 3) := by decide +kernel
theorem dX10_isMet_35 : decode cX10_isMet 35 = .ok (.arraylength, 1) := by decide +kernel
theorem dX10_isMet_36 : decode cX10_isMet 36 = .ok (.invokestatic 35, 3) := by decide +kernel
theorem dX10_isMet_39 : decode cX10_isMet 39 = .ok (.istore 4, 2) := by decide +kernel
theorem dX10_isMet_41 : decode cX10_isMet 41 = .ok (.iload_n 1, 1) := by decide +kernel
theorem dX10_isMet_42 : decode cX10_isMet 42 = .ok (.ifCond .ne 7, 3) := by decide +kernel
theorem dX10_isMet_45 : decode cX10_isMet 45 = .ok (.iconst 0, 1) := by decide +kernel
theorem dX10_isMet_46 : decode cX10_isMet 46 = .ok (.goto 15, 3) := by decide +kernel
theorem dX10_isMet_49 : decode cX10_isMet 49 = .ok (.aload_n 0, 1) := by decide +kernel
theorem dX10_isMet_50 : decode cX10_isMet 50 = .ok (.getfield 22, 3) := by decide +kernel
theorem dX10_isMet_53 : decode cX10_isMet 53 = .ok (.iload_n 1, 1) := by decide +kernel
theorem dX10_isMet_54 : decode cX10_isMet 54 = .ok (.iconst 1, 1) := by decide +kernel
theorem dX10_isMet_55 : decode cX10_isMet 55 = .ok (.isub, 1) := by decide +kernel
theorem dX10_isMet_56 : decode cX10_isMet 56 = .ok (.iaload, 1) := by decide +kernel
theorem dX10_isMet_57 : decode cX10_isMet 57 = .ok (.iconst 0, 1) := by decide +kernel
theorem dX10_isMet_58 : decode cX10_isMet 58 = .ok (.invokestatic 41, 3) := by decide +kernel
theorem dX10_isMet_61 : decode cX10_isMet 61 = .ok (.istore 5, 2) := by decide +kernel
theorem dX10_isMet_63 : decode cX10_isMet 63 = .ok (.iload 5, 2) := by decide +kernel
theorem dX10_isMet_65 : decode cX10_isMet 65 = .ok (.iload 4, 2) := by decide +kernel
theorem dX10_isMet_67 : decode cX10_isMet 67 = .ok (.if_icmp .ge 103, 3) := by decide +kernel
theorem dX10_isMet_70 : decode cX10_isMet 70 = .ok (.aload_n 0, 1) := by decide +kernel
theorem dX10_isMet_71 : decode cX10_isMet 71 = .ok (.getfield 18, 3) := by decide +kernel
theorem dX10_isMet_74 : decode cX10_isMet 74 = .ok (.iload 5, 2) := by decide +kernel
theorem dX10_isMet_76 : decode cX10_isMet 76 = .ok (.iaload, 1) := by decide +kernel
theorem dX10_isMet_77 : decode cX10_isMet 77 = .ok (.istore 6, 2) := by decide +kernel
theorem dX10_isMet_79 : decode cX10_isMet 79 = .ok (.iload 6, 2) := by decide +kernel
theorem dX10_isMet_81 : decode cX10_isMet 81 = .ok (.bipush (-11), 2) := by decide +kernel
theorem dX10_isMet_83 : decode cX10_isMet 83 = .ok (.if_icmp .gt 44, 3) := by decide +kernel
theorem dX10_isMet_86 : decode cX10_isMet 86 = .ok (.iload_n 3, 1) := by decide +kernel
theorem dX10_isMet_87 : decode cX10_isMet 87 = .ok (.iconst 2, 1) := by decide +kernel
theorem dX10_isMet_88 : decode cX10_isMet 88 = .ok (.if_icmp .ge 5, 3) := by decide +kernel
theorem dX10_isMet_91 : decode cX10_isMet 91 = .ok (.iconst 0, 1) := by decide +kernel
theorem dX10_isMet_92 : decode cX10_isMet 92 = .ok (.ireturn, 1) := by decide +kernel
theorem dX10_isMet_93 : decode cX10_isMet 93 = .ok (.iinc 3 (-1), 3) := by decide +kernel
theorem dX10_isMet_96 : decode cX10_isMet 96 = .ok (.aload_n 0, 1) := by decide +kernel
theorem dX10_isMet_97 : decode cX10_isMet 97 = .ok (.getfield 28, 3) := by decide +kernel
theorem dX10_isMet_100 : decode cX10_isMet 100 = .ok (.iload_n 3, 1) := by decide +kernel
theorem dX10_isMet_101 : decode cX10_isMet 101 = .ok (.iconst 1, 1) := by decide +kernel
theorem dX10_isMet_102 : decode cX10_isMet 102 = .ok (.isub, 1) := by decide +kernel
theorem dX10_isMet_103 : decode cX10_isMet 103 = .ok (.iload 6, 2) := by decide +kernel
theorem dX10_isMet_105 : decode cX10_isMet 105 = .ok (.ineg, 1) := by decide +kernel
theorem dX10_isMet_106 : decode cX10_isMet 106 = .ok (.aload_n 0, 1) := by decide +kernel
theorem dX10_isMet_107 : decode cX10_isMet 107 = .ok (.getfield 28, 3) := by decide +kernel
theorem dX10_isMet_110 : decode cX10_isMet 110 = .ok (.iload_n 3, 1) := by decide +kernel
theorem dX10_isMet_111 : decode cX10_isMet 111 = .ok (.iconst 1, 1) := by decide +kernel
theorem dX10_isMet_112 : decode cX10_isMet 112 = .ok (.isub, 1) := by decide +kernel
theorem dX10_isMet_113 : decode cX10_isMet 113 = .ok (.iaload, 1) := by decide +kernel
theorem dX10_isMet_114 : decode cX10_isMet 114 = .ok (.aload_n 0, 1) := by decide +kernel
theorem dX10_isMet_115 : decode cX10_isMet 115 = .ok (.getfield 28, 3) := by decide +kernel
theorem dX10_isMet_118 : decode cX10_isMet 118 = .ok (.iload_n 3, 1) := by decide +kernel
theorem dX10_isMet_119 : decode cX10_isMet 119 = .ok (.iaload, 1) := by decide +kernel
theorem dX10_isMet_120 : decode cX10_isMet 120 = .ok (.invokestatic 44, 3) := by decide +kernel
theorem dX10_isMet_123 : decode cX10_isMet 123 = .ok (.iastore, 1) := by decide +kernel
theorem dX10_isMet_124 : decode cX10_isMet 124 = .ok (.goto 40, 3) := by decide +kernel
theorem dX10_isMet_127 : decode cX10_isMet 127 = .ok (.iload_n 3, 1) := by decide +kernel
theorem dX10_isMet_128 : decode cX10_isMet 128 = .ok (.aload_n 0, 1) := by decide +kernel
theorem dX10_isMet_129 : decode cX10_isMet 129 = .ok (.getfield 28, 3) := by decide +kernel
theorem dX10_isMet_132 : decode cX10_isMet 132 = .ok (.arraylength, 1) := by decide +kernel
theorem dX10_isMet_133 : decode cX10_isMet 133 = .ok (.if_icmp .lt 5, 3) := by decide +kernel
theorem dX10_isMet_136 : decode cX10_isMet 136 = .ok (.iconst 0, 1) := by decide +kernel
theorem dX10_isMet_137 : decode cX10_isMet 137 = .ok (.ireturn, 1) := by decide +kernel
theorem dX10_isMet_138 : decode cX10_isMet 138 = .ok (.aload_n 0, 1) := by decide +kernel
theorem dX10_isMet_139 : decode cX10_isMet 139 = .ok (.getfield 28, 3) := by decide +kernel
theorem dX10_isMet_142 : decode cX10_isMet 142 = .ok (.iload_n 3, 1) := by decide +kernel
theorem dX10_isMet_143 : decode cX10_isMet 143 = .ok (.iload 6, 2) := by decide +kernel
theorem dX10_isMet_145 : decode cX10_isMet 145 = .ok (.ifCond .lt 8, 3) := by decide +kernel
theorem dX10_isMet_148 : decode cX10_isMet 148 = .ok (.iload 6, 2) := by decide +kernel
theorem dX10_isMet_150 : decode cX10_isMet 150 = .ok (.goto 10, 3) := by decide +kernel
theorem dX10_isMet_153 : decode cX10_isMet 153 = .ok (.iload 6, 2) := by decide +kernel
theorem dX10_isMet_155 : decode cX10_isMet 155 = .ok (.ineg, 1) := by decide +kernel
theorem dX10_isMet_156 : decode cX10_isMet 156 = .ok (.aload_n 2, 1) := by decide +kernel
theorem dX10_isMet_157 : decode cX10_isMet 157 = .ok (.invokestatic 48, 3) := by decide +kernel
theorem dX10_isMet_160 : decode cX10_isMet 160 = .ok (.iastore, 1) := by decide +kernel
theorem dX10_isMet_161 : decode cX10_isMet 161 = .ok (.iinc 3 1, 3) := by decide +kernel
theorem dX10_isMet_164 : decode cX10_isMet 164 = .ok (.iinc 5 1, 3) := by decide +kernel
theorem dX10_isMet_167 : decode cX10_isMet 167 = .ok (.goto (-104), 3) := by decide +kernel
theorem dX10_isMet_170 : decode cX10_isMet 170 = .ok (.iload_n 3, 1) := by decide +kernel
theorem dX10_isMet_171 : decode cX10_isMet 171 = .ok (.iconst 1, 1) := by decide +kernel
theorem dX10_isMet_172 : decode cX10_isMet 172 = .ok (.if_icmp .ne 16, 3) := by decide +kernel
theorem dX10_isMet_175 : decode cX10_isMet 175 = .ok (.aload_n 0, 1) := by decide +kernel
theorem dX10_isMet_176 : decode cX10_isMet 176 = .ok (.getfield 28, 3) := by decide +kernel
theorem dX10_isMet_179 : decode cX10_isMet 179 = .ok (.iconst 0, 1) := by decide +kernel
theorem dX10_isMet_180 : decode cX10_isMet 180 = .ok (.iaload, 1) := by decide +kernel
theorem dX10_isMet_181 : decode cX10_isMet 181 = .ok (.ifCond .eq 7, 3) := by decide +kernel
theorem dX10_isMet_184 : decode cX10_isMet 184 = .ok (.iconst 1, 1) := by decide +kernel
theorem dX10_isMet_185 : decode cX10_isMet 185 = .ok (.goto 4, 3) := by decide +kernel
theorem dX10_isMet_188 : decode cX10_isMet 188 = .ok (.iconst 0, 1) := by decide +kernel
theorem dX10_isMet_189 : decode cX10_isMet 189 = .ok (.ireturn, 1) := by decide +kernel
theorem dX10_valueOf_0 : decode cX10_valueOf 0 = .ok (.iload_n 0, 1) := by decide +kernel
theorem dX10_valueOf_1 : decode cX10_valueOf 1 = .ok (.tableswitch 100 2 9 #[47, 52, 57, 62, 67, 72, 82, 87], 47) := by decide +kernel
theorem dX10_valueOf_48 : decode cX10_valueOf 48 = .ok (.aload_n 1, 1) := by decide +kernel
theorem dX10_valueOf_49 : decode cX10_valueOf 49 = .ok (.getfield 52, 3) := by decide +kernel
theorem dX10_valueOf_52 : decode cX10_valueOf 52 = .ok (.ireturn, 1) := by decide +kernel
theorem dX10_valueOf_53 : decode cX10_valueOf 53 = .ok (.aload_n 1, 1) := by decide +kernel
theorem dX10_valueOf_54 : decode cX10_valueOf 54 = .ok (.getfield 57, 3) := by decide +kernel
theorem dX10_valueOf_57 : decode cX10_valueOf 57 = .ok (.ireturn, 1) := by decide +kernel
theorem dX10_valueOf_58 : decode cX10_valueOf 58 = .ok (.aload_n 1, 1) := by decide +kernel
theorem dX10_valueOf_59 : decode cX10_valueOf 59 = .ok (.getfield 60, 3) := by decide +kernel
theorem dX10_valueOf_62 : decode cX10_valueOf 62 = .ok (.ireturn, 1) := by decide +kernel
theorem dX10_valueOf_63 : decode cX10_valueOf 63 = .ok (.aload_n 1, 1) := by decide +kernel
theorem dX10_valueOf_64 : decode cX10_valueOf 64 = .ok (.getfield 63, 3) := by decide +kernel
theorem dX10_valueOf_67 : decode cX10_valueOf 67 = .ok (.ireturn, 1) := by decide +kernel
theorem dX10_valueOf_68 : decode cX10_valueOf 68 = .ok (.aload_n 1, 1) := by decide +kernel
theorem dX10_valueOf_69 : decode cX10_valueOf 69 = .ok (.getfield 66, 3) := by decide +kernel
theorem dX10_valueOf_72 : decode cX10_valueOf 72 = .ok (.ireturn, 1) := by decide +kernel
theorem dX10_valueOf_73 : decode cX10_valueOf 73 = .ok (.aload_n 1, 1) := by decide +kernel
theorem dX10_valueOf_74 : decode cX10_valueOf 74 = .ok (.getfield 66, 3) := by decide +kernel
theorem dX10_valueOf_77 : decode cX10_valueOf 77 = .ok (.aload_n 1, 1) := by decide +kernel
theorem dX10_valueOf_78 : decode cX10_valueOf 78 = .ok (.getfield 63, 3) := by decide +kernel
theorem dX10_valueOf_81 : decode cX10_valueOf 81 = .ok (.isub, 1) := by decide +kernel
theorem dX10_valueOf_82 : decode cX10_valueOf 82 = .ok (.ireturn, 1) := by decide +kernel
theorem dX10_valueOf_83 : decode cX10_valueOf 83 = .ok (.aload_n 1, 1) := by decide +kernel
theorem dX10_valueOf_84 : decode cX10_valueOf 84 = .ok (.getfield 69, 3) := by decide +kernel
theorem dX10_valueOf_87 : decode cX10_valueOf 87 = .ok (.ireturn, 1) := by decide +kernel
theorem dX10_valueOf_88 : decode cX10_valueOf 88 = .ok (.aload_n 1, 1) := by decide +kernel
theorem dX10_valueOf_89 : decode cX10_valueOf 89 = .ok (.getfield 72, 3) := by decide +kernel
theorem dX10_valueOf_92 : decode cX10_valueOf 92 = .ok (.ifCond .eq 7, 3) := by decide +kernel
theorem dX10_valueOf_95 : decode cX10_valueOf 95 = .ok (.iconst 1, 1) := by decide +kernel
theorem dX10_valueOf_96 : decode cX10_valueOf 96 = .ok (.goto 4, 3) := by decide +kernel
theorem dX10_valueOf_99 : decode cX10_valueOf 99 = .ok (.iconst 0, 1) := by decide +kernel
theorem dX10_valueOf_100 : decode cX10_valueOf 100 = .ok (.ireturn, 1) := by decide +kernel
theorem dX10_valueOf_101 : decode cX10_valueOf 101 = .ok (.aload_n 1, 1) := by decide +kernel
theorem dX10_valueOf_102 : decode cX10_valueOf 102 = .ok (.getfield 76, 3) := by decide +kernel
theorem dX10_valueOf_105 : decode cX10_valueOf 105 = .ok (.aload_n 1, 1) := by decide +kernel
theorem dX10_valueOf_106 : decode cX10_valueOf 106 = .ok (.getfield 79, 3) := by decide +kernel
theorem dX10_valueOf_109 : decode cX10_valueOf 109 = .ok (.if_icmp .ne 7, 3) := by decide +kernel
theorem dX10_valueOf_112 : decode cX10_valueOf 112 = .ok (.iconst 1, 1) := by decide +kernel
theorem dX10_valueOf_113 : decode cX10_valueOf 113 = .ok (.goto 4, 3) := by decide +kernel
theorem dX10_valueOf_116 : decode cX10_valueOf 116 = .ok (.iconst 0, 1) := by decide +kernel
theorem dX10_valueOf_117 : decode cX10_valueOf 117 = .ok (.ireturn, 1) := by decide +kernel
theorem dX10_join_0 : decode cX10_join 0 = .ok (.iload_n 0, 1) := by decide +kernel
theorem dX10_join_1 : decode cX10_join 1 = .ok (.tableswitch 107 11 18 #[47, 51, 55, 66, 77, 88, 99, 103], 47) := by decide +kernel
theorem dX10_join_48 : decode cX10_join 48 = .ok (.iload_n 1, 1) := by decide +kernel
theorem dX10_join_49 : decode cX10_join 49 = .ok (.iload_n 2, 1) := by decide +kernel
theorem dX10_join_50 : decode cX10_join 50 = .ok (.ior, 1) := by decide +kernel
theorem dX10_join_51 : decode cX10_join 51 = .ok (.ireturn, 1) := by decide +kernel
theorem dX10_join_52 : decode cX10_join 52 = .ok (.iload_n 1, 1) := by decide +kernel
theorem dX10_join_53 : decode cX10_join 53 = .ok (.iload_n 2, 1) := by decide +kernel
theorem dX10_join_54 : decode cX10_join 54 = .ok (.iand, 1) := by decide +kernel
theorem dX10_join_55 : decode cX10_join 55 = .ok (.ireturn, 1) := by decide +kernel
theorem dX10_join_56 : decode cX10_join 56 = .ok (.iload_n 1, 1) := by decide +kernel
theorem dX10_join_57 : decode cX10_join 57 = .ok (.iload_n 2, 1) := by decide +kernel
theorem dX10_join_58 : decode cX10_join 58 = .ok (.if_icmp .ne 7, 3) := by decide +kernel
theorem dX10_join_61 : decode cX10_join 61 = .ok (.iconst 1, 1) := by decide +kernel
theorem dX10_join_62 : decode cX10_join 62 = .ok (.goto 4, 3) := by decide +kernel
theorem dX10_join_65 : decode cX10_join 65 = .ok (.iconst 0, 1) := by decide +kernel
theorem dX10_join_66 : decode cX10_join 66 = .ok (.ireturn, 1) := by decide +kernel
theorem dX10_join_67 : decode cX10_join 67 = .ok (.iload_n 1, 1) := by decide +kernel
theorem dX10_join_68 : decode cX10_join 68 = .ok (.iload_n 2, 1) := by decide +kernel
theorem dX10_join_69 : decode cX10_join 69 = .ok (.if_icmp .eq 7, 3) := by decide +kernel
theorem dX10_join_72 : decode cX10_join 72 = .ok (.iconst 1, 1) := by decide +kernel
theorem dX10_join_73 : decode cX10_join 73 = .ok (.goto 4, 3) := by decide +kernel
theorem dX10_join_76 : decode cX10_join 76 = .ok (.iconst 0, 1) := by decide +kernel
theorem dX10_join_77 : decode cX10_join 77 = .ok (.ireturn, 1) := by decide +kernel
theorem dX10_join_78 : decode cX10_join 78 = .ok (.iload_n 1, 1) := by decide +kernel
theorem dX10_join_79 : decode cX10_join 79 = .ok (.iload_n 2, 1) := by decide +kernel
theorem dX10_join_80 : decode cX10_join 80 = .ok (.if_icmp .ge 7, 3) := by decide +kernel
theorem dX10_join_83 : decode cX10_join 83 = .ok (.iconst 1, 1) := by decide +kernel
theorem dX10_join_84 : decode cX10_join 84 = .ok (.goto 4, 3) := by decide +kernel
theorem dX10_join_87 : decode cX10_join 87 = .ok (.iconst 0, 1) := by decide +kernel
theorem dX10_join_88 : decode cX10_join 88 = .ok (.ireturn, 1) := by decide +kernel
theorem dX10_join_89 : decode cX10_join 89 = .ok (.iload_n 1, 1) := by decide +kernel
theorem dX10_join_90 : decode cX10_join 90 = .ok (.iload_n 2, 1) := by decide +kernel
theorem dX10_join_91 : decode cX10_join 91 = .ok (.if_icmp .gt 7, 3) := by decide +kernel
theorem dX10_join_94 : decode cX10_join 94 = .ok (.iconst 1, 1) := by decide +kernel
theorem dX10_join_95 : decode cX10_join 95 = .ok (.goto 4, 3) := by decide +kernel
theorem dX10_join_98 : decode cX10_join 98 = .ok (.iconst 0, 1) := by decide +kernel
theorem dX10_join_99 : decode cX10_join 99 = .ok (.ireturn, 1) := by decide +kernel
theorem dX10_join_100 : decode cX10_join 100 = .ok (.iload_n 1, 1) := by decide +kernel
theorem dX10_join_101 : decode cX10_join 101 = .ok (.iload_n 2, 1) := by decide +kernel
theorem dX10_join_102 : decode cX10_join 102 = .ok (.iadd, 1) := by decide +kernel
theorem dX10_join_103 : decode cX10_join 103 = .ok (.ireturn, 1) := by decide +kernel
theorem dX10_join_104 : decode cX10_join 104 = .ok (.iload_n 1, 1) := by decide +kernel
theorem dX10_join_105 : decode cX10_join 105 = .ok (.iload_n 2, 1) := by decide +kernel
theorem dX10_join_106 : decode cX10_join 106 = .ok (.isub, 1) := by decide +kernel
theorem dX10_join_107 : decode cX10_join 107 = .ok (.ireturn, 1) := by decide +kernel
theorem dX10_join_108 : decode cX10_join 108 = .ok (.iload_n 1, 1) := by decide +kernel
theorem dX10_join_109 : decode cX10_join 109 = .ok (.iload_n 2, 1) := by decide +kernel
theorem dX10_join_110 : decode cX10_join 110 = .ok (.imul, 1) := by decide +kernel
theorem dX10_join_111 : decode cX10_join 111 = .ok (.ireturn, 1) := by decide +kernel
theorem dX11_init_0 : decode cX11_init 0 = .ok (.aload_n 0, 1) := by decide +kernel
theorem dX11_init_1 : decode cX11_init 1 = .ok (.invokespecial 3, 3) := by decide +kernel
theorem dX11_init_4 : decode cX11_init 4 = .ok (.aload_n 0, 1) := by decide +kernel
theorem dX11_init_5 : decode cX11_init 5 = .ok (.new 9, 3) := by decide +kernel
theorem dX11_init_8 : decode cX11_init 8 = .ok (.dup, 1) := by decide +kernel
theorem dX11_init_9 : decode cX11_init 9 = .ok (.invokespecial 11, 3) := by decide +kernel
theorem dX11_init_12 : decode cX11_init 12 = .ok (.putfield 12, 3) := by decide +kernel
theorem dX11_init_15 : decode cX11_init 15 = .ok (.aload_n 0, 1) := by decide +kernel
theorem dX11_init_16 : decode cX11_init 16 = .ok (.new 16, 3) := by decide +kernel
theorem dX11_init_19 : decode cX11_init 19 = .ok (.dup, 1) := by decide +kernel
theorem dX11_init_20 : decode cX11_init 20 = .ok (.invokespecial 18, 3) := by decide +kernel
theorem dX11_init_23 : decode cX11_init 23 = .ok (.putfield 19, 3) := by decide +kernel
theorem dX11_init_26 : decode cX11_init 26 = .ok (.aload_n 0, 1) := by decide +kernel
theorem dX11_init_27 : decode cX11_init 27 = .ok (.new 23, 3) := by decide +kernel
theorem dX11_init_30 : decode cX11_init 30 = .ok (.dup, 1) := by decide +kernel
theorem dX11_init_31 : decode cX11_init 31 = .ok (.invokespecial 25, 3) := by decide +kernel
theorem dX11_init_34 : decode cX11_init 34 = .ok (.putfield 26, 3) := by decide +kernel
theorem dX11_init_37 : decode cX11_init 37 = .ok (.aload_n 0, 1) := by decide +kernel
theorem dX11_init_38 : decode cX11_init 38 = .ok (.new 30, 3) := by decide +kernel
theorem dX11_init_41 : decode cX11_init 41 = .ok (.dup, 1) := by decide +kernel
theorem dX11_init_42 : decode cX11_init 42 = .ok (.invokespecial 32, 3) := by decide +kernel
theorem dX11_init_45 : decode cX11_init 45 = .ok (.putfield 33, 3) := by decide +kernel
theorem dX11_init_48 : decode cX11_init 48 = .ok (.aload_n 0, 1) := by decide +kernel
theorem dX11_init_49 : decode cX11_init 49 = .ok (.new 37, 3) := by decide +kernel
theorem dX11_init_52 : decode cX11_init 52 = .ok (.dup, 1) := by decide +kernel
theorem dX11_init_53 : decode cX11_init 53 = .ok (.invokespecial 39, 3) := by decide +kernel
theorem dX11_init_56 : decode cX11_init 56 = .ok (.putfield 40, 3) := by decide +kernel
theorem dX11_init_59 : decode cX11_init 59 = .ok (.aload_n 0, 1) := by decide +kernel
theorem dX11_init_60 : decode cX11_init 60 = .ok (.new 44, 3) := by decide +kernel
theorem dX11_init_63 : decode cX11_init 63 = .ok (.dup, 1) := by decide +kernel
theorem dX11_init_64 : decode cX11_init 64 = .ok (.invokespecial 46, 3) := by decide +kernel
theorem dX11_init_67 : decode cX11_init 67 = .ok (.putfield 47, 3) := by decide +kernel
theorem dX11_init_70 : decode cX11_init 70 = .ok (.aload_n 0, 1) := by decide +kernel
theorem dX11_init_71 : decode cX11_init 71 = .ok (.new 44, 3) := by decide +kernel
theorem dX11_init_74 : decode cX11_init 74 = .ok (.dup, 1) := by decide +kernel
theorem dX11_init_75 : decode cX11_init 75 = .ok (.invokespecial 46, 3) := by decide +kernel
theorem dX11_init_78 : decode cX11_init 78 = .ok (.putfield 51, 3) := by decide +kernel
theorem dX11_init_81 : decode cX11_init 81 = .ok (.aload_n 0, 1) := by decide +kernel
theorem dX11_init_82 : decode cX11_init 82 = .ok (.new 54, 3) := by decide +kernel
theorem dX11_init_85 : decode cX11_init 85 = .ok (.dup, 1) := by decide +kernel
theorem dX11_init_86 : decode cX11_init 86 = .ok (.invokespecial 56, 3) := by decide +kernel
theorem dX11_init_89 : decode cX11_init 89 = .ok (.putfield 57, 3) := by decide +kernel
theorem dX11_init_92 : decode cX11_init 92 = .ok (.aload_n 0, 1) := by decide +kernel
theorem dX11_init_93 : decode cX11_init 93 = .ok (.new 54, 3) := by decide +kernel
theorem dX11_init_96 : decode cX11_init 96 = .ok (.dup, 1) := by decide +kernel
theorem dX11_init_97 : decode cX11_init 97 = .ok (.invokespecial 56, 3) := by decide +kernel
theorem dX11_init_100 : decode cX11_init 100 = .ok (.putfield 61, 3) := by decide +kernel
theorem dX11_init_103 : decode cX11_init 103 = .ok (.return_, 1) := by decide +kernel
theorem dX11_feed_0 : decode cX11_feed 0 = .ok (.aload_n 0, 1) := by decide +kernel
theorem dX11_feed_1 : decode cX11_feed 1 = .ok (.getfield 26, 3) := by decide +kernel
theorem dX11_feed_4 : decode cX11_feed 4 = .ok (.getfield 64, 3) := by decide +kernel
theorem dX11_feed_7 : decode cX11_feed 7 = .ok (.sipush 1980, 3) := by decide +kernel
theorem dX11_feed_10 : decode cX11_feed 10 = .ok (.if_icmp .le 5, 3) := by decide +kernel
theorem dX11_feed_13 : decode cX11_feed 13 = .ok (.iconst (-1), 1) := by decide +kernel
theorem dX11_feed_14 : decode cX11_feed 14 = .ok (.ireturn, 1) := by decide +kernel
theorem dX11_feed_15 : decode cX11_feed 15 = .ok (.aload_n 0, 1) := by decide +kernel
theorem dX11_feed_16 : decode cX11_feed 16 = .ok (.getfield 26, 3) := by decide +kernel
theorem dX11_feed_19 : decode cX11_feed 19 = .ok (.iload_n 1, 1) := by decide +kernel
theorem dX11_feed_20 : decode cX11_feed 20 = .ok (.invokevirtual 68, 3) := by decide +kernel
theorem dX11_feed_23 : decode cX11_feed 23 = .ok (.aload_n 0, 1) := by decide +kernel
theorem dX11_feed_24 : decode cX11_feed 24 = .ok (.getfield 26, 3) := by decide +kernel
theorem dX11_feed_27 : decode cX11_feed 27 = .ok (.iload_n 2, 1) := by decide +kernel
theorem dX11_feed_28 : decode cX11_feed 28 = .ok (.invokevirtual 68, 3) := by decide +kernel
theorem dX11_feed_31 : decode cX11_feed 31 = .ok (.aload_n 0, 1) := by decide +kernel
theorem dX11_feed_32 : decode cX11_feed 32 = .ok (.getfield 26, 3) := by decide +kernel
theorem dX11_feed_35 : decode cX11_feed 35 = .ok (.iload_n 3, 1) := by decide +kernel
theorem dX11_feed_36 : decode cX11_feed 36 = .ok (.invokevirtual 68, 3) := by decide +kernel
theorem dX11_feed_39 : decode cX11_feed 39 = .ok (.aload_n 0, 1) := by decide +kernel
theorem dX11_feed_40 : decode cX11_feed 40 = .ok (.getfield 26, 3) := by decide +kernel
theorem dX11_feed_43 : decode cX11_feed 43 = .ok (.iload 4, 2) := by decide +kernel
theorem dX11_feed_45 : decode cX11_feed 45 = .ok (.invokevirtual 68, 3) := by decide +kernel
theorem dX11_feed_48 : decode cX11_feed 48 = .ok (.aload_n 0, 1) := by decide +kernel
theorem dX11_feed_49 : decode cX11_feed 49 = .ok (.getfield 26, 3) := by decide +kernel
theorem dX11_feed_52 : decode cX11_feed 52 = .ok (.iload 5, 2) := by decide +kernel
theorem dX11_feed_54 : decode cX11_feed 54 = .ok (.invokevirtual 68, 3) := by decide +kernel
theorem dX11_feed_57 : decode cX11_feed 57 = .ok (.aload_n 0, 1) := by decide +kernel
theorem dX11_feed_58 : decode cX11_feed 58 = .ok (.getfield 26, 3) := by decide +kernel
theorem dX11_feed_61 : decode cX11_feed 61 = .ok (.getfield 64, 3) := by decide +kernel
theorem dX11_feed_64 : decode cX11_feed 64 = .ok (.ireturn, 1) := by decide +kernel
theorem dX11_back_0 : decode cX11_back 0 = .ok (.iload_n 1, 1) := by decide +kernel
theorem dX11_back_1 : decode cX11_back 1 = .ok (.ifCond .lt 14, 3) := by decide +kernel
theorem dX11_back_4 : decode cX11_back 4 = .ok (.iload_n 1, 1) := by decide +kernel
theorem dX11_back_5 : decode cX11_back 5 = .ok (.aload_n 0, 1) := by decide +kernel
theorem dX11_back_6 : decode cX11_back 6 = .ok (.getfield 26, 3) := by decide +kernel
theorem dX11_back_9 : decode cX11_back 9 = .ok (.getfield 64, 3) := by decide +kernel
theorem dX11_back_12 : decode cX11_back 12 = .ok (.if_icmp .le 5, 3) := by decide +kernel
theorem dX11_back_15 : decode cX11_back 15 = .ok (.iconst (-1), 1) := by decide +kernel
theorem dX11_back_16 : decode cX11_back 16 = .ok (.ireturn, 1) := by decide +kernel
theorem dX11_back_17 : decode cX11_back 17 = .ok (.aload_n 0, 1) := by decide +kernel
theorem dX11_back_18 : decode cX11_back 18 = .ok (.getfield 26, 3) := by decide +kernel
theorem dX11_back_21 : decode cX11_back 21 = .ok (.dup, 1) := by decide +kernel
theorem dX11_back_22 : decode cX11_back 22 = .ok (.getfield 64, 3) := by decide +kernel
theorem dX11_back_25 : decode cX11_back 25 = .ok (.iload_n 1, 1) := by decide +kernel
theorem dX11_back_26 : decode cX11_back 26 = .ok (.isub, 1) := by decide +kernel
theorem dX11_back_27 : decode cX11_back 27 = .ok (.putfield 64, 3) := by decide +kernel
theorem dX11_back_30 : decode cX11_back 30 = .ok (.aload_n 0, 1) := by decide +kernel
theorem dX11_back_31 : decode cX11_back 31 = .ok (.getfield 26, 3) := by decide +kernel
theorem dX11_back_34 : decode cX11_back 34 = .ok (.getfield 64, 3) := by decide +kernel
theorem dX11_back_37 : decode cX11_back 37 = .ok (.ireturn, 1) := by decide +kernel
theorem dX11_read_0 : decode cX11_read 0 = .ok (.aload_n 0, 1) := by decide +kernel
theorem dX11_read_1 : decode cX11_read 1 = .ok (.getfield 33, 3) := by decide +kernel
theorem dX11_read_4 : decode cX11_read 4 = .ok (.aload_n 0, 1) := by decide +kernel
theorem dX11_read_5 : decode cX11_read 5 = .ok (.getfield 26, 3) := by decide +kernel
theorem dX11_read_8 : decode cX11_read 8 = .ok (.aload_n 0, 1) := by decide +kernel
theorem dX11_read_9 : decode cX11_read 9 = .ok (.getfield 51, 3) := by decide +kernel
theorem dX11_read_12 : decode cX11_read 12 = .ok (.invokevirtual 72, 3) := by decide +kernel
theorem dX11_read_15 : decode cX11_read 15 = .ok (.aload_n 0, 1) := by decide +kernel
theorem dX11_read_16 : decode cX11_read 16 = .ok (.getfield 26, 3) := by decide +kernel
theorem dX11_read_19 : decode cX11_read 19 = .ok (.iconst 0, 1) := by decide +kernel
theorem dX11_read_20 : decode cX11_read 20 = .ok (.putfield 64, 3) := by decide +kernel
theorem dX11_read_23 : decode cX11_read 23 = .ok (.aload_n 0, 1) := by decide +kernel
theorem dX11_read_24 : decode cX11_read 24 = .ok (.getfield 33, 3) := by decide +kernel
theorem dX11_read_27 : decode cX11_read 27 = .ok (.getfield 76, 3) := by decide +kernel
theorem dX11_read_30 : decode cX11_read 30 = .ok (.ifCond .ne 21, 3) := by decide +kernel
theorem dX11_read_33 : decode cX11_read 33 = .ok (.aload_n 0, 1) := by decide +kernel
theorem dX11_read_34 : decode cX11_read 34 = .ok (.getfield 47, 3) := by decide +kernel
theorem dX11_read_37 : decode cX11_read 37 = .ok (.astore_n 1, 1) := by decide +kernel
theorem dX11_read_38 : decode cX11_read 38 = .ok (.aload_n 0, 1) := by decide +kernel
theorem dX11_read_39 : decode cX11_read 39 = .ok (.aload_n 0, 1) := by decide +kernel
theorem dX11_read_40 : decode cX11_read 40 = .ok (.getfield 51, 3) := by decide +kernel
theorem dX11_read_43 : decode cX11_read 43 = .ok (.putfield 47, 3) := by decide +kernel
theorem dX11_read_46 : decode cX11_read 46 = .ok (.aload_n 0, 1) := by decide +kernel
theorem dX11_read_47 : decode cX11_read 47 = .ok (.aload_n 1, 1) := by decide +kernel
theorem dX11_read_48 : decode cX11_read 48 = .ok (.putfield 51, 3) := by decide +kernel
theorem dX11_read_51 : decode cX11_read 51 = .ok (.aload_n 0, 1) := by decide +kernel
theorem dX11_read_52 : decode cX11_read 52 = .ok (.getfield 33, 3) := by decide +kernel
theorem dX11_read_55 : decode cX11_read 55 = .ok (.getfield 76, 3) := by decide +kernel
theorem dX11_read_58 : decode cX11_read 58 = .ok (.ireturn, 1) := by decide +kernel
theorem dX11_place_0 : decode cX11_place 0 = .ok (.aload_n 0, 1) := by decide +kernel
theorem dX11_place_1 : decode cX11_place 1 = .ok (.getfield 33, 3) := by decide +kernel
theorem dX11_place_4 : decode cX11_place 4 = .ok (.getfield 79, 3) := by decide +kernel
theorem dX11_place_7 : decode cX11_place 7 = .ok (.ireturn, 1) := by decide +kernel
theorem dX11_channels_0 : decode cX11_channels 0 = .ok (.iload_n 1, 1) := by decide +kernel
theorem dX11_channels_1 : decode cX11_channels 1 = .ok (.iconst 1, 1) := by decide +kernel
theorem dX11_channels_2 : decode cX11_channels 2 = .ok (.if_icmp .lt 19, 3) := by decide +kernel
theorem dX11_channels_5 : decode cX11_channels 5 = .ok (.iload_n 1, 1) := by decide +kernel
theorem dX11_channels_6 : decode cX11_channels 6 = .ok (.bipush 6, 2) := by decide +kernel
theorem dX11_channels_8 : decode cX11_channels 8 = .ok (.if_icmp .gt 13, 3) := by decide +kernel
theorem dX11_channels_11 : decode cX11_channels 11 = .ok (.aload_n 0, 1) := by decide +kernel
theorem dX11_channels_12 : decode cX11_channels 12 = .ok (.getfield 12, 3) := by decide +kernel
theorem dX11_channels_15 : decode cX11_channels 15 = .ok (.getfield 82, 3) := by decide +kernel
theorem dX11_channels_18 : decode cX11_channels 18 = .ok (.ifCond .le 5, 3) := by decide +kernel
theorem dX11_channels_21 : decode cX11_channels 21 = .ok (.iconst 0, 1) := by decide +kernel
theorem dX11_channels_22 : decode cX11_channels 22 = .ok (.ireturn, 1) := by decide +kernel
theorem dX11_channels_23 : decode cX11_channels 23 = .ok (.aload_n 0, 1) := by decide +kernel
theorem dX11_channels_24 : decode cX11_channels 24 = .ok (.getfield 12, 3) := by decide +kernel
theorem dX11_channels_27 : decode cX11_channels 27 = .ok (.iload_n 1, 1) := by decide +kernel
theorem dX11_channels_28 : decode cX11_channels 28 = .ok (.putfield 85, 3) := by decide +kernel
theorem dX11_channels_31 : decode cX11_channels 31 = .ok (.iconst 1, 1) := by decide +kernel
theorem dX11_channels_32 : decode cX11_channels 32 = .ok (.ireturn, 1) := by decide +kernel
theorem dX11_source_0 : decode cX11_source 0 = .ok (.iload_n 1, 1) := by decide +kernel
theorem dX11_source_1 : decode cX11_source 1 = .ok (.iconst 1, 1) := by decide +kernel
theorem dX11_source_2 : decode cX11_source 2 = .ok (.if_icmp .lt 9, 3) := by decide +kernel
theorem dX11_source_5 : decode cX11_source 5 = .ok (.iload_n 1, 1) := by decide +kernel
theorem dX11_source_6 : decode cX11_source 6 = .ok (.bipush 9, 2) := by decide +kernel
theorem dX11_source_8 : decode cX11_source 8 = .ok (.if_icmp .le 5, 3) := by decide +kernel
theorem dX11_source_11 : decode cX11_source 11 = .ok (.iconst (-1), 1) := by decide +kernel
theorem dX11_source_12 : decode cX11_source 12 = .ok (.ireturn, 1) := by decide +kernel
theorem dX11_source_13 : decode cX11_source 13 = .ok (.aload_n 0, 1) := by decide +kernel
theorem dX11_source_14 : decode cX11_source 14 = .ok (.getfield 12, 3) := by decide +kernel
theorem dX11_source_17 : decode cX11_source 17 = .ok (.iload_n 1, 1) := by decide +kernel
theorem dX11_source_18 : decode cX11_source 18 = .ok (.invokevirtual 88, 3) := by decide +kernel
theorem dX11_source_21 : decode cX11_source 21 = .ok (.ireturn, 1) := by decide +kernel
theorem dX11_notice_0 : decode cX11_notice 0 = .ok (.aload_n 0, 1) := by decide +kernel
theorem dX11_notice_1 : decode cX11_notice 1 = .ok (.getfield 12, 3) := by decide +kernel
theorem dX11_notice_4 : decode cX11_notice 4 = .ok (.iload_n 1, 1) := by decide +kernel
theorem dX11_notice_5 : decode cX11_notice 5 = .ok (.invokevirtual 92, 3) := by decide +kernel
theorem dX11_notice_8 : decode cX11_notice 8 = .ok (.astore 8, 2) := by decide +kernel
theorem dX11_notice_10 : decode cX11_notice 10 = .ok (.aload 8, 2) := by decide +kernel
theorem dX11_notice_12 : decode cX11_notice 12 = .ok (.ifnull 14, 3) := by decide +kernel
theorem dX11_notice_15 : decode cX11_notice 15 = .ok (.aload_n 0, 1) := by decide +kernel
theorem dX11_notice_16 : decode cX11_notice 16 = .ok (.getfield 12, 3) := by decide +kernel
theorem dX11_notice_19 : decode cX11_notice 19 = .ok (.iload_n 2, 1) := by decide +kernel
theorem dX11_notice_20 : decode cX11_notice 20 = .ok (.invokevirtual 96, 3) := by decide +kernel
theorem dX11_notice_23 : decode cX11_notice 23 = .ok (.ifCond .ne 5, 3) := by decide +kernel
theorem dX11_notice_26 : decode cX11_notice 26 = .ok (.iconst (-1), 1) := by decide +kernel
theorem dX11_notice_27 : decode cX11_notice 27 = .ok (.ireturn, 1) := by decide +kernel
theorem dX11_notice_28 : decode cX11_notice 28 = .ok (.iload_n 3, 1) := by decide +kernel
theorem dX11_notice_29 : decode cX11_notice 29 = .ok (.ifCond .lt 17, 3) := by decide +kernel
theorem dX11_notice_32 : decode cX11_notice 32 = .ok (.iload_n 3, 1) := by decide +kernel
theorem dX11_notice_33 : decode cX11_notice 33 = .ok (.iload 4, 2) := by decide +kernel
theorem dX11_notice_35 : decode cX11_notice 35 = .ok (.if_icmp .ge 11, 3) := by decide +kernel
theorem dX11_notice_38 : decode cX11_notice 38 = .ok (.iload 4, 2) := by decide +kernel
theorem dX11_notice_40 : decode cX11_notice 40 = .ok (.sipush 288, 3) := by decide +kernel
theorem dX11_notice_43 : decode cX11_notice 43 = .ok (.if_icmp .le 5, 3) := by decide +kernel
theorem dX11_notice_46 : decode cX11_notice 46 = .ok (.iconst (-1), 1) := by decide +kernel
theorem dX11_notice_47 : decode cX11_notice 47 = .ok (.ireturn, 1) := by decide +kernel
theorem dX11_notice_48 : decode cX11_notice 48 = .ok (.iload 5, 2) := by decide +kernel
theorem dX11_notice_50 : decode cX11_notice 50 = .ok (.ifCond .lt 22, 3) := by decide +kernel
theorem dX11_notice_53 : decode cX11_notice 53 = .ok (.iload 5, 2) := by decide +kernel
theorem dX11_notice_55 : decode cX11_notice 55 = .ok (.bipush 31, 2) := by decide +kernel
theorem dX11_notice_57 : decode cX11_notice 57 = .ok (.if_icmp .gt 15, 3) := by decide +kernel
theorem dX11_notice_60 : decode cX11_notice 60 = .ok (.iload 6, 2) := by decide +kernel
theorem dX11_notice_62 : decode cX11_notice 62 = .ok (.ifCond .lt 10, 3) := by decide +kernel
theorem dX11_notice_65 : decode cX11_notice 65 = .ok (.iload 6, 2) := by decide +kernel
theorem dX11_notice_67 : decode cX11_notice 67 = .ok (.bipush 31, 2) := by decide +kernel
theorem dX11_notice_69 : decode cX11_notice 69 = .ok (.if_icmp .le 5, 3) := by decide +kernel
theorem dX11_notice_72 : decode cX11_notice 72 = .ok (.iconst (-1), 1) := by decide +kernel
theorem dX11_notice_73 : decode cX11_notice 73 = .ok (.ireturn, 1) := by decide +kernel
theorem dX11_notice_74 : decode cX11_notice 74 = .ok (.aload_n 0, 1) := by decide +kernel
theorem dX11_notice_75 : decode cX11_notice 75 = .ok (.getfield 12, 3) := by decide +kernel
theorem dX11_notice_78 : decode cX11_notice 78 = .ok (.getfield 82, 3) := by decide +kernel
theorem dX11_notice_81 : decode cX11_notice 81 = .ok (.sipush 300, 3) := by decide +kernel
theorem dX11_notice_84 : decode cX11_notice 84 = .ok (.if_icmp .lt 5, 3) := by decide +kernel
theorem dX11_notice_87 : decode cX11_notice 87 = .ok (.iconst (-1), 1) := by decide +kernel
theorem dX11_notice_88 : decode cX11_notice 88 = .ok (.ireturn, 1) := by decide +kernel
theorem dX11_notice_89 : decode cX11_notice 89 = .ok (.aload_n 0, 1) := by decide +kernel
theorem dX11_notice_90 : decode cX11_notice 90 = .ok (.getfield 12, 3) := by decide +kernel
theorem dX11_notice_93 : decode cX11_notice 93 = .ok (.new 100, 3) := by decide +kernel
theorem dX11_notice_96 : decode cX11_notice 96 = .ok (.dup, 1) := by decide +kernel
theorem dX11_notice_97 : decode cX11_notice 97 = .ok (.aload 8, 2) := by decide +kernel
theorem dX11_notice_99 : decode cX11_notice 99 = .ok (.iload_n 2, 1) := by decide +kernel
theorem dX11_notice_100 : decode cX11_notice 100 = .ok (.iload_n 3, 1) := by decide +kernel
theorem dX11_notice_101 : decode cX11_notice 101 = .ok (.iload 4, 2) := by decide +kernel
theorem dX11_notice_103 : decode cX11_notice 103 = .ok (.iload 5, 2) := by decide +kernel
theorem dX11_notice_105 : decode cX11_notice 105 = .ok (.iload 6, 2) := by decide +kernel
theorem dX11_notice_107 : decode cX11_notice 107 = .ok (.iload 7, 2) := by decide +kernel
theorem dX11_notice_109 : decode cX11_notice 109 = .ok (.invokespecial 102, 3) := by decide +kernel
theorem dX11_notice_112 : decode cX11_notice 112 = .ok (.invokevirtual 105, 3) := by decide +kernel
theorem dX11_notice_115 : decode cX11_notice 115 = .ok (.ireturn, 1) := by decide +kernel
theorem dX11_over_0 : decode cX11_over 0 = .ok (.aload_n 0, 1) := by decide +kernel
theorem dX11_over_1 : decode cX11_over 1 = .ok (.getfield 12, 3) := by decide +kernel
theorem dX11_over_4 : decode cX11_over 4 = .ok (.iload_n 1, 1) := by decide +kernel
theorem dX11_over_5 : decode cX11_over 5 = .ok (.invokevirtual 96, 3) := by decide +kernel
theorem dX11_over_8 : decode cX11_over 8 = .ok (.ifCond .eq 26, 3) := by decide +kernel
theorem dX11_over_11 : decode cX11_over 11 = .ok (.iload_n 2, 1) := by decide +kernel
theorem dX11_over_12 : decode cX11_over 12 = .ok (.iconst 1, 1) := by decide +kernel
theorem dX11_over_13 : decode cX11_over 13 = .ok (.if_icmp .lt 21, 3) := by decide +kernel
theorem dX11_over_16 : decode cX11_over 16 = .ok (.iload_n 2, 1) := by decide +kernel
theorem dX11_over_17 : decode cX11_over 17 = .ok (.sipush 288, 3) := by decide +kernel
theorem dX11_over_20 : decode cX11_over 20 = .ok (.if_icmp .ge 14, 3) := by decide +kernel
theorem dX11_over_23 : decode cX11_over 23 = .ok (.iload_n 3, 1) := by decide +kernel
theorem dX11_over_24 : decode cX11_over 24 = .ok (.iconst 1, 1) := by decide +kernel
theorem dX11_over_25 : decode cX11_over 25 = .ok (.if_icmp .lt 9, 3) := by decide +kernel
theorem dX11_over_28 : decode cX11_over 28 = .ok (.iload_n 3, 1) := by decide +kernel
theorem dX11_over_29 : decode cX11_over 29 = .ok (.bipush 48, 2) := by decide +kernel
theorem dX11_over_31 : decode cX11_over 31 = .ok (.if_icmp .le 5, 3) := by decide +kernel
theorem dX11_over_34 : decode cX11_over 34 = .ok (.iconst (-1), 1) := by decide +kernel
theorem dX11_over_35 : decode cX11_over 35 = .ok (.ireturn, 1) := by decide +kernel
theorem dX11_over_36 : decode cX11_over 36 = .ok (.aload_n 0, 1) := by decide +kernel
