theorem dX11_over_37 : decode cX11_over 37 = .ok (.getfield 12, 3) := by decide +kernel
theorem dX11_over_40 : decode cX11_over 40 = .ok (.getfield 82, 3) := by decide +kernel
theorem dX11_over_43 : decode cX11_over 43 = .ok (.sipush 300, 3) := by decide +kernel
theorem dX11_over_46 : decode cX11_over 46 = .ok (.if_icmp .lt 5, 3) := by decide +kernel
theorem dX11_over_49 : decode cX11_over 49 = .ok (.iconst (-1), 1) := by decide +kernel
theorem dX11_over_50 : decode cX11_over 50 = .ok (.ireturn, 1) := by decide +kernel
theorem dX11_over_51 : decode cX11_over 51 = .ok (.aload_n 0, 1) := by decide +kernel
theorem dX11_over_52 : decode cX11_over 52 = .ok (.getfield 12, 3) := by decide +kernel
theorem dX11_over_55 : decode cX11_over 55 = .ok (.new 100, 3) := by decide +kernel
theorem dX11_over_58 : decode cX11_over 58 = .ok (.dup, 1) := by decide +kernel
theorem dX11_over_59 : decode cX11_over 59 = .ok (.aconst_null, 1) := by decide +kernel
theorem dX11_over_60 : decode cX11_over 60 = .ok (.iload_n 1, 1) := by decide +kernel
theorem dX11_over_61 : decode cX11_over 61 = .ok (.iload_n 2, 1) := by decide +kernel
theorem dX11_over_62 : decode cX11_over 62 = .ok (.iload_n 2, 1) := by decide +kernel
theorem dX11_over_63 : decode cX11_over 63 = .ok (.iload_n 3, 1) := by decide +kernel
theorem dX11_over_64 : decode cX11_over 64 = .ok (.iadd, 1) := by decide +kernel
theorem dX11_over_65 : decode cX11_over 65 = .ok (.iconst 0, 1) := by decide +kernel
theorem dX11_over_66 : decode cX11_over 66 = .ok (.iconst 0, 1) := by decide +kernel
theorem dX11_over_67 : decode cX11_over 67 = .ok (.iconst 0, 1) := by decide +kernel
theorem dX11_over_68 : decode cX11_over 68 = .ok (.invokespecial 102, 3) := by decide +kernel
theorem dX11_over_71 : decode cX11_over 71 = .ok (.invokevirtual 105, 3) := by decide +kernel
theorem dX11_over_74 : decode cX11_over 74 = .ok (.ireturn, 1) := by decide +kernel
theorem dX11_recorder_0 : decode cX11_recorder 0 = .ok (.iload_n 1, 1) := by decide +kernel
theorem dX11_recorder_1 : decode cX11_recorder 1 = .ok (.iconst 1, 1) := by decide +kernel
theorem dX11_recorder_2 : decode cX11_recorder 2 = .ok (.if_icmp .lt 21, 3) := by decide +kernel
theorem dX11_recorder_5 : decode cX11_recorder 5 = .ok (.iload_n 1, 1) := by decide +kernel
theorem dX11_recorder_6 : decode cX11_recorder 6 = .ok (.iconst 3, 1) := by decide +kernel
theorem dX11_recorder_7 : decode cX11_recorder 7 = .ok (.if_icmp .gt 16, 3) := by decide +kernel
theorem dX11_recorder_10 : decode cX11_recorder 10 = .ok (.iload 4, 2) := by decide +kernel
theorem dX11_recorder_12 : decode cX11_recorder 12 = .ok (.ifCond .lt 11, 3) := by decide +kernel
theorem dX11_recorder_15 : decode cX11_recorder 15 = .ok (.iload 4, 2) := by decide +kernel
theorem dX11_recorder_17 : decode cX11_recorder 17 = .ok (.sipush 2000, 3) := by decide +kernel
theorem dX11_recorder_20 : decode cX11_recorder 20 = .ok (.if_icmp .le 5, 3) := by decide +kernel
theorem dX11_recorder_23 : decode cX11_recorder 23 = .ok (.iconst 0, 1) := by decide +kernel
theorem dX11_recorder_24 : decode cX11_recorder 24 = .ok (.ireturn, 1) := by decide +kernel
theorem dX11_recorder_25 : decode cX11_recorder 25 = .ok (.iload_n 2, 1) := by decide +kernel
theorem dX11_recorder_26 : decode cX11_recorder 26 = .ok (.ifCond .lt 19, 3) := by decide +kernel
theorem dX11_recorder_29 : decode cX11_recorder 29 = .ok (.iload_n 2, 1) := by decide +kernel
theorem dX11_recorder_30 : decode cX11_recorder 30 = .ok (.bipush 6, 2) := by decide +kernel
theorem dX11_recorder_32 : decode cX11_recorder 32 = .ok (.if_icmp .gt 13, 3) := by decide +kernel
theorem dX11_recorder_35 : decode cX11_recorder 35 = .ok (.iload_n 3, 1) := by decide +kernel
theorem dX11_recorder_36 : decode cX11_recorder 36 = .ok (.ifCond .lt 9, 3) := by decide +kernel
theorem dX11_recorder_39 : decode cX11_recorder 39 = .ok (.iload_n 3, 1) := by decide +kernel
theorem dX11_recorder_40 : decode cX11_recorder 40 = .ok (.bipush 6, 2) := by decide +kernel
theorem dX11_recorder_42 : decode cX11_recorder 42 = .ok (.if_icmp .le 5, 3) := by decide +kernel
theorem dX11_recorder_45 : decode cX11_recorder 45 = .ok (.iconst 0, 1) := by decide +kernel
theorem dX11_recorder_46 : decode cX11_recorder 46 = .ok (.ireturn, 1) := by decide +kernel
theorem dX11_recorder_47 : decode cX11_recorder 47 = .ok (.aload_n 0, 1) := by decide +kernel
theorem dX11_recorder_48 : decode cX11_recorder 48 = .ok (.getfield 40, 3) := by decide +kernel
theorem dX11_recorder_51 : decode cX11_recorder 51 = .ok (.iload_n 1, 1) := by decide +kernel
theorem dX11_recorder_52 : decode cX11_recorder 52 = .ok (.putfield 109, 3) := by decide +kernel
theorem dX11_recorder_55 : decode cX11_recorder 55 = .ok (.aload_n 0, 1) := by decide +kernel
theorem dX11_recorder_56 : decode cX11_recorder 56 = .ok (.getfield 40, 3) := by decide +kernel
theorem dX11_recorder_59 : decode cX11_recorder 59 = .ok (.iload_n 2, 1) := by decide +kernel
theorem dX11_recorder_60 : decode cX11_recorder 60 = .ok (.putfield 112, 3) := by decide +kernel
theorem dX11_recorder_63 : decode cX11_recorder 63 = .ok (.aload_n 0, 1) := by decide +kernel
theorem dX11_recorder_64 : decode cX11_recorder 64 = .ok (.getfield 40, 3) := by decide +kernel
theorem dX11_recorder_67 : decode cX11_recorder 67 = .ok (.iload_n 3, 1) := by decide +kernel
theorem dX11_recorder_68 : decode cX11_recorder 68 = .ok (.putfield 115, 3) := by decide +kernel
theorem dX11_recorder_71 : decode cX11_recorder 71 = .ok (.aload_n 0, 1) := by decide +kernel
theorem dX11_recorder_72 : decode cX11_recorder 72 = .ok (.getfield 40, 3) := by decide +kernel
theorem dX11_recorder_75 : decode cX11_recorder 75 = .ok (.iload 4, 2) := by decide +kernel
theorem dX11_recorder_77 : decode cX11_recorder 77 = .ok (.putfield 118, 3) := by decide +kernel
theorem dX11_recorder_80 : decode cX11_recorder 80 = .ok (.iconst 1, 1) := by decide +kernel
theorem dX11_recorder_81 : decode cX11_recorder 81 = .ok (.ireturn, 1) := by decide +kernel
theorem dX11_clock_0 : decode cX11_clock 0 = .ok (.iload_n 1, 1) := by decide +kernel
theorem dX11_clock_1 : decode cX11_clock 1 = .ok (.aload_n 0, 1) := by decide +kernel
theorem dX11_clock_2 : decode cX11_clock 2 = .ok (.getfield 40, 3) := by decide +kernel
theorem dX11_clock_5 : decode cX11_clock 5 = .ok (.getfield 121, 3) := by decide +kernel
theorem dX11_clock_8 : decode cX11_clock 8 = .ok (.if_icmp .lt 10, 3) := by decide +kernel
theorem dX11_clock_11 : decode cX11_clock 11 = .ok (.iload_n 1, 1) := by decide +kernel
theorem dX11_clock_12 : decode cX11_clock 12 = .ok (.sipush 288, 3) := by decide +kernel
theorem dX11_clock_15 : decode cX11_clock 15 = .ok (.if_icmp .lt 5, 3) := by decide +kernel
theorem dX11_clock_18 : decode cX11_clock 18 = .ok (.iconst 0, 1) := by decide +kernel
theorem dX11_clock_19 : decode cX11_clock 19 = .ok (.ireturn, 1) := by decide +kernel
theorem dX11_clock_20 : decode cX11_clock 20 = .ok (.aload_n 0, 1) := by decide +kernel
theorem dX11_clock_21 : decode cX11_clock 21 = .ok (.getfield 40, 3) := by decide +kernel
theorem dX11_clock_24 : decode cX11_clock 24 = .ok (.iload_n 1, 1) := by decide +kernel
theorem dX11_clock_25 : decode cX11_clock 25 = .ok (.putfield 121, 3) := by decide +kernel
theorem dX11_clock_28 : decode cX11_clock 28 = .ok (.iconst 1, 1) := by decide +kernel
theorem dX11_clock_29 : decode cX11_clock 29 = .ok (.ireturn, 1) := by decide +kernel
theorem dX11_sent_0 : decode cX11_sent 0 = .ok (.aload_n 0, 1) := by decide +kernel
theorem dX11_sent_1 : decode cX11_sent 1 = .ok (.getfield 12, 3) := by decide +kernel
theorem dX11_sent_4 : decode cX11_sent 4 = .ok (.iload_n 1, 1) := by decide +kernel
theorem dX11_sent_5 : decode cX11_sent 5 = .ok (.invokevirtual 96, 3) := by decide +kernel
theorem dX11_sent_8 : decode cX11_sent 8 = .ok (.ifCond .eq 25, 3) := by decide +kernel
theorem dX11_sent_11 : decode cX11_sent 11 = .ok (.iload_n 2, 1) := by decide +kernel
theorem dX11_sent_12 : decode cX11_sent 12 = .ok (.ifCond .lt 21, 3) := by decide +kernel
theorem dX11_sent_15 : decode cX11_sent 15 = .ok (.iload_n 2, 1) := by decide +kernel
theorem dX11_sent_16 : decode cX11_sent 16 = .ok (.sipush 288, 3) := by decide +kernel
theorem dX11_sent_19 : decode cX11_sent 19 = .ok (.if_icmp .ge 14, 3) := by decide +kernel
theorem dX11_sent_22 : decode cX11_sent 22 = .ok (.aload_n 0, 1) := by decide +kernel
theorem dX11_sent_23 : decode cX11_sent 23 = .ok (.getfield 12, 3) := by decide +kernel
theorem dX11_sent_26 : decode cX11_sent 26 = .ok (.iload_n 3, 1) := by decide +kernel
theorem dX11_sent_27 : decode cX11_sent 27 = .ok (.invokevirtual 124, 3) := by decide +kernel
theorem dX11_sent_30 : decode cX11_sent 30 = .ok (.ifCond .ne 5, 3) := by decide +kernel
theorem dX11_sent_33 : decode cX11_sent 33 = .ok (.iconst (-1), 1) := by decide +kernel
theorem dX11_sent_34 : decode cX11_sent 34 = .ok (.ireturn, 1) := by decide +kernel
theorem dX11_sent_35 : decode cX11_sent 35 = .ok (.aload_n 0, 1) := by decide +kernel
theorem dX11_sent_36 : decode cX11_sent 36 = .ok (.getfield 19, 3) := by decide +kernel
theorem dX11_sent_39 : decode cX11_sent 39 = .ok (.aload_n 0, 1) := by decide +kernel
theorem dX11_sent_40 : decode cX11_sent 40 = .ok (.getfield 12, 3) := by decide +kernel
theorem dX11_sent_43 : decode cX11_sent 43 = .ok (.iload_n 3, 1) := by decide +kernel
theorem dX11_sent_44 : decode cX11_sent 44 = .ok (.invokevirtual 127, 3) := by decide +kernel
theorem dX11_sent_47 : decode cX11_sent 47 = .ok (.aload_n 0, 1) := by decide +kernel
theorem dX11_sent_48 : decode cX11_sent 48 = .ok (.getfield 19, 3) := by decide +kernel
theorem dX11_sent_51 : decode cX11_sent 51 = .ok (.iload_n 1, 1) := by decide +kernel
theorem dX11_sent_52 : decode cX11_sent 52 = .ok (.iload_n 2, 1) := by decide +kernel
theorem dX11_sent_53 : decode cX11_sent 53 = .ok (.invokevirtual 131, 3) := by decide +kernel
theorem dX11_sent_56 : decode cX11_sent 56 = .ok (.ireturn, 1) := by decide +kernel
theorem dX11_says_0 : decode cX11_says 0 = .ok (.aload_n 0, 1) := by decide +kernel
theorem dX11_says_1 : decode cX11_says 1 = .ok (.getfield 12, 3) := by decide +kernel
theorem dX11_says_4 : decode cX11_says 4 = .ok (.iload_n 1, 1) := by decide +kernel
theorem dX11_says_5 : decode cX11_says 5 = .ok (.invokevirtual 92, 3) := by decide +kernel
theorem dX11_says_8 : decode cX11_says 8 = .ok (.astore 5, 2) := by decide +kernel
theorem dX11_says_10 : decode cX11_says 10 = .ok (.aload 5, 2) := by decide +kernel
theorem dX11_says_12 : decode cX11_says 12 = .ok (.ifnull 37, 3) := by decide +kernel
theorem dX11_says_15 : decode cX11_says 15 = .ok (.aload_n 0, 1) := by decide +kernel
theorem dX11_says_16 : decode cX11_says 16 = .ok (.getfield 12, 3) := by decide +kernel
theorem dX11_says_19 : decode cX11_says 19 = .ok (.iload_n 2, 1) := by decide +kernel
theorem dX11_says_20 : decode cX11_says 20 = .ok (.invokevirtual 96, 3) := by decide +kernel
theorem dX11_says_23 : decode cX11_says 23 = .ok (.ifCond .eq 26, 3) := by decide +kernel
theorem dX11_says_26 : decode cX11_says 26 = .ok (.iload_n 3, 1) := by decide +kernel
theorem dX11_says_27 : decode cX11_says 27 = .ok (.ifCond .lt 22, 3) := by decide +kernel
theorem dX11_says_30 : decode cX11_says 30 = .ok (.iload_n 3, 1) := by decide +kernel
theorem dX11_says_31 : decode cX11_says 31 = .ok (.sipush 288, 3) := by decide +kernel
theorem dX11_says_34 : decode cX11_says 34 = .ok (.if_icmp .ge 15, 3) := by decide +kernel
theorem dX11_says_37 : decode cX11_says 37 = .ok (.aload_n 0, 1) := by decide +kernel
theorem dX11_says_38 : decode cX11_says 38 = .ok (.getfield 12, 3) := by decide +kernel
theorem dX11_says_41 : decode cX11_says 41 = .ok (.iload 4, 2) := by decide +kernel
theorem dX11_says_43 : decode cX11_says 43 = .ok (.invokevirtual 124, 3) := by decide +kernel
theorem dX11_says_46 : decode cX11_says 46 = .ok (.ifCond .ne 5, 3) := by decide +kernel
theorem dX11_says_49 : decode cX11_says 49 = .ok (.iconst (-1), 1) := by decide +kernel
theorem dX11_says_50 : decode cX11_says 50 = .ok (.ireturn, 1) := by decide +kernel
theorem dX11_says_51 : decode cX11_says 51 = .ok (.aload_n 0, 1) := by decide +kernel
theorem dX11_says_52 : decode cX11_says 52 = .ok (.getfield 12, 3) := by decide +kernel
theorem dX11_says_55 : decode cX11_says 55 = .ok (.aload 5, 2) := by decide +kernel
theorem dX11_says_57 : decode cX11_says 57 = .ok (.iload_n 2, 1) := by decide +kernel
theorem dX11_says_58 : decode cX11_says 58 = .ok (.iload_n 3, 1) := by decide +kernel
theorem dX11_says_59 : decode cX11_says 59 = .ok (.iload 4, 2) := by decide +kernel
theorem dX11_says_61 : decode cX11_says 61 = .ok (.invokevirtual 135, 3) := by decide +kernel
theorem dX11_says_64 : decode cX11_says 64 = .ok (.ireturn, 1) := by decide +kernel
theorem dX11_showing_0 : decode cX11_showing 0 = .ok (.aload_n 0, 1) := by decide +kernel
theorem dX11_showing_1 : decode cX11_showing 1 = .ok (.iload_n 1, 1) := by decide +kernel
theorem dX11_showing_2 : decode cX11_showing 2 = .ok (.iload_n 2, 1) := by decide +kernel
theorem dX11_showing_3 : decode cX11_showing 3 = .ok (.invokevirtual 139, 3) := by decide +kernel
theorem dX11_showing_6 : decode cX11_showing 6 = .ok (.astore 4, 2) := by decide +kernel
theorem dX11_showing_8 : decode cX11_showing 8 = .ok (.aload 4, 2) := by decide +kernel
theorem dX11_showing_10 : decode cX11_showing 10 = .ok (.ifnonnull 5, 3) := by decide +kernel
theorem dX11_showing_13 : decode cX11_showing 13 = .ok (.iconst (-1), 1) := by decide +kernel
theorem dX11_showing_14 : decode cX11_showing 14 = .ok (.ireturn, 1) := by decide +kernel
theorem dX11_showing_15 : decode cX11_showing 15 = .ok (.iload_n 3, 1) := by decide +kernel
theorem dX11_showing_16 : decode cX11_showing 16 = .ok (.tableswitch 114 0 8 #[52, 58, 64, 70, 76, 82, 88, 98, 104], 52) := by decide +kernel
theorem dX11_showing_68 : decode cX11_showing 68 = .ok (.aload 4, 2) := by decide +kernel
theorem dX11_showing_70 : decode cX11_showing 70 = .ok (.getfield 143, 3) := by decide +kernel
theorem dX11_showing_73 : decode cX11_showing 73 = .ok (.ireturn, 1) := by decide +kernel
theorem dX11_showing_74 : decode cX11_showing 74 = .ok (.aload 4, 2) := by decide +kernel
theorem dX11_showing_76 : decode cX11_showing 76 = .ok (.getfield 148, 3) := by decide +kernel
theorem dX11_showing_79 : decode cX11_showing 79 = .ok (.ireturn, 1) := by decide +kernel
theorem dX11_showing_80 : decode cX11_showing 80 = .ok (.aload 4, 2) := by decide +kernel
theorem dX11_showing_82 : decode cX11_showing 82 = .ok (.getfield 151, 3) := by decide +kernel
theorem dX11_showing_85 : decode cX11_showing 85 = .ok (.ireturn, 1) := by decide +kernel
theorem dX11_showing_86 : decode cX11_showing 86 = .ok (.aload 4, 2) := by decide +kernel
theorem dX11_showing_88 : decode cX11_showing 88 = .ok (.getfield 154, 3) := by decide +kernel
theorem dX11_showing_91 : decode cX11_showing 91 = .ok (.ireturn, 1) := by decide +kernel
theorem dX11_showing_92 : decode cX11_showing 92 = .ok (.aload 4, 2) := by decide +kernel
theorem dX11_showing_94 : decode cX11_showing 94 = .ok (.getfield 157, 3) := by decide +kernel
theorem dX11_showing_97 : decode cX11_showing 97 = .ok (.ireturn, 1) := by decide +kernel
theorem dX11_showing_98 : decode cX11_showing 98 = .ok (.aload 4, 2) := by decide +kernel
theorem dX11_showing_100 : decode cX11_showing 100 = .ok (.getfield 160, 3) := by decide +kernel
theorem dX11_showing_103 : decode cX11_showing 103 = .ok (.ireturn, 1) := by decide +kernel
theorem dX11_showing_104 : decode cX11_showing 104 = .ok (.aload_n 0, 1) := by decide +kernel
theorem dX11_showing_105 : decode cX11_showing 105 = .ok (.getfield 47, 3) := by decide +kernel
theorem dX11_showing_108 : decode cX11_showing 108 = .ok (.aload 4, 2) := by decide +kernel
theorem dX11_showing_110 : decode cX11_showing 110 = .ok (.invokevirtual 163, 3) := by decide +kernel
theorem dX11_showing_113 : decode cX11_showing 113 = .ok (.ireturn, 1) := by decide +kernel
theorem dX11_showing_114 : decode cX11_showing 114 = .ok (.aload 4, 2) := by decide +kernel
theorem dX11_showing_116 : decode cX11_showing 116 = .ok (.getfield 167, 3) := by decide +kernel
theorem dX11_showing_119 : decode cX11_showing 119 = .ok (.ireturn, 1) := by decide +kernel
theorem dX11_showing_120 : decode cX11_showing 120 = .ok (.aload_n 0, 1) := by decide +kernel
theorem dX11_showing_121 : decode cX11_showing 121 = .ok (.getfield 19, 3) := by decide +kernel
theorem dX11_showing_124 : decode cX11_showing 124 = .ok (.aload 4, 2) := by decide +kernel
theorem dX11_showing_126 : decode cX11_showing 126 = .ok (.invokevirtual 170, 3) := by decide +kernel
theorem dX11_showing_129 : decode cX11_showing 129 = .ok (.ireturn, 1) := by decide +kernel
theorem dX11_showing_130 : decode cX11_showing 130 = .ok (.iconst (-1), 1) := by decide +kernel
theorem dX11_showing_131 : decode cX11_showing 131 = .ok (.ireturn, 1) := by decide +kernel
theorem dX11_showings_0 : decode cX11_showings 0 = .ok (.aload_n 0, 1) := by decide +kernel
theorem dX11_showings_1 : decode cX11_showings 1 = .ok (.getfield 12, 3) := by decide +kernel
theorem dX11_showings_4 : decode cX11_showings 4 = .ok (.iload_n 1, 1) := by decide +kernel
theorem dX11_showings_5 : decode cX11_showings 5 = .ok (.invokevirtual 124, 3) := by decide +kernel
theorem dX11_showings_8 : decode cX11_showings 8 = .ok (.ifCond .ne 5, 3) := by decide +kernel
theorem dX11_showings_11 : decode cX11_showings 11 = .ok (.iconst (-1), 1) := by decide +kernel
theorem dX11_showings_12 : decode cX11_showings 12 = .ok (.ireturn, 1) := by decide +kernel
theorem dX11_showings_13 : decode cX11_showings 13 = .ok (.aload_n 0, 1) := by decide +kernel
theorem dX11_showings_14 : decode cX11_showings 14 = .ok (.getfield 19, 3) := by decide +kernel
theorem dX11_showings_17 : decode cX11_showings 17 = .ok (.aload_n 0, 1) := by decide +kernel
theorem dX11_showings_18 : decode cX11_showings 18 = .ok (.getfield 12, 3) := by decide +kernel
theorem dX11_showings_21 : decode cX11_showings 21 = .ok (.iload_n 1, 1) := by decide +kernel
theorem dX11_showings_22 : decode cX11_showings 22 = .ok (.invokevirtual 127, 3) := by decide +kernel
theorem dX11_showings_25 : decode cX11_showings 25 = .ok (.aload_n 0, 1) := by decide +kernel
theorem dX11_showings_26 : decode cX11_showings 26 = .ok (.getfield 19, 3) := by decide +kernel
theorem dX11_showings_29 : decode cX11_showings 29 = .ok (.getfield 173, 3) := by decide +kernel
theorem dX11_showings_32 : decode cX11_showings 32 = .ok (.ireturn, 1) := by decide +kernel
theorem dX11_holds_0 : decode cX11_holds 0 = .ok (.aload_n 0, 1) := by decide +kernel
theorem dX11_holds_1 : decode cX11_holds 1 = .ok (.iload_n 2, 1) := by decide +kernel
theorem dX11_holds_2 : decode cX11_holds 2 = .ok (.iload_n 3, 1) := by decide +kernel
theorem dX11_holds_3 : decode cX11_holds 3 = .ok (.invokevirtual 139, 3) := by decide +kernel
theorem dX11_holds_6 : decode cX11_holds 6 = .ok (.astore 4, 2) := by decide +kernel
theorem dX11_holds_8 : decode cX11_holds 8 = .ok (.aload 4, 2) := by decide +kernel
theorem dX11_holds_10 : decode cX11_holds 10 = .ok (.ifnull 18, 3) := by decide +kernel
theorem dX11_holds_13 : decode cX11_holds 13 = .ok (.iload_n 1, 1) := by decide +kernel
theorem dX11_holds_14 : decode cX11_holds 14 = .ok (.ifCond .lt 14, 3) := by decide +kernel
theorem dX11_holds_17 : decode cX11_holds 17 = .ok (.iload_n 1, 1) := by decide +kernel
theorem dX11_holds_18 : decode cX11_holds 18 = .ok (.aload_n 0, 1) := by decide +kernel
theorem dX11_holds_19 : decode cX11_holds 19 = .ok (.getfield 47, 3) := by decide +kernel
theorem dX11_holds_22 : decode cX11_holds 22 = .ok (.getfield 174, 3) := by decide +kernel
theorem dX11_holds_25 : decode cX11_holds 25 = .ok (.if_icmp .lt 5, 3) := by decide +kernel
theorem dX11_holds_28 : decode cX11_holds 28 = .ok (.iconst (-1), 1) := by decide +kernel
theorem dX11_holds_29 : decode cX11_holds 29 = .ok (.ireturn, 1) := by decide +kernel
theorem dX11_holds_30 : decode cX11_holds 30 = .ok (.aload_n 0, 1) := by decide +kernel
theorem dX11_holds_31 : decode cX11_holds 31 = .ok (.getfield 47, 3) := by decide +kernel
theorem dX11_holds_34 : decode cX11_holds 34 = .ok (.iload_n 1, 1) := by decide +kernel
theorem dX11_holds_35 : decode cX11_holds 35 = .ok (.aload 4, 2) := by decide +kernel
theorem dX11_holds_37 : decode cX11_holds 37 = .ok (.invokevirtual 177, 3) := by decide +kernel
theorem dX11_holds_40 : decode cX11_holds 40 = .ok (.ifCond .eq 7, 3) := by decide +kernel
theorem dX11_holds_43 : decode cX11_holds 43 = .ok (.iconst 1, 1) := by decide +kernel
theorem dX11_holds_44 : decode cX11_holds 44 = .ok (.goto 4, 3) := by decide +kernel
theorem dX11_holds_47 : decode cX11_holds 47 = .ok (.iconst 0, 1) := by decide +kernel
theorem dX11_holds_48 : decode cX11_holds 48 = .ok (.ireturn, 1) := by decide +kernel
theorem dX11_plan_0 : decode cX11_plan 0 = .ok (.aload_n 0, 1) := by decide +kernel
theorem dX11_plan_1 : decode cX11_plan 1 = .ok (.getfield 12, 3) := by decide +kernel
theorem dX11_plan_4 : decode cX11_plan 4 = .ok (.iload_n 1, 1) := by decide +kernel
theorem dX11_plan_5 : decode cX11_plan 5 = .ok (.invokevirtual 124, 3) := by decide +kernel
theorem dX11_plan_8 : decode cX11_plan 8 = .ok (.ifCond .ne 5, 3) := by decide +kernel
theorem dX11_plan_11 : decode cX11_plan 11 = .ok (.iconst (-1), 1) := by decide +kernel
theorem dX11_plan_12 : decode cX11_plan 12 = .ok (.ireturn, 1) := by decide +kernel
theorem dX11_plan_13 : decode cX11_plan 13 = .ok (.aload_n 0, 1) := by decide +kernel
theorem dX11_plan_14 : decode cX11_plan 14 = .ok (.getfield 19, 3) := by decide +kernel
theorem dX11_plan_17 : decode cX11_plan 17 = .ok (.aload_n 0, 1) := by decide +kernel
theorem dX11_plan_18 : decode cX11_plan 18 = .ok (.getfield 12, 3) := by decide +kernel
theorem dX11_plan_21 : decode cX11_plan 21 = .ok (.iload_n 1, 1) := by decide +kernel
theorem dX11_plan_22 : decode cX11_plan 22 = .ok (.invokevirtual 127, 3) := by decide +kernel
theorem dX11_plan_25 : decode cX11_plan 25 = .ok (.aload_n 0, 1) := by decide +kernel
theorem dX11_plan_26 : decode cX11_plan 26 = .ok (.getfield 61, 3) := by decide +kernel
theorem dX11_plan_29 : decode cX11_plan 29 = .ok (.aload_n 0, 1) := by decide +kernel
theorem dX11_plan_30 : decode cX11_plan 30 = .ok (.getfield 19, 3) := by decide +kernel
theorem dX11_plan_33 : decode cX11_plan 33 = .ok (.aload_n 0, 1) := by decide +kernel
theorem dX11_plan_34 : decode cX11_plan 34 = .ok (.getfield 47, 3) := by decide +kernel
theorem dX11_plan_37 : decode cX11_plan 37 = .ok (.aload_n 0, 1) := by decide +kernel
theorem dX11_plan_38 : decode cX11_plan 38 = .ok (.getfield 40, 3) := by decide +kernel
theorem dX11_plan_41 : decode cX11_plan 41 = .ok (.invokevirtual 181, 3) := by decide +kernel
theorem dX11_plan_44 : decode cX11_plan 44 = .ok (.ifCond .ne 6, 3) := by decide +kernel
theorem dX11_plan_47 : decode cX11_plan 47 = .ok (.bipush (-2), 2) := by decide +kernel
theorem dX11_plan_49 : decode cX11_plan 49 = .ok (.ireturn, 1) := by decide +kernel
theorem dX11_plan_50 : decode cX11_plan 50 = .ok (.aload_n 0, 1) := by decide +kernel
theorem dX11_plan_51 : decode cX11_plan 51 = .ok (.getfield 61, 3) := by decide +kernel
theorem dX11_plan_54 : decode cX11_plan 54 = .ok (.aload_n 0, 1) := by decide +kernel
theorem dX11_plan_55 : decode cX11_plan 55 = .ok (.getfield 57, 3) := by decide +kernel
theorem dX11_plan_58 : decode cX11_plan 58 = .ok (.aload_n 0, 1) := by decide +kernel
theorem dX11_plan_59 : decode cX11_plan 59 = .ok (.getfield 40, 3) := by decide +kernel
theorem dX11_plan_62 : decode cX11_plan 62 = .ok (.getfield 121, 3) := by decide +kernel
theorem dX11_plan_65 : decode cX11_plan 65 = .ok (.invokevirtual 185, 3) := by decide +kernel
theorem dX11_plan_68 : decode cX11_plan 68 = .ok (.aload_n 0, 1) := by decide +kernel
theorem dX11_plan_69 : decode cX11_plan 69 = .ok (.getfield 40, 3) := by decide +kernel
theorem dX11_plan_72 : decode cX11_plan 72 = .ok (.aload_n 0, 1) := by decide +kernel
theorem dX11_plan_73 : decode cX11_plan 73 = .ok (.getfield 61, 3) := by decide +kernel
theorem dX11_plan_76 : decode cX11_plan 76 = .ok (.invokevirtual 189, 3) := by decide +kernel
theorem dX11_plan_79 : decode cX11_plan 79 = .ok (.aload_n 0, 1) := by decide +kernel
theorem dX11_plan_80 : decode cX11_plan 80 = .ok (.getfield 61, 3) := by decide +kernel
theorem dX11_plan_83 : decode cX11_plan 83 = .ok (.aload_n 0, 1) := by decide +kernel
theorem dX11_plan_84 : decode cX11_plan 84 = .ok (.getfield 40, 3) := by decide +kernel
theorem dX11_plan_87 : decode cX11_plan 87 = .ok (.invokevirtual 193, 3) := by decide +kernel
theorem dX11_plan_90 : decode cX11_plan 90 = .ok (.aload_n 0, 1) := by decide +kernel
theorem dX11_plan_91 : decode cX11_plan 91 = .ok (.getfield 57, 3) := by decide +kernel
theorem dX11_plan_94 : decode cX11_plan 94 = .ok (.astore_n 2, 1) := by decide +kernel
theorem dX11_plan_95 : decode cX11_plan 95 = .ok (.aload_n 0, 1) := by decide +kernel
theorem dX11_plan_96 : decode cX11_plan 96 = .ok (.aload_n 0, 1) := by decide +kernel
theorem dX11_plan_97 : decode cX11_plan 97 = .ok (.getfield 61, 3) := by decide +kernel
theorem dX11_plan_100 : decode cX11_plan 100 = .ok (.putfield 57, 3) := by decide +kernel
theorem dX11_plan_103 : decode cX11_plan 103 = .ok (.aload_n 0, 1) := by decide +kernel
theorem dX11_plan_104 : decode cX11_plan 104 = .ok (.aload_n 2, 1) := by decide +kernel
theorem dX11_plan_105 : decode cX11_plan 105 = .ok (.putfield 61, 3) := by decide +kernel
theorem dX11_plan_108 : decode cX11_plan 108 = .ok (.aload_n 0, 1) := by decide +kernel
theorem dX11_plan_109 : decode cX11_plan 109 = .ok (.getfield 57, 3) := by decide +kernel
theorem dX11_plan_112 : decode cX11_plan 112 = .ok (.getfield 197, 3) := by decide +kernel
theorem dX11_plan_115 : decode cX11_plan 115 = .ok (.ireturn, 1) := by decide +kernel
theorem dX11_candidate_0 : decode cX11_candidate 0 = .ok (.aload_n 0, 1) := by decide +kernel
theorem dX11_candidate_1 : decode cX11_candidate 1 = .ok (.getfield 57, 3) := by decide +kernel
theorem dX11_candidate_4 : decode cX11_candidate 4 = .ok (.iload_n 1, 1) := by decide +kernel
theorem dX11_candidate_5 : decode cX11_candidate 5 = .ok (.invokevirtual 200, 3) := by decide +kernel
theorem dX11_candidate_8 : decode cX11_candidate 8 = .ok (.astore_n 3, 1) := by decide +kernel
theorem dX11_candidate_9 : decode cX11_candidate 9 = .ok (.aload_n 3, 1) := by decide +kernel
theorem dX11_candidate_10 : decode cX11_candidate 10 = .ok (.ifnonnull 5, 3) := by decide +kernel
theorem dX11_candidate_13 : decode cX11_candidate 13 = .ok (.iconst (-1), 1) := by decide +kernel
theorem dX11_candidate_14 : decode cX11_candidate 14 = .ok (.ireturn, 1) := by decide +kernel
theorem dX11_candidate_15 : decode cX11_candidate 15 = .ok (.iload_n 2, 1) := by decide +kernel
theorem dX11_candidate_16 : decode cX11_candidate 16 = .ok (.tableswitch 77 0 4 #[36, 41, 54, 59, 64], 36) := by decide +kernel
theorem dX11_candidate_52 : decode cX11_candidate 52 = .ok (.aload_n 3, 1) := by decide +kernel
theorem dX11_candidate_53 : decode cX11_candidate 53 = .ok (.getfield 204, 3) := by decide +kernel
theorem dX11_candidate_56 : decode cX11_candidate 56 = .ok (.ireturn, 1) := by decide +kernel
theorem dX11_candidate_57 : decode cX11_candidate 57 = .ok (.aload_n 3, 1) := by decide +kernel
theorem dX11_candidate_58 : decode cX11_candidate 58 = .ok (.getfield 209, 3) := by decide +kernel
theorem dX11_candidate_61 : decode cX11_candidate 61 = .ok (.ifCond .eq 7, 3) := by decide +kernel
theorem dX11_candidate_64 : decode cX11_candidate 64 = .ok (.iconst 1, 1) := by decide +kernel
theorem dX11_candidate_65 : decode cX11_candidate 65 = .ok (.goto 4, 3) := by decide +kernel
theorem dX11_candidate_68 : decode cX11_candidate 68 = .ok (.iconst 0, 1) := by decide +kernel
theorem dX11_candidate_69 : decode cX11_candidate 69 = .ok (.ireturn, 1) := by decide +kernel
theorem dX11_candidate_70 : decode cX11_candidate 70 = .ok (.aload_n 3, 1) := by decide +kernel
theorem dX11_candidate_71 : decode cX11_candidate 71 = .ok (.getfield 213, 3) := by decide +kernel
theorem dX11_candidate_74 : decode cX11_candidate 74 = .ok (.ireturn, 1) := by decide +kernel
theorem dX11_candidate_75 : decode cX11_candidate 75 = .ok (.aload_n 3, 1) := by decide +kernel
theorem dX11_candidate_76 : decode cX11_candidate 76 = .ok (.getfield 216, 3) := by decide +kernel
theorem dX11_candidate_79 : decode cX11_candidate 79 = .ok (.ireturn, 1) := by decide +kernel
theorem dX11_candidate_80 : decode cX11_candidate 80 = .ok (.aload_n 3, 1) := by decide +kernel
theorem dX11_candidate_81 : decode cX11_candidate 81 = .ok (.getfield 219, 3) := by decide +kernel
theorem dX11_candidate_84 : decode cX11_candidate 84 = .ok (.ifCond .eq 7, 3) := by decide +kernel
theorem dX11_candidate_87 : decode cX11_candidate 87 = .ok (.iconst 1, 1) := by decide +kernel
theorem dX11_candidate_88 : decode cX11_candidate 88 = .ok (.goto 4, 3) := by decide +kernel
theorem dX11_candidate_91 : decode cX11_candidate 91 = .ok (.iconst 0, 1) := by decide +kernel
theorem dX11_candidate_92 : decode cX11_candidate 92 = .ok (.ireturn, 1) := by decide +kernel
theorem dX11_candidate_93 : decode cX11_candidate 93 = .ok (.iconst (-1), 1) := by decide +kernel
theorem dX11_candidate_94 : decode cX11_candidate 94 = .ok (.ireturn, 1) := by decide +kernel
theorem dX11_count_0 : decode cX11_count 0 = .ok (.iload_n 1, 1) := by decide +kernel
theorem dX11_count_1 : decode cX11_count 1 = .ok (.tableswitch 103 0 9 #[55, 63, 71, 79, 87, 103, 103, 103, 103, 95], 55) := by decide +kernel
theorem dX11_count_56 : decode cX11_count 56 = .ok (.aload_n 0, 1) := by decide +kernel
theorem dX11_count_57 : decode cX11_count 57 = .ok (.getfield 12, 3) := by decide +kernel
theorem dX11_count_60 : decode cX11_count 60 = .ok (.getfield 85, 3) := by decide +kernel
theorem dX11_count_63 : decode cX11_count 63 = .ok (.ireturn, 1) := by decide +kernel
theorem dX11_count_64 : decode cX11_count 64 = .ok (.aload_n 0, 1) := by decide +kernel
theorem dX11_count_65 : decode cX11_count 65 = .ok (.getfield 12, 3) := by decide +kernel
theorem dX11_count_68 : decode cX11_count 68 = .ok (.getfield 222, 3) := by decide +kernel
theorem dX11_count_71 : decode cX11_count 71 = .ok (.ireturn, 1) := by decide +kernel
theorem dX11_count_72 : decode cX11_count 72 = .ok (.aload_n 0, 1) := by decide +kernel
theorem dX11_count_73 : decode cX11_count 73 = .ok (.getfield 12, 3) := by decide +kernel
theorem dX11_count_76 : decode cX11_count 76 = .ok (.getfield 82, 3) := by decide +kernel
theorem dX11_count_79 : decode cX11_count 79 = .ok (.ireturn, 1) := by decide +kernel
theorem dX11_count_80 : decode cX11_count 80 = .ok (.aload_n 0, 1) := by decide +kernel
theorem dX11_count_81 : decode cX11_count 81 = .ok (.getfield 47, 3) := by decide +kernel
theorem dX11_count_84 : decode cX11_count 84 = .ok (.getfield 174, 3) := by decide +kernel
theorem dX11_count_87 : decode cX11_count 87 = .ok (.ireturn, 1) := by decide +kernel
theorem dX11_count_88 : decode cX11_count 88 = .ok (.aload_n 0, 1) := by decide +kernel
theorem dX11_count_89 : decode cX11_count 89 = .ok (.getfield 40, 3) := by decide +kernel
theorem dX11_count_92 : decode cX11_count 92 = .ok (.getfield 121, 3) := by decide +kernel
theorem dX11_count_95 : decode cX11_count 95 = .ok (.ireturn, 1) := by decide +kernel
theorem dX11_count_96 : decode cX11_count 96 = .ok (.aload_n 0, 1) := by decide +kernel
theorem dX11_count_97 : decode cX11_count 97 = .ok (.getfield 26, 3) := by decide +kernel
theorem dX11_count_100 : decode cX11_count 100 = .ok (.getfield 64, 3) := by decide +kernel
theorem dX11_count_103 : decode cX11_count 103 = .ok (.ireturn, 1) := by decide +kernel
theorem dX11_count_104 : decode cX11_count 104 = .ok (.aload_n 0, 1) := by decide +kernel
theorem dX11_count_105 : decode cX11_count 105 = .ok (.getfield 57, 3) := by decide +kernel
theorem dX11_count_108 : decode cX11_count 108 = .ok (.getfield 225, 3) := by decide +kernel
theorem dX11_count_111 : decode cX11_count 111 = .ok (.iconst (-1), 1) := by decide +kernel
theorem dX11_count_112 : decode cX11_count 112 = .ok (.if_icmp .ne 7, 3) := by decide +kernel
theorem dX11_count_115 : decode cX11_count 115 = .ok (.iconst (-1), 1) := by decide +kernel
theorem dX11_count_116 : decode cX11_count 116 = .ok (.goto 8, 3) := by decide +kernel
theorem dX11_count_119 : decode cX11_count 119 = .ok (.aload_n 0, 1) := by decide +kernel
theorem dX11_count_120 : decode cX11_count 120 = .ok (.iload_n 1, 1) := by decide +kernel
theorem dX11_count_121 : decode cX11_count 121 = .ok (.invokevirtual 228, 3) := by decide +kernel
theorem dX11_count_124 : decode cX11_count 124 = .ok (.ireturn, 1) := by decide +kernel
theorem dX11_countInPlan_0 : decode cX11_countInPlan 0 = .ok (.iload_n 1, 1) := by decide +kernel
theorem dX11_countInPlan_1 : decode cX11_countInPlan 1 = .ok (.tableswitch 63 5 8 #[31, 39, 47, 55], 31) := by decide +kernel
theorem dX11_countInPlan_32 : decode cX11_countInPlan 32 = .ok (.aload_n 0, 1) := by decide +kernel
theorem dX11_countInPlan_33 : decode cX11_countInPlan 33 = .ok (.getfield 57, 3) := by decide +kernel
theorem dX11_countInPlan_36 : decode cX11_countInPlan 36 = .ok (.getfield 231, 3) := by decide +kernel
theorem dX11_countInPlan_39 : decode cX11_countInPlan 39 = .ok (.ireturn, 1) := by decide +kernel
theorem dX11_countInPlan_40 : decode cX11_countInPlan 40 = .ok (.aload_n 0, 1) := by decide +kernel
theorem dX11_countInPlan_41 : decode cX11_countInPlan 41 = .ok (.getfield 57, 3) := by decide +kernel
theorem dX11_countInPlan_44 : decode cX11_countInPlan 44 = .ok (.getfield 232, 3) := by decide +kernel
theorem dX11_countInPlan_47 : decode cX11_countInPlan 47 = .ok (.ireturn, 1) := by decide +kernel
theorem dX11_countInPlan_48 : decode cX11_countInPlan 48 = .ok (.aload_n 0, 1) := by decide +kernel
theorem dX11_countInPlan_49 : decode cX11_countInPlan 49 = .ok (.getfield 57, 3) := by decide +kernel
theorem dX11_countInPlan_52 : decode cX11_countInPlan 52 = .ok (.getfield 235, 3) := by decide +kernel
theorem dX11_countInPlan_55 : decode cX11_countInPlan 55 = .ok (.ireturn, 1) := by decide +kernel
theorem dX11_countInPlan_56 : decode cX11_countInPlan 56 = .ok (.aload_n 0, 1) := by decide +kernel
theorem dX11_countInPlan_57 : decode cX11_countInPlan 57 = .ok (.getfield 57, 3) := by decide +kernel
theorem dX11_countInPlan_60 : decode cX11_countInPlan 60 = .ok (.getfield 225, 3) := by decide +kernel
theorem dX11_countInPlan_63 : decode cX11_countInPlan 63 = .ok (.ireturn, 1) := by decide +kernel
theorem dX11_countInPlan_64 : decode cX11_countInPlan 64 = .ok (.iconst (-1), 1) := by decide +kernel
theorem dX11_countInPlan_65 : decode cX11_countInPlan 65 = .ok (.ireturn, 1) := by decide +kernel
theorem dX11_findShowing_0 : decode cX11_findShowing 0 = .ok (.aload_n 0, 1) := by decide +kernel
theorem dX11_findShowing_1 : decode cX11_findShowing 1 = .ok (.getfield 12, 3) := by decide +kernel
theorem dX11_findShowing_4 : decode cX11_findShowing 4 = .ok (.iload_n 2, 1) := by decide +kernel
theorem dX11_findShowing_5 : decode cX11_findShowing 5 = .ok (.invokevirtual 124, 3) := by decide +kernel
theorem dX11_findShowing_8 : decode cX11_findShowing 8 = .ok (.ifCond .ne 5, 3) := by decide +kernel
theorem dX11_findShowing_11 : decode cX11_findShowing 11 = .ok (.aconst_null, 1) := by decide +kernel
theorem dX11_findShowing_12 : decode cX11_findShowing 12 = .ok (.areturn, 1) := by decide +kernel
theorem dX11_findShowing_13 : decode cX11_findShowing 13 = .ok (.aload_n 0, 1) := by decide +kernel
theorem dX11_findShowing_14 : decode cX11_findShowing 14 = .ok (.getfield 19, 3) := by decide +kernel
theorem dX11_findShowing_17 : decode cX11_findShowing 17 = .ok (.aload_n 0, 1) := by decide +kernel
theorem dX11_findShowing_18 : decode cX11_findShowing 18 = .ok (.getfield 12, 3) := by decide +kernel
theorem dX11_findShowing_21 : decode cX11_findShowing 21 = .ok (.iload_n 2, 1) := by decide +kernel
theorem dX11_findShowing_22 : decode cX11_findShowing 22 = .ok (.invokevirtual 127, 3) := by decide +kernel
theorem dX11_findShowing_25 : decode cX11_findShowing 25 = .ok (.aload_n 0, 1) := by decide +kernel
theorem dX11_findShowing_26 : decode cX11_findShowing 26 = .ok (.getfield 19, 3) := by decide +kernel
theorem dX11_findShowing_29 : decode cX11_findShowing 29 = .ok (.iload_n 1, 1) := by decide +kernel
theorem dX11_findShowing_30 : decode cX11_findShowing 30 = .ok (.invokevirtual 238, 3) := by decide +kernel
theorem dX11_findShowing_33 : decode cX11_findShowing 33 = .ok (.areturn, 1) := by decide +kernel
theorem dX12_init_0 : decode cX12_init 0 = .ok (.aload_n 0, 1) := by decide +kernel
theorem dX12_init_1 : decode cX12_init 1 = .ok (.invokespecial 7, 3) := by decide +kernel
theorem dX12_init_4 : decode cX12_init 4 = .ok (.aload_n 0, 1) := by decide +kernel
theorem dX12_init_5 : decode cX12_init 5 = .ok (.sipush 2000, 3) := by decide +kernel
theorem dX12_init_8 : decode cX12_init 8 = .ok (.newarray .byte, 2) := by decide +kernel
theorem dX12_init_10 : decode cX12_init 10 = .ok (.putfield 13, 3) := by decide +kernel
theorem dX12_init_13 : decode cX12_init 13 = .ok (.aload_n 0, 1) := by decide +kernel
theorem dX12_init_14 : decode cX12_init 14 = .ok (.sipush 2000, 3) := by decide +kernel
theorem dX12_init_17 : decode cX12_init 17 = .ok (.newarray .byte, 2) := by decide +kernel
theorem dX12_init_19 : decode cX12_init 19 = .ok (.putfield 17, 3) := by decide +kernel
theorem dX12_init_22 : decode cX12_init 22 = .ok (.aload_n 0, 1) := by decide +kernel
theorem dX12_init_23 : decode cX12_init 23 = .ok (.sipush 403, 3) := by decide +kernel
theorem dX12_init_26 : decode cX12_init 26 = .ok (.newarray .int, 2) := by decide +kernel
theorem dX12_init_28 : decode cX12_init 28 = .ok (.putfield 20, 3) := by decide +kernel
theorem dX12_init_31 : decode cX12_init 31 = .ok (.aload_n 0, 1) := by decide +kernel
theorem dX12_init_32 : decode cX12_init 32 = .ok (.sipush 403, 3) := by decide +kernel
theorem dX12_init_35 : decode cX12_init 35 = .ok (.newarray .int, 2) := by decide +kernel
theorem dX12_init_37 : decode cX12_init 37 = .ok (.putfield 24, 3) := by decide +kernel
theorem dX12_init_40 : decode cX12_init 40 = .ok (.aload_n 0, 1) := by decide +kernel
theorem dX12_init_41 : decode cX12_init 41 = .ok (.sipush 403, 3) := by decide +kernel
theorem dX12_init_44 : decode cX12_init 44 = .ok (.newarray .int, 2) := by decide +kernel
theorem dX12_init_46 : decode cX12_init 46 = .ok (.putfield 27, 3) := by decide +kernel
theorem dX12_init_49 : decode cX12_init 49 = .ok (.aload_n 0, 1) := by decide +kernel
theorem dX12_init_50 : decode cX12_init 50 = .ok (.sipush 403, 3) := by decide +kernel
theorem dX12_init_53 : decode cX12_init 53 = .ok (.newarray .long, 2) := by decide +kernel
theorem dX12_init_55 : decode cX12_init 55 = .ok (.putfield 30, 3) := by decide +kernel
theorem dX12_init_58 : decode cX12_init 58 = .ok (.aload_n 0, 1) := by decide +kernel
theorem dX12_init_59 : decode cX12_init 59 = .ok (.bipush 14, 2) := by decide +kernel
theorem dX12_init_61 : decode cX12_init 61 = .ok (.newarray .long, 2) := by decide +kernel
theorem dX12_init_63 : decode cX12_init 63 = .ok (.putfield 34, 3) := by decide +kernel
theorem dX12_init_66 : decode cX12_init 66 = .ok (.aload_n 0, 1) := by decide +kernel
theorem dX12_init_67 : decode cX12_init 67 = .ok (.iconst (-1), 1) := by decide +kernel
theorem dX12_init_68 : decode cX12_init 68 = .ok (.putfield 37, 3) := by decide +kernel
theorem dX12_init_71 : decode cX12_init 71 = .ok (.aload_n 0, 1) := by decide +kernel
theorem dX12_init_72 : decode cX12_init 72 = .ok (.iconst 2, 1) := by decide +kernel
theorem dX12_init_73 : decode cX12_init 73 = .ok (.newarray .int, 2) := by decide +kernel
theorem dX12_init_75 : decode cX12_init 75 = .ok (.putfield 40, 3) := by decide +kernel
theorem dX12_init_78 : decode cX12_init 78 = .ok (.aload_n 0, 1) := by decide +kernel
theorem dX12_init_79 : decode cX12_init 79 = .ok (.bipush 40, 2) := by decide +kernel
theorem dX12_init_81 : decode cX12_init 81 = .ok (.newarray .int, 2) := by decide +kernel
theorem dX12_init_83 : decode cX12_init 83 = .ok (.putfield 43, 3) := by decide +kernel
theorem dX12_init_86 : decode cX12_init 86 = .ok (.aload_n 0, 1) := by decide +kernel
theorem dX12_init_87 : decode cX12_init 87 = .ok (.bipush 42, 2) := by decide +kernel
theorem dX12_init_89 : decode cX12_init 89 = .ok (.newarray .int, 2) := by decide +kernel
theorem dX12_init_91 : decode cX12_init 91 = .ok (.putfield 46, 3) := by decide +kernel
theorem dX12_init_94 : decode cX12_init 94 = .ok (.aload_n 0, 1) := by decide +kernel
theorem dX12_init_95 : decode cX12_init 95 = .ok (.iconst 2, 1) := by decide +kernel
theorem dX12_init_96 : decode cX12_init 96 = .ok (.newarray .int, 2) := by decide +kernel
theorem dX12_init_98 : decode cX12_init 98 = .ok (.putfield 49, 3) := by decide +kernel
theorem dX12_init_101 : decode cX12_init 101 = .ok (.aload_n 0, 1) := by decide +kernel
theorem dX12_init_102 : decode cX12_init 102 = .ok (.sipush 800, 3) := by decide +kernel
theorem dX12_init_105 : decode cX12_init 105 = .ok (.newarray .int, 2) := by decide +kernel
theorem dX12_init_107 : decode cX12_init 107 = .ok (.putfield 52, 3) := by decide +kernel
theorem dX12_init_110 : decode cX12_init 110 = .ok (.aload_n 0, 1) := by decide +kernel
theorem dX12_init_111 : decode cX12_init 111 = .ok (.sipush 800, 3) := by decide +kernel
theorem dX12_init_114 : decode cX12_init 114 = .ok (.newarray .int, 2) := by decide +kernel
theorem dX12_init_116 : decode cX12_init 116 = .ok (.putfield 55, 3) := by decide +kernel
theorem dX12_init_119 : decode cX12_init 119 = .ok (.aload_n 0, 1) := by decide +kernel
theorem dX12_init_120 : decode cX12_init 120 = .ok (.sipush 800, 3) := by decide +kernel
theorem dX12_init_123 : decode cX12_init 123 = .ok (.newarray .int, 2) := by decide +kernel
theorem dX12_init_125 : decode cX12_init 125 = .ok (.putfield 58, 3) := by decide +kernel
theorem dX12_init_128 : decode cX12_init 128 = .ok (.aload_n 0, 1) := by decide +kernel
theorem dX12_init_129 : decode cX12_init 129 = .ok (.sipush 800, 3) := by decide +kernel
theorem dX12_init_132 : decode cX12_init 132 = .ok (.newarray .int, 2) := by decide +kernel
theorem dX12_init_134 : decode cX12_init 134 = .ok (.putfield 61, 3) := by decide +kernel
theorem dX12_init_137 : decode cX12_init 137 = .ok (.aload_n 0, 1) := by decide +kernel
theorem dX12_init_138 : decode cX12_init 138 = .ok (.sipush 800, 3) := by decide +kernel
theorem dX12_init_141 : decode cX12_init 141 = .ok (.newarray .boolean, 2) := by decide +kernel
theorem dX12_init_143 : decode cX12_init 143 = .ok (.putfield 64, 3) := by decide +kernel
theorem dX12_init_146 : decode cX12_init 146 = .ok (.aload_n 0, 1) := by decide +kernel
theorem dX12_init_147 : decode cX12_init 147 = .ok (.sipush 1000, 3) := by decide +kernel
theorem dX12_init_150 : decode cX12_init 150 = .ok (.newarray .int, 2) := by decide +kernel
theorem dX12_init_152 : decode cX12_init 152 = .ok (.putfield 68, 3) := by decide +kernel
theorem dX12_init_155 : decode cX12_init 155 = .ok (.aload_n 0, 1) := by decide +kernel
theorem dX12_init_156 : decode cX12_init 156 = .ok (.sipush 1000, 3) := by decide +kernel
theorem dX12_init_159 : decode cX12_init 159 = .ok (.newarray .int, 2) := by decide +kernel
theorem dX12_init_161 : decode cX12_init 161 = .ok (.putfield 71, 3) := by decide +kernel
theorem dX12_init_164 : decode cX12_init 164 = .ok (.aload_n 0, 1) := by decide +kernel
theorem dX12_init_165 : decode cX12_init 165 = .ok (.bipush 48, 2) := by decide +kernel
theorem dX12_init_167 : decode cX12_init 167 = .ok (.newarray .int, 2) := by decide +kernel
theorem dX12_init_169 : decode cX12_init 169 = .ok (.putfield 74, 3) := by decide +kernel
theorem dX12_init_172 : decode cX12_init 172 = .ok (.aload_n 0, 1) := by decide +kernel
theorem dX12_init_173 : decode cX12_init 173 = .ok (.bipush 6, 2) := by decide +kernel
theorem dX12_init_175 : decode cX12_init 175 = .ok (.newarray .int, 2) := by decide +kernel
theorem dX12_init_177 : decode cX12_init 177 = .ok (.putfield 77, 3) := by decide +kernel
theorem dX12_init_180 : decode cX12_init 180 = .ok (.aload_n 0, 1) := by decide +kernel
theorem dX12_init_181 : decode cX12_init 181 = .ok (.sipush 300, 3) := by decide +kernel
theorem dX12_init_184 : decode cX12_init 184 = .ok (.newarray .boolean, 2) := by decide +kernel
theorem dX12_init_186 : decode cX12_init 186 = .ok (.putfield 80, 3) := by decide +kernel
theorem dX12_init_189 : decode cX12_init 189 = .ok (.aload_n 0, 1) := by decide +kernel
theorem dX12_init_190 : decode cX12_init 190 = .ok (.sipush 300, 3) := by decide +kernel
theorem dX12_init_193 : decode cX12_init 193 = .ok (.newarray .int, 2) := by decide +kernel
theorem dX12_init_195 : decode cX12_init 195 = .ok (.putfield 83, 3) := by decide +kernel
theorem dX12_init_198 : decode cX12_init 198 = .ok (.aload_n 0, 1) := by decide +kernel
theorem dX12_init_199 : decode cX12_init 199 = .ok (.sipush 300, 3) := by decide +kernel
theorem dX12_init_202 : decode cX12_init 202 = .ok (.newarray .int, 2) := by decide +kernel
theorem dX12_init_204 : decode cX12_init 204 = .ok (.putfield 86, 3) := by decide +kernel
theorem dX12_init_207 : decode cX12_init 207 = .ok (.aload_n 0, 1) := by decide +kernel
theorem dX12_init_208 : decode cX12_init 208 = .ok (.sipush 300, 3) := by decide +kernel
theorem dX12_init_211 : decode cX12_init 211 = .ok (.newarray .int, 2) := by decide +kernel
theorem dX12_init_213 : decode cX12_init 213 = .ok (.putfield 89, 3) := by decide +kernel
theorem dX12_init_216 : decode cX12_init 216 = .ok (.aload_n 0, 1) := by decide +kernel
theorem dX12_init_217 : decode cX12_init 217 = .ok (.sipush 300, 3) := by decide +kernel
theorem dX12_init_220 : decode cX12_init 220 = .ok (.newarray .int, 2) := by decide +kernel
theorem dX12_init_222 : decode cX12_init 222 = .ok (.putfield 92, 3) := by decide +kernel
theorem dX12_init_225 : decode cX12_init 225 = .ok (.aload_n 0, 1) := by decide +kernel
theorem dX12_init_226 : decode cX12_init 226 = .ok (.sipush 300, 3) := by decide +kernel
theorem dX12_init_229 : decode cX12_init 229 = .ok (.newarray .int, 2) := by decide +kernel
theorem dX12_init_231 : decode cX12_init 231 = .ok (.putfield 95, 3) := by decide +kernel
theorem dX12_init_234 : decode cX12_init 234 = .ok (.aload_n 0, 1) := by decide +kernel
theorem dX12_init_235 : decode cX12_init 235 = .ok (.sipush 300, 3) := by decide +kernel
theorem dX12_init_238 : decode cX12_init 238 = .ok (.newarray .int, 2) := by decide +kernel
theorem dX12_init_240 : decode cX12_init 240 = .ok (.putfield 98, 3) := by decide +kernel
theorem dX12_init_243 : decode cX12_init 243 = .ok (.aload_n 0, 1) := by decide +kernel
theorem dX12_init_244 : decode cX12_init 244 = .ok (.sipush 300, 3) := by decide +kernel
theorem dX12_init_247 : decode cX12_init 247 = .ok (.newarray .boolean, 2) := by decide +kernel
theorem dX12_init_249 : decode cX12_init 249 = .ok (.putfield 101, 3) := by decide +kernel
theorem dX12_init_252 : decode cX12_init 252 = .ok (.aload_n 0, 1) := by decide +kernel
theorem dX12_init_253 : decode cX12_init 253 = .ok (.iconst (-1), 1) := by decide +kernel
theorem dX12_init_254 : decode cX12_init 254 = .ok (.putfield 104, 3) := by decide +kernel
theorem dX12_init_257 : decode cX12_init 257 = .ok (.aload_n 0, 1) := by decide +kernel
theorem dX12_init_258 : decode cX12_init 258 = .ok (.sipush 288, 3) := by decide +kernel
theorem dX12_init_261 : decode cX12_init 261 = .ok (.newarray .int, 2) := by decide +kernel
theorem dX12_init_263 : decode cX12_init 263 = .ok (.putfield 107, 3) := by decide +kernel
theorem dX12_init_266 : decode cX12_init 266 = .ok (.aload_n 0, 1) := by decide +kernel
theorem dX12_init_267 : decode cX12_init 267 = .ok (.sipush 1728, 3) := by decide +kernel
theorem dX12_init_270 : decode cX12_init 270 = .ok (.newarray .int, 2) := by decide +kernel
theorem dX12_init_272 : decode cX12_init 272 = .ok (.putfield 110, 3) := by decide +kernel
theorem dX12_init_275 : decode cX12_init 275 = .ok (.aload_n 0, 1) := by decide +kernel
theorem dX12_init_276 : decode cX12_init 276 = .ok (.sipush 288, 3) := by decide +kernel
theorem dX12_init_279 : decode cX12_init 279 = .ok (.newarray .int, 2) := by decide +kernel
theorem dX12_init_281 : decode cX12_init 281 = .ok (.putfield 113, 3) := by decide +kernel
theorem dX12_init_284 : decode cX12_init 284 = .ok (.aload_n 0, 1) := by decide +kernel
theorem dX12_init_285 : decode cX12_init 285 = .ok (.sipush 1728, 3) := by decide +kernel
theorem dX12_init_288 : decode cX12_init 288 = .ok (.newarray .int, 2) := by decide +kernel
theorem dX12_init_290 : decode cX12_init 290 = .ok (.putfield 116, 3) := by decide +kernel
theorem dX12_init_293 : decode cX12_init 293 = .ok (.aload_n 0, 1) := by decide +kernel
theorem dX12_init_294 : decode cX12_init 294 = .ok (.sipush 1728, 3) := by decide +kernel
theorem dX12_init_297 : decode cX12_init 297 = .ok (.newarray .int, 2) := by decide +kernel
theorem dX12_init_299 : decode cX12_init 299 = .ok (.putfield 119, 3) := by decide +kernel
theorem dX12_init_302 : decode cX12_init 302 = .ok (.aload_n 0, 1) := by decide +kernel
theorem dX12_init_303 : decode cX12_init 303 = .ok (.sipush 1728, 3) := by decide +kernel
theorem dX12_init_306 : decode cX12_init 306 = .ok (.newarray .int, 2) := by decide +kernel
theorem dX12_init_308 : decode cX12_init 308 = .ok (.putfield 122, 3) := by decide +kernel
theorem dX12_init_311 : decode cX12_init 311 = .ok (.aload_n 0, 1) := by decide +kernel
theorem dX12_init_312 : decode cX12_init 312 = .ok (.sipush 1728, 3) := by decide +kernel
theorem dX12_init_315 : decode cX12_init 315 = .ok (.newarray .int, 2) := by decide +kernel
theorem dX12_init_317 : decode cX12_init 317 = .ok (.putfield 125, 3) := by decide +kernel
theorem dX12_init_320 : decode cX12_init 320 = .ok (.aload_n 0, 1) := by decide +kernel
theorem dX12_init_321 : decode cX12_init 321 = .ok (.sipush 500, 3) := by decide +kernel
theorem dX12_init_324 : decode cX12_init 324 = .ok (.newarray .int, 2) := by decide +kernel
theorem dX12_init_326 : decode cX12_init 326 = .ok (.putfield 128, 3) := by decide +kernel
theorem dX12_init_329 : decode cX12_init 329 = .ok (.aload_n 0, 1) := by decide +kernel
theorem dX12_init_330 : decode cX12_init 330 = .ok (.iconst (-1), 1) := by decide +kernel
theorem dX12_init_331 : decode cX12_init 331 = .ok (.putfield 131, 3) := by decide +kernel
theorem dX12_init_334 : decode cX12_init 334 = .ok (.aload_n 0, 1) := by decide +kernel
theorem dX12_init_335 : decode cX12_init 335 = .ok (.bipush 14, 2) := by decide +kernel
theorem dX12_init_337 : decode cX12_init 337 = .ok (.newarray .int, 2) := by decide +kernel
theorem dX12_init_339 : decode cX12_init 339 = .ok (.putfield 134, 3) := by decide +kernel
theorem dX12_init_342 : decode cX12_init 342 = .ok (.aload_n 0, 1) := by decide +kernel
theorem dX12_init_343 : decode cX12_init 343 = .ok (.bipush 14, 2) := by decide +kernel
theorem dX12_init_345 : decode cX12_init 345 = .ok (.newarray .int, 2) := by decide +kernel
theorem dX12_init_347 : decode cX12_init 347 = .ok (.putfield 137, 3) := by decide +kernel
theorem dX12_init_350 : decode cX12_init 350 = .ok (.aload_n 0, 1) := by decide +kernel
theorem dX12_init_351 : decode cX12_init 351 = .ok (.bipush 14, 2) := by decide +kernel
theorem dX12_init_353 : decode cX12_init 353 = .ok (.newarray .int, 2) := by decide +kernel
theorem dX12_init_355 : decode cX12_init 355 = .ok (.putfield 140, 3) := by decide +kernel
theorem dX12_init_358 : decode cX12_init 358 = .ok (.aload_n 0, 1) := by decide +kernel
theorem dX12_init_359 : decode cX12_init 359 = .ok (.bipush 14, 2) := by decide +kernel
theorem dX12_init_361 : decode cX12_init 361 = .ok (.newarray .int, 2) := by decide +kernel
theorem dX12_init_363 : decode cX12_init 363 = .ok (.putfield 143, 3) := by decide +kernel
theorem dX12_init_366 : decode cX12_init 366 = .ok (.aload_n 0, 1) := by decide +kernel
theorem dX12_init_367 : decode cX12_init 367 = .ok (.bipush 14, 2) := by decide +kernel
theorem dX12_init_369 : decode cX12_init 369 = .ok (.newarray .int, 2) := by decide +kernel
theorem dX12_init_371 : decode cX12_init 371 = .ok (.putfield 146, 3) := by decide +kernel
theorem dX12_init_374 : decode cX12_init 374 = .ok (.aload_n 0, 1) := by decide +kernel
theorem dX12_init_375 : decode cX12_init 375 = .ok (.bipush 14, 2) := by decide +kernel
theorem dX12_init_377 : decode cX12_init 377 = .ok (.newarray .int, 2) := by decide +kernel
theorem dX12_init_379 : decode cX12_init 379 = .ok (.putfield 149, 3) := by decide +kernel
theorem dX12_init_382 : decode cX12_init 382 = .ok (.aload_n 0, 1) := by decide +kernel
theorem dX12_init_383 : decode cX12_init 383 = .ok (.bipush 14, 2) := by decide +kernel
theorem dX12_init_385 : decode cX12_init 385 = .ok (.newarray .int, 2) := by decide +kernel
theorem dX12_init_387 : decode cX12_init 387 = .ok (.putfield 152, 3) := by decide +kernel
theorem dX12_init_390 : decode cX12_init 390 = .ok (.aload_n 0, 1) := by decide +kernel
theorem dX12_init_391 : decode cX12_init 391 = .ok (.bipush 14, 2) := by decide +kernel
theorem dX12_init_393 : decode cX12_init 393 = .ok (.newarray .int, 2) := by decide +kernel
theorem dX12_init_395 : decode cX12_init 395 = .ok (.putfield 155, 3) := by decide +kernel
theorem dX12_init_398 : decode cX12_init 398 = .ok (.aload_n 0, 1) := by decide +kernel
theorem dX12_init_399 : decode cX12_init 399 = .ok (.bipush 14, 2) := by decide +kernel
theorem dX12_init_401 : decode cX12_init 401 = .ok (.newarray .boolean, 2) := by decide +kernel
theorem dX12_init_403 : decode cX12_init 403 = .ok (.putfield 158, 3) := by decide +kernel
theorem dX12_init_406 : decode cX12_init 406 = .ok (.aload_n 0, 1) := by decide +kernel
theorem dX12_init_407 : decode cX12_init 407 = .ok (.bipush 14, 2) := by decide +kernel
theorem dX12_init_409 : decode cX12_init 409 = .ok (.newarray .boolean, 2) := by decide +kernel
theorem dX12_init_411 : decode cX12_init 411 = .ok (.putfield 161, 3) := by decide +kernel
theorem dX12_init_414 : decode cX12_init 414 = .ok (.aload_n 0, 1) := by decide +kernel
theorem dX12_init_415 : decode cX12_init 415 = .ok (.bipush 14, 2) := by decide +kernel
theorem dX12_init_417 : decode cX12_init 417 = .ok (.newarray .int, 2) := by decide +kernel
theorem dX12_init_419 : decode cX12_init 419 = .ok (.putfield 164, 3) := by decide +kernel
theorem dX12_init_422 : decode cX12_init 422 = .ok (.aload_n 0, 1) := by decide +kernel
theorem dX12_init_423 : decode cX12_init 423 = .ok (.bipush 14, 2) := by decide +kernel
theorem dX12_init_425 : decode cX12_init 425 = .ok (.newarray .int, 2) := by decide +kernel
theorem dX12_init_427 : decode cX12_init 427 = .ok (.putfield 167, 3) := by decide +kernel
theorem dX12_init_430 : decode cX12_init 430 = .ok (.aload_n 0, 1) := by decide +kernel
theorem dX12_init_431 : decode cX12_init 431 = .ok (.bipush 14, 2) := by decide +kernel
theorem dX12_init_433 : decode cX12_init 433 = .ok (.newarray .int, 2) := by decide +kernel
theorem dX12_init_435 : decode cX12_init 435 = .ok (.putfield 170, 3) := by decide +kernel
theorem dX12_init_438 : decode cX12_init 438 = .ok (.aload_n 0, 1) := by decide +kernel
theorem dX12_init_439 : decode cX12_init 439 = .ok (.bipush 14, 2) := by decide +kernel
theorem dX12_init_441 : decode cX12_init 441 = .ok (.newarray .int, 2) := by decide +kernel
theorem dX12_init_443 : decode cX12_init 443 = .ok (.putfield 173, 3) := by decide +kernel
theorem dX12_init_446 : decode cX12_init 446 = .ok (.aload_n 0, 1) := by decide +kernel
theorem dX12_init_447 : decode cX12_init 447 = .ok (.bipush 14, 2) := by decide +kernel
theorem dX12_init_449 : decode cX12_init 449 = .ok (.newarray .int, 2) := by decide +kernel
theorem dX12_init_451 : decode cX12_init 451 = .ok (.putfield 176, 3) := by decide +kernel
theorem dX12_init_454 : decode cX12_init 454 = .ok (.aload_n 0, 1) := by decide +kernel
theorem dX12_init_455 : decode cX12_init 455 = .ok (.bipush 14, 2) := by decide +kernel
theorem dX12_init_457 : decode cX12_init 457 = .ok (.newarray .int, 2) := by decide +kernel
theorem dX12_init_459 : decode cX12_init 459 = .ok (.putfield 179, 3) := by decide +kernel
theorem dX12_init_462 : decode cX12_init 462 = .ok (.aload_n 0, 1) := by decide +kernel
theorem dX12_init_463 : decode cX12_init 463 = .ok (.getfield 34, 3) := by decide +kernel
theorem dX12_init_466 : decode cX12_init 466 = .ok (.iconst 0, 1) := by decide +kernel
theorem dX12_init_467 : decode cX12_init 467 = .ok (.bipush 119, 2) := by decide +kernel
theorem dX12_init_469 : decode cX12_init 469 = .ok (.bipush 105, 2) := by decide +kernel
theorem dX12_init_471 : decode cX12_init 471 = .ok (.bipush 115, 2) := by decide +kernel
theorem dX12_init_473 : decode cX12_init 473 = .ok (.bipush 104, 2) := by decide +kernel
theorem dX12_init_475 : decode cX12_init 475 = .ok (.iconst 0, 1) := by decide +kernel
theorem dX12_init_476 : decode cX12_init 476 = .ok (.iconst 0, 1) := by decide +kernel
theorem dX12_init_477 : decode cX12_init 477 = .ok (.iconst 0, 1) := by decide +kernel
theorem dX12_init_478 : decode cX12_init 478 = .ok (.invokestatic 182, 3) := by decide +kernel
theorem dX12_init_481 : decode cX12_init 481 = .ok (.lastore, 1) := by decide +kernel
theorem dX12_init_482 : decode cX12_init 482 = .ok (.aload_n 0, 1) := by decide +kernel
theorem dX12_init_483 : decode cX12_init 483 = .ok (.getfield 34, 3) := by decide +kernel
theorem dX12_init_486 : decode cX12_init 486 = .ok (.iconst 1, 1) := by decide +kernel
theorem dX12_init_487 : decode cX12_init 487 = .ok (.bipush 105, 2) := by decide +kernel
theorem dX12_init_489 : decode cX12_init 489 = .ok (.bipush 102, 2) := by decide +kernel
theorem dX12_init_491 : decode cX12_init 491 = .ok (.iconst 0, 1) := by decide +kernel
theorem dX12_init_492 : decode cX12_init 492 = .ok (.iconst 0, 1) := by decide +kernel
theorem dX12_init_493 : decode cX12_init 493 = .ok (.iconst 0, 1) := by decide +kernel
theorem dX12_init_494 : decode cX12_init 494 = .ok (.iconst 0, 1) := by decide +kernel
theorem dX12_init_495 : decode cX12_init 495 = .ok (.iconst 0, 1) := by decide +kernel
theorem dX12_init_496 : decode cX12_init 496 = .ok (.invokestatic 182, 3) := by decide +kernel
theorem dX12_init_499 : decode cX12_init 499 = .ok (.lastore, 1) := by decide +kernel
theorem dX12_init_500 : decode cX12_init 500 = .ok (.aload_n 0, 1) := by decide +kernel
theorem dX12_init_501 : decode cX12_init 501 = .ok (.getfield 34, 3) := by decide +kernel
theorem dX12_init_504 : decode cX12_init 504 = .ok (.iconst 2, 1) := by decide +kernel
theorem dX12_init_505 : decode cX12_init 505 = .ok (.bipush 110, 2) := by decide +kernel
theorem dX12_init_507 : decode cX12_init 507 = .ok (.bipush 101, 2) := by decide +kernel
theorem dX12_init_509 : decode cX12_init 509 = .ok (.bipush 118, 2) := by decide +kernel
theorem dX12_init_511 : decode cX12_init 511 = .ok (.bipush 101, 2) := by decide +kernel
theorem dX12_init_513 : decode cX12_init 513 = .ok (.bipush 114, 2) := by decide +kernel
theorem dX12_init_515 : decode cX12_init 515 = .ok (.iconst 0, 1) := by decide +kernel
theorem dX12_init_516 : decode cX12_init 516 = .ok (.iconst 0, 1) := by decide +kernel
theorem dX12_init_517 : decode cX12_init 517 = .ok (.invokestatic 182, 3) := by decide +kernel
theorem dX12_init_520 : decode cX12_init 520 = .ok (.lastore, 1) := by decide +kernel
theorem dX12_init_521 : decode cX12_init 521 = .ok (.aload_n 0, 1) := by decide +kernel
theorem dX12_init_522 : decode cX12_init 522 = .ok (.getfield 34, 3) := by decide +kernel
theorem dX12_init_525 : decode cX12_init 525 = .ok (.iconst 3, 1) := by decide +kernel
theorem dX12_init_526 : decode cX12_init 526 = .ok (.bipush 111, 2) := by decide +kernel
theorem dX12_init_528 : decode cX12_init 528 = .ok (.bipush 114, 2) := by decide +kernel
theorem dX12_init_530 : decode cX12_init 530 = .ok (.iconst 0, 1) := by decide +kernel
theorem dX12_init_531 : decode cX12_init 531 = .ok (.iconst 0, 1) := by decide +kernel
theorem dX12_init_532 : decode cX12_init 532 = .ok (.iconst 0, 1) := by decide +kernel
theorem dX12_init_533 : decode cX12_init 533 = .ok (.iconst 0, 1) := by decide +kernel
theorem dX12_init_534 : decode cX12_init 534 = .ok (.iconst 0, 1) := by decide +kernel
theorem dX12_init_535 : decode cX12_init 535 = .ok (.invokestatic 182, 3) := by decide +kernel
theorem dX12_init_538 : decode cX12_init 538 = .ok (.lastore, 1) := by decide +kernel
theorem dX12_init_539 : decode cX12_init 539 = .ok (.aload_n 0, 1) := by decide +kernel
theorem dX12_init_540 : decode cX12_init 540 = .ok (.getfield 34, 3) := by decide +kernel
theorem dX12_init_543 : decode cX12_init 543 = .ok (.iconst 4, 1) := by decide +kernel
theorem dX12_init_544 : decode cX12_init 544 = .ok (.bipush 97, 2) := by decide +kernel
theorem dX12_init_546 : decode cX12_init 546 = .ok (.bipush 110, 2) := by decide +kernel
theorem dX12_init_548 : decode cX12_init 548 = .ok (.bipush 100, 2) := by decide +kernel
theorem dX12_init_550 : decode cX12_init 550 = .ok (.iconst 0, 1) := by decide +kernel
theorem dX12_init_551 : decode cX12_init 551 = .ok (.iconst 0, 1) := by decide +kernel
theorem dX12_init_552 : decode cX12_init 552 = .ok (.iconst 0, 1) := by decide +kernel
theorem dX12_init_553 : decode cX12_init 553 = .ok (.iconst 0, 1) := by decide +kernel
theorem dX12_init_554 : decode cX12_init 554 = .ok (.invokestatic 182, 3) := by decide +kernel
theorem dX12_init_557 : decode cX12_init 557 = .ok (.lastore, 1) := by decide +kernel
theorem dX12_init_558 : decode cX12_init 558 = .ok (.aload_n 0, 1) := by decide +kernel
theorem dX12_init_559 : decode cX12_init 559 = .ok (.getfield 34, 3) := by decide +kernel
theorem dX12_init_562 : decode cX12_init 562 = .ok (.iconst 5, 1) := by decide +kernel
theorem dX12_init_563 : decode cX12_init 563 = .ok (.bipush 108, 2) := by decide +kernel
theorem dX12_init_565 : decode cX12_init 565 = .ok (.bipush 105, 2) := by decide +kernel
theorem dX12_init_567 : decode cX12_init 567 = .ok (.bipush 118, 2) := by decide +kernel
theorem dX12_init_569 : decode cX12_init 569 = .ok (.bipush 101, 2) := by decide +kernel
theorem dX12_init_571 : decode cX12_init 571 = .ok (.iconst 0, 1) := by decide +kernel
theorem dX12_init_572 : decode cX12_init 572 = .ok (.iconst 0, 1) := by decide +kernel
theorem dX12_init_573 : decode cX12_init 573 = .ok (.iconst 0, 1) := by decide +kernel
theorem dX12_init_574 : decode cX12_init 574 = .ok (.invokestatic 182, 3) := by decide +kernel
theorem dX12_init_577 : decode cX12_init 577 = .ok (.lastore, 1) := by decide +kernel
theorem dX12_init_578 : decode cX12_init 578 = .ok (.aload_n 0, 1) := by decide +kernel
theorem dX12_init_579 : decode cX12_init 579 = .ok (.getfield 34, 3) := by decide +kernel
theorem dX12_init_582 : decode cX12_init 582 = .ok (.bipush 6, 2) := by decide +kernel
theorem dX12_init_584 : decode cX12_init 584 = .ok (.bipush 102, 2) := by decide +kernel
theorem dX12_init_586 : decode cX12_init 586 = .ok (.bipush 105, 2) := by decide +kernel
theorem dX12_init_588 : decode cX12_init 588 = .ok (.bipush 114, 2) := by decide +kernel
theorem dX12_init_590 : decode cX12_init 590 = .ok (.bipush 115, 2) := by decide +kernel
theorem dX12_init_592 : decode cX12_init 592 = .ok (.bipush 116, 2) := by decide +kernel
theorem dX12_init_594 : decode cX12_init 594 = .ok (.iconst 0, 1) := by decide +kernel
theorem dX12_init_595 : decode cX12_init 595 = .ok (.iconst 0, 1) := by decide +kernel
theorem dX12_init_596 : decode cX12_init 596 = .ok (.invokestatic 182, 3) := by decide +kernel
theorem dX12_init_599 : decode cX12_init 599 = .ok (.lastore, 1) := by decide +kernel
theorem dX12_init_600 : decode cX12_init 600 = .ok (.aload_n 0, 1) := by decide +kernel
theorem dX12_init_601 : decode cX12_init 601 = .ok (.getfield 34, 3) := by decide +kernel
theorem dX12_init_604 : decode cX12_init 604 = .ok (.bipush 7, 2) := by decide +kernel
theorem dX12_init_606 : decode cX12_init 606 = .ok (.bipush 116, 2) := by decide +kernel
theorem dX12_init_608 : decode cX12_init 608 = .ok (.bipush 105, 2) := by decide +kernel
theorem dX12_init_610 : decode cX12_init 610 = .ok (.bipush 116, 2) := by decide +kernel
theorem dX12_init_612 : decode cX12_init 612 = .ok (.bipush 108, 2) := by decide +kernel
theorem dX12_init_614 : decode cX12_init 614 = .ok (.bipush 101, 2) := by decide +kernel
theorem dX12_init_616 : decode cX12_init 616 = .ok (.iconst 0, 1) := by decide +kernel
theorem dX12_init_617 : decode cX12_init 617 = .ok (.iconst 0, 1) := by decide +kernel
theorem dX12_init_618 : decode cX12_init 618 = .ok (.invokestatic 182, 3) := by decide +kernel
theorem dX12_init_621 : decode cX12_init 621 = .ok (.lastore, 1) := by decide +kernel
theorem dX12_init_622 : decode cX12_init 622 = .ok (.aload_n 0, 1) := by decide +kernel
theorem dX12_init_623 : decode cX12_init 623 = .ok (.getfield 34, 3) := by decide +kernel
theorem dX12_init_626 : decode cX12_init 626 = .ok (.bipush 8, 2) := by decide +kernel
theorem dX12_init_628 : decode cX12_init 628 = .ok (.bipush 101, 2) := by decide +kernel
theorem dX12_init_630 : decode cX12_init 630 = .ok (.bipush 112, 2) := by decide +kernel
theorem dX12_init_632 : decode cX12_init 632 = .ok (.bipush 105, 2) := by decide +kernel
theorem dX12_init_634 : decode cX12_init 634 = .ok (.bipush 115, 2) := by decide +kernel
theorem dX12_init_636 : decode cX12_init 636 = .ok (.bipush 111, 2) := by decide +kernel
theorem dX12_init_638 : decode cX12_init 638 = .ok (.bipush 100, 2) := by decide +kernel
theorem dX12_init_640 : decode cX12_init 640 = .ok (.bipush 101, 2) := by decide +kernel
theorem dX12_init_642 : decode cX12_init 642 = .ok (.invokestatic 182, 3) := by decide +kernel
theorem dX12_init_645 : decode cX12_init 645 = .ok (.lastore, 1) := by decide +kernel
theorem dX12_init_646 : decode cX12_init 646 = .ok (.aload_n 0, 1) := by decide +kernel
theorem dX12_init_647 : decode cX12_init 647 = .ok (.getfield 34, 3) := by decide +kernel
theorem dX12_init_650 : decode cX12_init 650 = .ok (.bipush 9, 2) := by decide +kernel
theorem dX12_init_652 : decode cX12_init 652 = .ok (.bipush 99, 2) := by decide +kernel
theorem dX12_init_654 : decode cX12_init 654 = .ok (.bipush 104, 2) := by decide +kernel
theorem dX12_init_656 : decode cX12_init 656 = .ok (.bipush 97, 2) := by decide +kernel
theorem dX12_init_658 : decode cX12_init 658 = .ok (.bipush 110, 2) := by decide +kernel
theorem dX12_init_660 : decode cX12_init 660 = .ok (.bipush 110, 2) := by decide +kernel
theorem dX12_init_662 : decode cX12_init 662 = .ok (.bipush 101, 2) := by decide +kernel
theorem dX12_init_664 : decode cX12_init 664 = .ok (.bipush 108, 2) := by decide +kernel
theorem dX12_init_666 : decode cX12_init 666 = .ok (.invokestatic 182, 3) := by decide +kernel
theorem dX12_init_669 : decode cX12_init 669 = .ok (.lastore, 1) := by decide +kernel
theorem dX12_init_670 : decode cX12_init 670 = .ok (.aload_n 0, 1) := by decide +kernel
theorem dX12_init_671 : decode cX12_init 671 = .ok (.getfield 34, 3) := by decide +kernel
theorem dX12_init_674 : decode cX12_init 674 = .ok (.bipush 10, 2) := by decide +kernel
theorem dX12_init_676 : decode cX12_init 676 = .ok (.bipush 102, 2) := by decide +kernel
theorem dX12_init_678 : decode cX12_init 678 = .ok (.bipush 114, 2) := by decide +kernel
theorem dX12_init_680 : decode cX12_init 680 = .ok (.bipush 111, 2) := by decide +kernel
theorem dX12_init_682 : decode cX12_init 682 = .ok (.bipush 109, 2) := by decide +kernel
theorem dX12_init_684 : decode cX12_init 684 = .ok (.iconst 0, 1) := by decide +kernel
theorem dX12_init_685 : decode cX12_init 685 = .ok (.iconst 0, 1) := by decide +kernel
theorem dX12_init_686 : decode cX12_init 686 = .ok (.iconst 0, 1) := by decide +kernel
theorem dX12_init_687 : decode cX12_init 687 = .ok (.invokestatic 182, 3) := by decide +kernel
theorem dX12_init_690 : decode cX12_init 690 = .ok (.lastore, 1) := by decide +kernel
theorem dX12_init_691 : decode cX12_init 691 = .ok (.aload_n 0, 1) := by decide +kernel
theorem dX12_init_692 : decode cX12_init 692 = .ok (.getfield 34, 3) := by decide +kernel
theorem dX12_init_695 : decode cX12_init 695 = .ok (.bipush 11, 2) := by decide +kernel
theorem dX12_init_697 : decode cX12_init 697 = .ok (.bipush 117, 2) := by decide +kernel
theorem dX12_init_699 : decode cX12_init 699 = .ok (.bipush 110, 2) := by decide +kernel
theorem dX12_init_701 : decode cX12_init 701 = .ok (.bipush 116, 2) := by decide +kernel
theorem dX12_init_703 : decode cX12_init 703 = .ok (.bipush 105, 2) := by decide +kernel
theorem dX12_init_705 : decode cX12_init 705 = .ok (.bipush 108, 2) := by decide +kernel
theorem dX12_init_707 : decode cX12_init 707 = .ok (.iconst 0, 1) := by decide +kernel
theorem dX12_init_708 : decode cX12_init 708 = .ok (.iconst 0, 1) := by decide +kernel
theorem dX12_init_709 : decode cX12_init 709 = .ok (.invokestatic 182, 3) := by decide +kernel
theorem dX12_init_712 : decode cX12_init 712 = .ok (.lastore, 1) := by decide +kernel
theorem dX12_init_713 : decode cX12_init 713 = .ok (.aload_n 0, 1) := by decide +kernel
theorem dX12_init_714 : decode cX12_init 714 = .ok (.getfield 34, 3) := by decide +kernel
theorem dX12_init_717 : decode cX12_init 717 = .ok (.bipush 12, 2) := by decide +kernel
theorem dX12_init_719 : decode cX12_init 719 = .ok (.bipush 108, 2) := by decide +kernel
theorem dX12_init_721 : decode cX12_init 721 = .ok (.bipush 101, 2) := by decide +kernel
theorem dX12_init_723 : decode cX12_init 723 = .ok (.bipush 110, 2) := by decide +kernel
theorem dX12_init_725 : decode cX12_init 725 = .ok (.bipush 103, 2) := by decide +kernel
theorem dX12_init_727 : decode cX12_init 727 = .ok (.bipush 116, 2) := by decide +kernel
theorem dX12_init_729 : decode cX12_init 729 = .ok (.bipush 104, 2) := by decide +kernel
theorem dX12_init_731 : decode cX12_init 731 = .ok (.iconst 0, 1) := by decide +kernel
theorem dX12_init_732 : decode cX12_init 732 = .ok (.invokestatic 182, 3) := by decide +kernel
theorem dX12_init_735 : decode cX12_init 735 = .ok (.lastore, 1) := by decide +kernel
theorem dX12_init_736 : decode cX12_init 736 = .ok (.aload_n 0, 1) := by decide +kernel
theorem dX12_init_737 : decode cX12_init 737 = .ok (.getfield 34, 3) := by decide +kernel
theorem dX12_init_740 : decode cX12_init 740 = .ok (.bipush 13, 2) := by decide +kernel
theorem dX12_init_742 : decode cX12_init 742 = .ok (.bipush 116, 2) := by decide +kernel
theorem dX12_init_744 : decode cX12_init 744 = .ok (.bipush 114, 2) := by decide +kernel
theorem dX12_init_746 : decode cX12_init 746 = .ok (.bipush 117, 2) := by decide +kernel
theorem dX12_init_748 : decode cX12_init 748 = .ok (.bipush 115, 2) := by decide +kernel
theorem dX12_init_750 : decode cX12_init 750 = .ok (.bipush 116, 2) := by decide +kernel
theorem dX12_init_752 : decode cX12_init 752 = .ok (.iconst 0, 1) := by decide +kernel
theorem dX12_init_753 : decode cX12_init 753 = .ok (.iconst 0, 1) := by decide +kernel
theorem dX12_init_754 : decode cX12_init 754 = .ok (.invokestatic 182, 3) := by decide +kernel
theorem dX12_init_757 : decode cX12_init 757 = .ok (.lastore, 1) := by decide +kernel
theorem dX12_init_758 : decode cX12_init 758 = .ok (.aload_n 0, 1) := by decide +kernel
theorem dX12_init_759 : decode cX12_init 759 = .ok (.iconst 1, 1) := by decide +kernel
theorem dX12_init_760 : decode cX12_init 760 = .ok (.putfield 186, 3) := by decide +kernel
theorem dX12_init_763 : decode cX12_init 763 = .ok (.aload_n 0, 1) := by decide +kernel
theorem dX12_init_764 : decode cX12_init 764 = .ok (.iconst 1, 1) := by decide +kernel
theorem dX12_init_765 : decode cX12_init 765 = .ok (.putfield 189, 3) := by decide +kernel
theorem dX12_init_768 : decode cX12_init 768 = .ok (.aload_n 0, 1) := by decide +kernel
theorem dX12_init_769 : decode cX12_init 769 = .ok (.sipush 2000, 3) := by decide +kernel
theorem dX12_init_772 : decode cX12_init 772 = .ok (.putfield 192, 3) := by decide +kernel
theorem dX12_init_775 : decode cX12_init 775 = .ok (.return_, 1) := by decide +kernel
theorem dX12_feed_0 : decode cX12_feed 0 = .ok (.aload_n 0, 1) := by decide +kernel
theorem dX12_feed_1 : decode cX12_feed 1 = .ok (.getfield 195, 3) := by decide +kernel
theorem dX12_feed_4 : decode cX12_feed 4 = .ok (.bipush 20, 2) := by decide +kernel
theorem dX12_feed_6 : decode cX12_feed 6 = .ok (.iadd, 1) := by decide +kernel
theorem dX12_feed_7 : decode cX12_feed 7 = .ok (.sipush 2000, 3) := by decide +kernel
theorem dX12_feed_10 : decode cX12_feed 10 = .ok (.if_icmp .le 5, 3) := by decide +kernel
theorem dX12_feed_13 : decode cX12_feed 13 = .ok (.iconst (-1), 1) := by decide +kernel
theorem dX12_feed_14 : decode cX12_feed 14 = .ok (.ireturn, 1) := by decide +kernel
theorem dX12_feed_15 : decode cX12_feed 15 = .ok (.aload_n 0, 1) := by decide +kernel
theorem dX12_feed_16 : decode cX12_feed 16 = .ok (.iload_n 1, 1) := by decide +kernel
theorem dX12_feed_17 : decode cX12_feed 17 = .ok (.invokevirtual 198, 3) := by decide +kernel
theorem dX12_feed_20 : decode cX12_feed 20 = .ok (.aload_n 0, 1) := by decide +kernel
theorem dX12_feed_21 : decode cX12_feed 21 = .ok (.iload_n 2, 1) := by decide +kernel
theorem dX12_feed_22 : decode cX12_feed 22 = .ok (.invokevirtual 198, 3) := by decide +kernel
theorem dX12_feed_25 : decode cX12_feed 25 = .ok (.aload_n 0, 1) := by decide +kernel
theorem dX12_feed_26 : decode cX12_feed 26 = .ok (.iload_n 3, 1) := by decide +kernel
theorem dX12_feed_27 : decode cX12_feed 27 = .ok (.invokevirtual 198, 3) := by decide +kernel
theorem dX12_feed_30 : decode cX12_feed 30 = .ok (.aload_n 0, 1) := by decide +kernel
theorem dX12_feed_31 : decode cX12_feed 31 = .ok (.iload 4, 2) := by decide +kernel
theorem dX12_feed_33 : decode cX12_feed 33 = .ok (.invokevirtual 198, 3) := by decide +kernel
theorem dX12_feed_36 : decode cX12_feed 36 = .ok (.aload_n 0, 1) := by decide +kernel
theorem dX12_feed_37 : decode cX12_feed 37 = .ok (.iload 5, 2) := by decide +kernel
theorem dX12_feed_39 : decode cX12_feed 39 = .ok (.invokevirtual 198, 3) := by decide +kernel
theorem dX12_feed_42 : decode cX12_feed 42 = .ok (.aload_n 0, 1) := by decide +kernel
theorem dX12_feed_43 : decode cX12_feed 43 = .ok (.getfield 195, 3) := by decide +kernel
theorem dX12_feed_46 : decode cX12_feed 46 = .ok (.ireturn, 1) := by decide +kernel
theorem dX12_put_0 : decode cX12_put 0 = .ok (.bipush 24, 2) := by decide +kernel
theorem dX12_put_2 : decode cX12_put 2 = .ok (.istore_n 2, 1) := by decide +kernel
theorem dX12_put_3 : decode cX12_put 3 = .ok (.iload_n 2, 1) := by decide +kernel
theorem dX12_put_4 : decode cX12_put 4 = .ok (.ifCond .lt 32, 3) := by decide +kernel
theorem dX12_put_7 : decode cX12_put 7 = .ok (.aload_n 0, 1) := by decide +kernel
theorem dX12_put_8 : decode cX12_put 8 = .ok (.getfield 13, 3) := by decide +kernel
theorem dX12_put_11 : decode cX12_put 11 = .ok (.aload_n 0, 1) := by decide +kernel
theorem dX12_put_12 : decode cX12_put 12 = .ok (.getfield 195, 3) := by decide +kernel
theorem dX12_put_15 : decode cX12_put 15 = .ok (.iload_n 1, 1) := by decide +kernel
theorem dX12_put_16 : decode cX12_put 16 = .ok (.iload_n 2, 1) := by decide +kernel
theorem dX12_put_17 : decode cX12_put 17 = .ok (.ishr, 1) := by decide +kernel
theorem dX12_put_18 : decode cX12_put 18 = .ok (.i2b, 1) := by decide +kernel
theorem dX12_put_19 : decode cX12_put 19 = .ok (.bastore, 1) := by decide +kernel
theorem dX12_put_20 : decode cX12_put 20 = .ok (.aload_n 0, 1) := by decide +kernel
theorem dX12_put_21 : decode cX12_put 21 = .ok (.dup, 1) := by decide +kernel
theorem dX12_put_22 : decode cX12_put 22 = .ok (.getfield 195, 3) := by decide +kernel
theorem dX12_put_25 : decode cX12_put 25 = .ok (.iconst 1, 1) := by decide +kernel
theorem dX12_put_26 : decode cX12_put 26 = .ok (.iadd, 1) := by decide +kernel
theorem dX12_put_27 : decode cX12_put 27 = .ok (.putfield 195, 3) := by decide +kernel
theorem dX12_put_30 : decode cX12_put 30 = .ok (.iinc 2 (-8), 3) := by decide +kernel
theorem dX12_put_33 : decode cX12_put 33 = .ok (.goto (-30), 3) := by decide +kernel
theorem dX12_put_36 : decode cX12_put 36 = .ok (.return_, 1) := by decide +kernel
theorem dX12_back_0 : decode cX12_back 0 = .ok (.iload_n 1, 1) := by decide +kernel
theorem dX12_back_1 : decode cX12_back 1 = .ok (.ifCond .lt 11, 3) := by decide +kernel
theorem dX12_back_4 : decode cX12_back 4 = .ok (.iload_n 1, 1) := by decide +kernel
theorem dX12_back_5 : decode cX12_back 5 = .ok (.aload_n 0, 1) := by decide +kernel
theorem dX12_back_6 : decode cX12_back 6 = .ok (.getfield 195, 3) := by decide +kernel
theorem dX12_back_9 : decode cX12_back 9 = .ok (.if_icmp .le 5, 3) := by decide +kernel
theorem dX12_back_12 : decode cX12_back 12 = .ok (.iconst (-1), 1) := by decide +kernel
theorem dX12_back_13 : decode cX12_back 13 = .ok (.ireturn, 1) := by decide +kernel
theorem dX12_back_14 : decode cX12_back 14 = .ok (.aload_n 0, 1) := by decide +kernel
theorem dX12_back_15 : decode cX12_back 15 = .ok (.dup, 1) := by decide +kernel
theorem dX12_back_16 : decode cX12_back 16 = .ok (.getfield 195, 3) := by decide +kernel
theorem dX12_back_19 : decode cX12_back 19 = .ok (.iload_n 1, 1) := by decide +kernel
theorem dX12_back_20 : decode cX12_back 20 = .ok (.isub, 1) := by decide +kernel
theorem dX12_back_21 : decode cX12_back 21 = .ok (.putfield 195, 3) := by decide +kernel
theorem dX12_back_24 : decode cX12_back 24 = .ok (.aload_n 0, 1) := by decide +kernel
theorem dX12_back_25 : decode cX12_back 25 = .ok (.getfield 195, 3) := by decide +kernel
theorem dX12_back_28 : decode cX12_back 28 = .ok (.ireturn, 1) := by decide +kernel
theorem dX12_at_0 : decode cX12_at 0 = .ok (.iload_n 1, 1) := by decide +kernel
theorem dX12_at_1 : decode cX12_at 1 = .ok (.aload_n 0, 1) := by decide +kernel
theorem dX12_at_2 : decode cX12_at 2 = .ok (.getfield 202, 3) := by decide +kernel
theorem dX12_at_5 : decode cX12_at 5 = .ok (.if_icmp .ge 16, 3) := by decide +kernel
theorem dX12_at_8 : decode cX12_at 8 = .ok (.aload_n 0, 1) := by decide +kernel
theorem dX12_at_9 : decode cX12_at 9 = .ok (.getfield 17, 3) := by decide +kernel
theorem dX12_at_12 : decode cX12_at 12 = .ok (.iload_n 1, 1) := by decide +kernel
theorem dX12_at_13 : decode cX12_at 13 = .ok (.baload, 1) := by decide +kernel
theorem dX12_at_14 : decode cX12_at 14 = .ok (.sipush 255, 3) := by decide +kernel
theorem dX12_at_17 : decode cX12_at 17 = .ok (.iand, 1) := by decide +kernel
theorem dX12_at_18 : decode cX12_at 18 = .ok (.goto 4, 3) := by decide +kernel
theorem dX12_at_21 : decode cX12_at 21 = .ok (.iconst 0, 1) := by decide +kernel
theorem dX12_at_22 : decode cX12_at 22 = .ok (.ireturn, 1) := by decide +kernel
theorem dX12_isDigit_0 : decode cX12_isDigit 0 = .ok (.iload_n 0, 1) := by decide +kernel
theorem dX12_isDigit_1 : decode cX12_isDigit 1 = .ok (.bipush 48, 2) := by decide +kernel
theorem dX12_isDigit_3 : decode cX12_isDigit 3 = .ok (.if_icmp .lt 13, 3) := by decide +kernel
theorem dX12_isDigit_6 : decode cX12_isDigit 6 = .ok (.iload_n 0, 1) := by decide +kernel
theorem dX12_isDigit_7 : decode cX12_isDigit 7 = .ok (.bipush 57, 2) := by decide +kernel
theorem dX12_isDigit_9 : decode cX12_isDigit 9 = .ok (.if_icmp .gt 7, 3) := by decide +kernel
theorem dX12_isDigit_12 : decode cX12_isDigit 12 = .ok (.iconst 1, 1) := by decide +kernel
theorem dX12_isDigit_13 : decode cX12_isDigit 13 = .ok (.goto 4, 3) := by decide +kernel
theorem dX12_isDigit_16 : decode cX12_isDigit 16 = .ok (.iconst 0, 1) := by decide +kernel
theorem dX12_isDigit_17 : decode cX12_isDigit 17 = .ok (.ireturn, 1) := by decide +kernel
theorem dX12_isLetter_0 : decode cX12_isLetter 0 = .ok (.iload_n 0, 1) := by decide +kernel
theorem dX12_isLetter_1 : decode cX12_isLetter 1 = .ok (.bipush 97, 2) := by decide +kernel
theorem dX12_isLetter_3 : decode cX12_isLetter 3 = .ok (.if_icmp .lt 13, 3) := by decide +kernel
theorem dX12_isLetter_6 : decode cX12_isLetter 6 = .ok (.iload_n 0, 1) := by decide +kernel
theorem dX12_isLetter_7 : decode cX12_isLetter 7 = .ok (.bipush 122, 2) := by decide +kernel
theorem dX12_isLetter_9 : decode cX12_isLetter 9 = .ok (.if_icmp .gt 7, 3) := by decide +kernel
theorem dX12_isLetter_12 : decode cX12_isLetter 12 = .ok (.iconst 1, 1) := by decide +kernel
theorem dX12_isLetter_13 : decode cX12_isLetter 13 = .ok (.goto 4, 3) := by decide +kernel
theorem dX12_isLetter_16 : decode cX12_isLetter 16 = .ok (.iconst 0, 1) := by decide +kernel
theorem dX12_isLetter_17 : decode cX12_isLetter 17 = .ok (.ireturn, 1) := by decide +kernel
theorem dX12_more_0 : decode cX12_more 0 = .ok (.iload_n 2, 1) := by decide +kernel
theorem dX12_more_1 : decode cX12_more 1 = .ok (.ifCond .ne 7, 3) := by decide +kernel
theorem dX12_more_4 : decode cX12_more 4 = .ok (.lload_n 0, 1) := by decide +kernel
theorem dX12_more_5 : decode cX12_more 5 = .ok (.goto 16, 3) := by decide +kernel
theorem dX12_more_8 : decode cX12_more 8 = .ok (.ldc2_w 205, 3) := by decide +kernel
theorem dX12_more_11 : decode cX12_more 11 = .ok (.lload_n 0, 1) := by decide +kernel
theorem dX12_more_12 : decode cX12_more 12 = .ok (.lmul, 1) := by decide +kernel
theorem dX12_more_13 : decode cX12_more 13 = .ok (.iload_n 2, 1) := by decide +kernel
theorem dX12_more_14 : decode cX12_more 14 = .ok (.bipush 97, 2) := by decide +kernel
theorem dX12_more_16 : decode cX12_more 16 = .ok (.isub, 1) := by decide +kernel
theorem dX12_more_17 : decode cX12_more 17 = .ok (.iconst 1, 1) := by decide +kernel
theorem dX12_more_18 : decode cX12_more 18 = .ok (.iadd, 1) := by decide +kernel
theorem dX12_more_19 : decode cX12_more 19 = .ok (.i2l, 1) := by decide +kernel
theorem dX12_more_20 : decode cX12_more 20 = .ok (.ladd, 1) := by decide +kernel
theorem dX12_more_21 : decode cX12_more 21 = .ok (.lreturn, 1) := by decide +kernel
theorem dX12_word_0 : decode cX12_word 0 = .ok (.lconst 0, 1) := by decide +kernel
theorem dX12_word_1 : decode cX12_word 1 = .ok (.iload_n 0, 1) := by decide +kernel
theorem dX12_word_2 : decode cX12_word 2 = .ok (.invokestatic 207, 3) := by decide +kernel
theorem dX12_word_5 : decode cX12_word 5 = .ok (.iload_n 1, 1) := by decide +kernel
theorem dX12_word_6 : decode cX12_word 6 = .ok (.invokestatic 207, 3) := by decide +kernel
theorem dX12_word_9 : decode cX12_word 9 = .ok (.iload_n 2, 1) := by decide +kernel
theorem dX12_word_10 : decode cX12_word 10 = .ok (.invokestatic 207, 3) := by decide +kernel
theorem dX12_word_13 : decode cX12_word 13 = .ok (.iload_n 3, 1) := by decide +kernel
theorem dX12_word_14 : decode cX12_word 14 = .ok (.invokestatic 207, 3) := by decide +kernel
theorem dX12_word_17 : decode cX12_word 17 = .ok (.iload 4, 2) := by decide +kernel
theorem dX12_word_19 : decode cX12_word 19 = .ok (.invokestatic 207, 3) := by decide +kernel
theorem dX12_word_22 : decode cX12_word 22 = .ok (.iload 5, 2) := by decide +kernel
theorem dX12_word_24 : decode cX12_word 24 = .ok (.invokestatic 207, 3) := by decide +kernel
theorem dX12_word_27 : decode cX12_word 27 = .ok (.iload 6, 2) := by decide +kernel
theorem dX12_word_29 : decode cX12_word 29 = .ok (.invokestatic 207, 3) := by decide +kernel
theorem dX12_word_32 : decode cX12_word 32 = .ok (.lreturn, 1) := by decide +kernel
theorem dX12_token_0 : decode cX12_token 0 = .ok (.aload_n 0, 1) := by decide +kernel
theorem dX12_token_1 : decode cX12_token 1 = .ok (.getfield 20, 3) := by decide +kernel
theorem dX12_token_4 : decode cX12_token 4 = .ok (.aload_n 0, 1) := by decide +kernel
theorem dX12_token_5 : decode cX12_token 5 = .ok (.getfield 211, 3) := by decide +kernel
theorem dX12_token_8 : decode cX12_token 8 = .ok (.iload_n 1, 1) := by decide +kernel
theorem dX12_token_9 : decode cX12_token 9 = .ok (.iastore, 1) := by decide +kernel
theorem dX12_token_10 : decode cX12_token 10 = .ok (.aload_n 0, 1) := by decide +kernel
theorem dX12_token_11 : decode cX12_token 11 = .ok (.getfield 24, 3) := by decide +kernel
theorem dX12_token_14 : decode cX12_token 14 = .ok (.aload_n 0, 1) := by decide +kernel
theorem dX12_token_15 : decode cX12_token 15 = .ok (.getfield 211, 3) := by decide +kernel
theorem dX12_token_18 : decode cX12_token 18 = .ok (.iload_n 2, 1) := by decide +kernel
theorem dX12_token_19 : decode cX12_token 19 = .ok (.iastore, 1) := by decide +kernel
theorem dX12_token_20 : decode cX12_token 20 = .ok (.aload_n 0, 1) := by decide +kernel
theorem dX12_token_21 : decode cX12_token 21 = .ok (.getfield 27, 3) := by decide +kernel
theorem dX12_token_24 : decode cX12_token 24 = .ok (.aload_n 0, 1) := by decide +kernel
theorem dX12_token_25 : decode cX12_token 25 = .ok (.getfield 211, 3) := by decide +kernel
theorem dX12_token_28 : decode cX12_token 28 = .ok (.iload_n 3, 1) := by decide +kernel
theorem dX12_token_29 : decode cX12_token 29 = .ok (.iastore, 1) := by decide +kernel
theorem dX12_token_30 : decode cX12_token 30 = .ok (.aload_n 0, 1) := by decide +kernel
theorem dX12_token_31 : decode cX12_token 31 = .ok (.getfield 30, 3) := by decide +kernel
theorem dX12_token_34 : decode cX12_token 34 = .ok (.aload_n 0, 1) := by decide +kernel
theorem dX12_token_35 : decode cX12_token 35 = .ok (.getfield 211, 3) := by decide +kernel
theorem dX12_token_38 : decode cX12_token 38 = .ok (.lload 4, 2) := by decide +kernel
theorem dX12_token_40 : decode cX12_token 40 = .ok (.lastore, 1) := by decide +kernel
theorem dX12_token_41 : decode cX12_token 41 = .ok (.aload_n 0, 1) := by decide +kernel
theorem dX12_token_42 : decode cX12_token 42 = .ok (.dup, 1) := by decide +kernel
theorem dX12_token_43 : decode cX12_token 43 = .ok (.getfield 211, 3) := by decide +kernel
theorem dX12_token_46 : decode cX12_token 46 = .ok (.iconst 1, 1) := by decide +kernel
theorem dX12_token_47 : decode cX12_token 47 = .ok (.iadd, 1) := by decide +kernel
theorem dX12_token_48 : decode cX12_token 48 = .ok (.putfield 211, 3) := by decide +kernel
theorem dX12_token_51 : decode cX12_token 51 = .ok (.return_, 1) := by decide +kernel
theorem dX12_cut_0 : decode cX12_cut 0 = .ok (.aload_n 0, 1) := by decide +kernel
theorem dX12_cut_1 : decode cX12_cut 1 = .ok (.iconst 0, 1) := by decide +kernel
theorem dX12_cut_2 : decode cX12_cut 2 = .ok (.putfield 211, 3) := by decide +kernel
theorem dX12_cut_5 : decode cX12_cut 5 = .ok (.iconst 0, 1) := by decide +kernel
theorem dX12_cut_6 : decode cX12_cut 6 = .ok (.istore_n 1, 1) := by decide +kernel
theorem dX12_cut_7 : decode cX12_cut 7 = .ok (.aload_n 0, 1) := by decide +kernel
theorem dX12_cut_8 : decode cX12_cut 8 = .ok (.getfield 211, 3) := by decide +kernel
theorem dX12_cut_11 : decode cX12_cut 11 = .ok (.sipush 400, 3) := by decide +kernel
theorem dX12_cut_14 : decode cX12_cut 14 = .ok (.if_icmp .gt 280, 3) := by decide +kernel
theorem dX12_cut_17 : decode cX12_cut 17 = .ok (.aload_n 0, 1) := by decide +kernel
theorem dX12_cut_18 : decode cX12_cut 18 = .ok (.iload_n 1, 1) := by decide +kernel
theorem dX12_cut_19 : decode cX12_cut 19 = .ok (.invokevirtual 214, 3) := by decide +kernel
theorem dX12_cut_22 : decode cX12_cut 22 = .ok (.istore_n 2, 1) := by decide +kernel
theorem dX12_cut_23 : decode cX12_cut 23 = .ok (.iload_n 1, 1) := by decide +kernel
theorem dX12_cut_24 : decode cX12_cut 24 = .ok (.aload_n 0, 1) := by decide +kernel
theorem dX12_cut_25 : decode cX12_cut 25 = .ok (.getfield 202, 3) := by decide +kernel
theorem dX12_cut_28 : decode cX12_cut 28 = .ok (.if_icmp .lt 15, 3) := by decide +kernel
theorem dX12_cut_31 : decode cX12_cut 31 = .ok (.aload_n 0, 1) := by decide +kernel
theorem dX12_cut_32 : decode cX12_cut 32 = .ok (.iconst 0, 1) := by decide +kernel
theorem dX12_cut_33 : decode cX12_cut 33 = .ok (.aload_n 0, 1) := by decide +kernel
theorem dX12_cut_34 : decode cX12_cut 34 = .ok (.getfield 202, 3) := by decide +kernel
theorem dX12_cut_37 : decode cX12_cut 37 = .ok (.iconst 0, 1) := by decide +kernel
theorem dX12_cut_38 : decode cX12_cut 38 = .ok (.lconst 0, 1) := by decide +kernel
theorem dX12_cut_39 : decode cX12_cut 39 = .ok (.invokevirtual 218, 3) := by decide +kernel
theorem dX12_cut_42 : decode cX12_cut 42 = .ok (.return_, 1) := by decide +kernel
theorem dX12_cut_43 : decode cX12_cut 43 = .ok (.iload_n 2, 1) := by decide +kernel
theorem dX12_cut_44 : decode cX12_cut 44 = .ok (.bipush 9, 2) := by decide +kernel
theorem dX12_cut_46 : decode cX12_cut 46 = .ok (.if_icmp .eq 21, 3) := by decide +kernel
theorem dX12_cut_49 : decode cX12_cut 49 = .ok (.iload_n 2, 1) := by decide +kernel
theorem dX12_cut_50 : decode cX12_cut 50 = .ok (.bipush 10, 2) := by decide +kernel
theorem dX12_cut_52 : decode cX12_cut 52 = .ok (.if_icmp .eq 15, 3) := by decide +kernel
theorem dX12_cut_55 : decode cX12_cut 55 = .ok (.iload_n 2, 1) := by decide +kernel
theorem dX12_cut_56 : decode cX12_cut 56 = .ok (.bipush 13, 2) := by decide +kernel
theorem dX12_cut_58 : decode cX12_cut 58 = .ok (.if_icmp .eq 9, 3) := by decide +kernel
theorem dX12_cut_61 : decode cX12_cut 61 = .ok (.iload_n 2, 1) := by decide +kernel
theorem dX12_cut_62 : decode cX12_cut 62 = .ok (.bipush 32, 2) := by decide +kernel
theorem dX12_cut_64 : decode cX12_cut 64 = .ok (.if_icmp .ne 9, 3) := by decide +kernel
theorem dX12_cut_67 : decode cX12_cut 67 = .ok (.iinc 1 1, 3) := by decide +kernel
theorem dX12_cut_70 : decode cX12_cut 70 = .ok (.goto 221, 3) := by decide +kernel
theorem dX12_cut_73 : decode cX12_cut 73 = .ok (.iload_n 2, 1) := by decide +kernel
theorem dX12_cut_74 : decode cX12_cut 74 = .ok (.invokestatic 222, 3) := by decide +kernel
theorem dX12_cut_77 : decode cX12_cut 77 = .ok (.ifCond .eq 119, 3) := by decide +kernel
theorem dX12_cut_80 : decode cX12_cut 80 = .ok (.iconst 0, 1) := by decide +kernel
theorem dX12_cut_81 : decode cX12_cut 81 = .ok (.istore_n 3, 1) := by decide +kernel
theorem dX12_cut_82 : decode cX12_cut 82 = .ok (.lconst 0, 1) := by decide +kernel
theorem dX12_cut_83 : decode cX12_cut 83 = .ok (.lstore 4, 2) := by decide +kernel
theorem dX12_cut_85 : decode cX12_cut 85 = .ok (.aload_n 0, 1) := by decide +kernel
theorem dX12_cut_86 : decode cX12_cut 86 = .ok (.iload_n 1, 1) := by decide +kernel
theorem dX12_cut_87 : decode cX12_cut 87 = .ok (.iload_n 3, 1) := by decide +kernel
theorem dX12_cut_88 : decode cX12_cut 88 = .ok (.iadd, 1) := by decide +kernel
theorem dX12_cut_89 : decode cX12_cut 89 = .ok (.invokevirtual 214, 3) := by decide +kernel
theorem dX12_cut_92 : decode cX12_cut 92 = .ok (.invokestatic 222, 3) := by decide +kernel
theorem dX12_cut_95 : decode cX12_cut 95 = .ok (.ifCond .eq 29, 3) := by decide +kernel
theorem dX12_cut_98 : decode cX12_cut 98 = .ok (.iload_n 3, 1) := by decide +kernel
theorem dX12_cut_99 : decode cX12_cut 99 = .ok (.bipush 8, 2) := by decide +kernel
theorem dX12_cut_101 : decode cX12_cut 101 = .ok (.if_icmp .ge 17, 3) := by decide +kernel
theorem dX12_cut_104 : decode cX12_cut 104 = .ok (.lload 4, 2) := by decide +kernel
theorem dX12_cut_106 : decode cX12_cut 106 = .ok (.aload_n 0, 1) := by decide +kernel
theorem dX12_cut_107 : decode cX12_cut 107 = .ok (.iload_n 1, 1) := by decide +kernel
theorem dX12_cut_108 : decode cX12_cut 108 = .ok (.iload_n 3, 1) := by decide +kernel
theorem dX12_cut_109 : decode cX12_cut 109 = .ok (.iadd, 1) := by decide +kernel
theorem dX12_cut_110 : decode cX12_cut 110 = .ok (.invokevirtual 214, 3) := by decide +kernel
theorem dX12_cut_113 : decode cX12_cut 113 = .ok (.invokestatic 207, 3) := by decide +kernel
theorem dX12_cut_116 : decode cX12_cut 116 = .ok (.lstore 4, 2) := by decide +kernel
theorem dX12_cut_118 : decode cX12_cut 118 = .ok (.iinc 3 1, 3) := by decide +kernel
theorem dX12_cut_121 : decode cX12_cut 121 = .ok (.goto (-36), 3) := by decide +kernel
theorem dX12_cut_124 : decode cX12_cut 124 = .ok (.iload_n 3, 1) := by decide +kernel
theorem dX12_cut_125 : decode cX12_cut 125 = .ok (.bipush 8, 2) := by decide +kernel
theorem dX12_cut_127 : decode cX12_cut 127 = .ok (.if_icmp .le 7, 3) := by decide +kernel
theorem dX12_cut_130 : decode cX12_cut 130 = .ok (.iconst 3, 1) := by decide +kernel
theorem dX12_cut_131 : decode cX12_cut 131 = .ok (.goto 4, 3) := by decide +kernel
theorem dX12_cut_134 : decode cX12_cut 134 = .ok (.iconst 1, 1) := by decide +kernel
theorem dX12_cut_135 : decode cX12_cut 135 = .ok (.istore 6, 2) := by decide +kernel
theorem dX12_cut_137 : decode cX12_cut 137 = .ok (.iload_n 3, 1) := by decide +kernel
theorem dX12_cut_138 : decode cX12_cut 138 = .ok (.bipush 7, 2) := by decide +kernel
theorem dX12_cut_140 : decode cX12_cut 140 = .ok (.if_icmp .gt 39, 3) := by decide +kernel
theorem dX12_cut_143 : decode cX12_cut 143 = .ok (.iconst 0, 1) := by decide +kernel
theorem dX12_cut_144 : decode cX12_cut 144 = .ok (.istore 7, 2) := by decide +kernel
theorem dX12_cut_146 : decode cX12_cut 146 = .ok (.iload 7, 2) := by decide +kernel
theorem dX12_cut_148 : decode cX12_cut 148 = .ok (.bipush 14, 2) := by decide +kernel
theorem dX12_cut_150 : decode cX12_cut 150 = .ok (.if_icmp .ge 29, 3) := by decide +kernel
theorem dX12_cut_153 : decode cX12_cut 153 = .ok (.aload_n 0, 1) := by decide +kernel
theorem dX12_cut_154 : decode cX12_cut 154 = .ok (.getfield 34, 3) := by decide +kernel
theorem dX12_cut_157 : decode cX12_cut 157 = .ok (.iload 7, 2) := by decide +kernel
theorem dX12_cut_159 : decode cX12_cut 159 = .ok (.laload, 1) := by decide +kernel
theorem dX12_cut_160 : decode cX12_cut 160 = .ok (.lload 4, 2) := by decide +kernel
theorem dX12_cut_162 : decode cX12_cut 162 = .ok (.lcmp, 1) := by decide +kernel
theorem dX12_cut_163 : decode cX12_cut 163 = .ok (.ifCond .ne 10, 3) := by decide +kernel
theorem dX12_cut_166 : decode cX12_cut 166 = .ok (.bipush 20, 2) := by decide +kernel
theorem dX12_cut_168 : decode cX12_cut 168 = .ok (.iload 7, 2) := by decide +kernel
theorem dX12_cut_170 : decode cX12_cut 170 = .ok (.iadd, 1) := by decide +kernel
theorem dX12_cut_171 : decode cX12_cut 171 = .ok (.istore 6, 2) := by decide +kernel
theorem dX12_cut_173 : decode cX12_cut 173 = .ok (.iinc 7 1, 3) := by decide +kernel
theorem dX12_cut_176 : decode cX12_cut 176 = .ok (.goto (-30), 3) := by decide +kernel
theorem dX12_cut_179 : decode cX12_cut 179 = .ok (.aload_n 0, 1) := by decide +kernel
theorem dX12_cut_180 : decode cX12_cut 180 = .ok (.iload 6, 2) := by decide +kernel
theorem dX12_cut_182 : decode cX12_cut 182 = .ok (.iload_n 1, 1) := by decide +kernel
theorem dX12_cut_183 : decode cX12_cut 183 = .ok (.iconst 0, 1) := by decide +kernel
theorem dX12_cut_184 : decode cX12_cut 184 = .ok (.lload 4, 2) := by decide +kernel
theorem dX12_cut_186 : decode cX12_cut 186 = .ok (.invokevirtual 218, 3) := by decide +kernel
theorem dX12_cut_189 : decode cX12_cut 189 = .ok (.iload_n 1, 1) := by decide +kernel
theorem dX12_cut_190 : decode cX12_cut 190 = .ok (.iload_n 3, 1) := by decide +kernel
theorem dX12_cut_191 : decode cX12_cut 191 = .ok (.iadd, 1) := by decide +kernel
theorem dX12_cut_192 : decode cX12_cut 192 = .ok (.istore_n 1, 1) := by decide +kernel
theorem dX12_cut_193 : decode cX12_cut 193 = .ok (.goto 98, 3) := by decide +kernel
theorem dX12_cut_196 : decode cX12_cut 196 = .ok (.iload_n 2, 1) := by decide +kernel
theorem dX12_cut_197 : decode cX12_cut 197 = .ok (.invokestatic 226, 3) := by decide +kernel
theorem dX12_cut_200 : decode cX12_cut 200 = .ok (.ifCond .eq 75, 3) := by decide +kernel
theorem dX12_cut_203 : decode cX12_cut 203 = .ok (.iconst 0, 1) := by decide +kernel
theorem dX12_cut_204 : decode cX12_cut 204 = .ok (.istore_n 3, 1) := by decide +kernel
theorem dX12_cut_205 : decode cX12_cut 205 = .ok (.iconst 0, 1) := by decide +kernel
theorem dX12_cut_206 : decode cX12_cut 206 = .ok (.istore 4, 2) := by decide +kernel
theorem dX12_cut_208 : decode cX12_cut 208 = .ok (.aload_n 0, 1) := by decide +kernel
theorem dX12_cut_209 : decode cX12_cut 209 = .ok (.iload_n 1, 1) := by decide +kernel
theorem dX12_cut_210 : decode cX12_cut 210 = .ok (.iload_n 3, 1) := by decide +kernel
theorem dX12_cut_211 : decode cX12_cut 211 = .ok (.iadd, 1) := by decide +kernel
theorem dX12_cut_212 : decode cX12_cut 212 = .ok (.invokevirtual 214, 3) := by decide +kernel
theorem dX12_cut_215 : decode cX12_cut 215 = .ok (.invokestatic 226, 3) := by decide +kernel
theorem dX12_cut_218 : decode cX12_cut 218 = .ok (.ifCond .eq 32, 3) := by decide +kernel
theorem dX12_cut_221 : decode cX12_cut 221 = .ok (.iload_n 3, 1) := by decide +kernel
theorem dX12_cut_222 : decode cX12_cut 222 = .ok (.iconst 4, 1) := by decide +kernel
theorem dX12_cut_223 : decode cX12_cut 223 = .ok (.if_icmp .ge 21, 3) := by decide +kernel
theorem dX12_cut_226 : decode cX12_cut 226 = .ok (.bipush 10, 2) := by decide +kernel
theorem dX12_cut_228 : decode cX12_cut 228 = .ok (.iload 4, 2) := by decide +kernel
theorem dX12_cut_230 : decode cX12_cut 230 = .ok (.imul, 1) := by decide +kernel
theorem dX12_cut_231 : decode cX12_cut 231 = .ok (.aload_n 0, 1) := by decide +kernel
theorem dX12_cut_232 : decode cX12_cut 232 = .ok (.iload_n 1, 1) := by decide +kernel
theorem dX12_cut_233 : decode cX12_cut 233 = .ok (.iload_n 3, 1) := by decide +kernel
theorem dX12_cut_234 : decode cX12_cut 234 = .ok (.iadd, 1) := by decide +kernel
theorem dX12_cut_235 : decode cX12_cut 235 = .ok (.invokevirtual 214, 3) := by decide +kernel
theorem dX12_cut_238 : decode cX12_cut 238 = .ok (.iadd, 1) := by decide +kernel
theorem dX12_cut_239 : decode cX12_cut 239 = .ok (.bipush 48, 2) := by decide +kernel
theorem dX12_cut_241 : decode cX12_cut 241 = .ok (.isub, 1) := by decide +kernel
theorem dX12_cut_242 : decode cX12_cut 242 = .ok (.istore 4, 2) := by decide +kernel
theorem dX12_cut_244 : decode cX12_cut 244 = .ok (.iinc 3 1, 3) := by decide +kernel
theorem dX12_cut_247 : decode cX12_cut 247 = .ok (.goto (-39), 3) := by decide +kernel
theorem dX12_cut_250 : decode cX12_cut 250 = .ok (.aload_n 0, 1) := by decide +kernel
theorem dX12_cut_251 : decode cX12_cut 251 = .ok (.iload_n 3, 1) := by decide +kernel
theorem dX12_cut_252 : decode cX12_cut 252 = .ok (.iconst 4, 1) := by decide +kernel
theorem dX12_cut_253 : decode cX12_cut 253 = .ok (.if_icmp .le 7, 3) := by decide +kernel
theorem dX12_cut_256 : decode cX12_cut 256 = .ok (.iconst 3, 1) := by decide +kernel
theorem dX12_cut_257 : decode cX12_cut 257 = .ok (.goto 4, 3) := by decide +kernel
theorem dX12_cut_260 : decode cX12_cut 260 = .ok (.iconst 2, 1) := by decide +kernel
theorem dX12_cut_261 : decode cX12_cut 261 = .ok (.iload_n 1, 1) := by decide +kernel
theorem dX12_cut_262 : decode cX12_cut 262 = .ok (.iload 4, 2) := by decide +kernel
theorem dX12_cut_264 : decode cX12_cut 264 = .ok (.lconst 0, 1) := by decide +kernel
