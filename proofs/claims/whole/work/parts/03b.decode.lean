theorem dX4_hasUnderWay_24 : decode cX4_hasUnderWay 24 = .ok (.getfield 80, 3) := by decide +kernel
theorem dX4_hasUnderWay_27 : decode cX4_hasUnderWay 27 = .ok (.ifCond .eq 23, 3) := by decide +kernel
theorem dX4_hasUnderWay_30 : decode cX4_hasUnderWay 30 = .ok (.aload 4, 2) := by decide +kernel
theorem dX4_hasUnderWay_32 : decode cX4_hasUnderWay 32 = .ok (.getfield 63, 3) := by decide +kernel
theorem dX4_hasUnderWay_35 : decode cX4_hasUnderWay 35 = .ok (.iload_n 2, 1) := by decide +kernel
theorem dX4_hasUnderWay_36 : decode cX4_hasUnderWay 36 = .ok (.if_icmp .ge 14, 3) := by decide +kernel
theorem dX4_hasUnderWay_39 : decode cX4_hasUnderWay 39 = .ok (.aload 4, 2) := by decide +kernel
theorem dX4_hasUnderWay_41 : decode cX4_hasUnderWay 41 = .ok (.aload_n 1, 1) := by decide +kernel
theorem dX4_hasUnderWay_42 : decode cX4_hasUnderWay 42 = .ok (.invokevirtual 83, 3) := by decide +kernel
theorem dX4_hasUnderWay_45 : decode cX4_hasUnderWay 45 = .ok (.ifCond .eq 5, 3) := by decide +kernel
theorem dX4_hasUnderWay_48 : decode cX4_hasUnderWay 48 = .ok (.iconst 1, 1) := by decide +kernel
theorem dX4_hasUnderWay_49 : decode cX4_hasUnderWay 49 = .ok (.ireturn, 1) := by decide +kernel
theorem dX4_hasUnderWay_50 : decode cX4_hasUnderWay 50 = .ok (.iinc 3 1, 3) := by decide +kernel
theorem dX4_hasUnderWay_53 : decode cX4_hasUnderWay 53 = .ok (.goto (-51), 3) := by decide +kernel
theorem dX4_hasUnderWay_56 : decode cX4_hasUnderWay 56 = .ok (.iconst 0, 1) := by decide +kernel
theorem dX4_hasUnderWay_57 : decode cX4_hasUnderWay 57 = .ok (.ireturn, 1) := by decide +kernel
theorem dX4_markEarlier_0 : decode cX4_markEarlier 0 = .ok (.aload_n 1, 1) := by decide +kernel
theorem dX4_markEarlier_1 : decode cX4_markEarlier 1 = .ok (.iconst 0, 1) := by decide +kernel
theorem dX4_markEarlier_2 : decode cX4_markEarlier 2 = .ok (.putfield 87, 3) := by decide +kernel
theorem dX4_markEarlier_5 : decode cX4_markEarlier 5 = .ok (.aload_n 1, 1) := by decide +kernel
theorem dX4_markEarlier_6 : decode cX4_markEarlier 6 = .ok (.iconst 0, 1) := by decide +kernel
theorem dX4_markEarlier_7 : decode cX4_markEarlier 7 = .ok (.putfield 90, 3) := by decide +kernel
theorem dX4_markEarlier_10 : decode cX4_markEarlier 10 = .ok (.iconst 0, 1) := by decide +kernel
theorem dX4_markEarlier_11 : decode cX4_markEarlier 11 = .ok (.istore_n 3, 1) := by decide +kernel
theorem dX4_markEarlier_12 : decode cX4_markEarlier 12 = .ok (.iload_n 3, 1) := by decide +kernel
theorem dX4_markEarlier_13 : decode cX4_markEarlier 13 = .ok (.iload_n 2, 1) := by decide +kernel
theorem dX4_markEarlier_14 : decode cX4_markEarlier 14 = .ok (.if_icmp .ge 71, 3) := by decide +kernel
theorem dX4_markEarlier_17 : decode cX4_markEarlier 17 = .ok (.aload_n 0, 1) := by decide +kernel
theorem dX4_markEarlier_18 : decode cX4_markEarlier 18 = .ok (.iload_n 3, 1) := by decide +kernel
theorem dX4_markEarlier_19 : decode cX4_markEarlier 19 = .ok (.invokevirtual 52, 3) := by decide +kernel
theorem dX4_markEarlier_22 : decode cX4_markEarlier 22 = .ok (.astore 4, 2) := by decide +kernel
theorem dX4_markEarlier_24 : decode cX4_markEarlier 24 = .ok (.aload 4, 2) := by decide +kernel
theorem dX4_markEarlier_26 : decode cX4_markEarlier 26 = .ok (.ifnull 27, 3) := by decide +kernel
theorem dX4_markEarlier_29 : decode cX4_markEarlier 29 = .ok (.aload 4, 2) := by decide +kernel
theorem dX4_markEarlier_31 : decode cX4_markEarlier 31 = .ok (.aload_n 1, 1) := by decide +kernel
theorem dX4_markEarlier_32 : decode cX4_markEarlier 32 = .ok (.getfield 63, 3) := by decide +kernel
theorem dX4_markEarlier_35 : decode cX4_markEarlier 35 = .ok (.invokevirtual 93, 3) := by decide +kernel
theorem dX4_markEarlier_38 : decode cX4_markEarlier 38 = .ok (.ifCond .eq 15, 3) := by decide +kernel
theorem dX4_markEarlier_41 : decode cX4_markEarlier 41 = .ok (.aload_n 1, 1) := by decide +kernel
theorem dX4_markEarlier_42 : decode cX4_markEarlier 42 = .ok (.dup, 1) := by decide +kernel
theorem dX4_markEarlier_43 : decode cX4_markEarlier 43 = .ok (.getfield 87, 3) := by decide +kernel
theorem dX4_markEarlier_46 : decode cX4_markEarlier 46 = .ok (.iconst 1, 1) := by decide +kernel
theorem dX4_markEarlier_47 : decode cX4_markEarlier 47 = .ok (.iload_n 3, 1) := by decide +kernel
theorem dX4_markEarlier_48 : decode cX4_markEarlier 48 = .ok (.ishl, 1) := by decide +kernel
theorem dX4_markEarlier_49 : decode cX4_markEarlier 49 = .ok (.ior, 1) := by decide +kernel
theorem dX4_markEarlier_50 : decode cX4_markEarlier 50 = .ok (.putfield 87, 3) := by decide +kernel
theorem dX4_markEarlier_53 : decode cX4_markEarlier 53 = .ok (.aload 4, 2) := by decide +kernel
theorem dX4_markEarlier_55 : decode cX4_markEarlier 55 = .ok (.ifnull 24, 3) := by decide +kernel
theorem dX4_markEarlier_58 : decode cX4_markEarlier 58 = .ok (.aload 4, 2) := by decide +kernel
theorem dX4_markEarlier_60 : decode cX4_markEarlier 60 = .ok (.aload_n 1, 1) := by decide +kernel
theorem dX4_markEarlier_61 : decode cX4_markEarlier 61 = .ok (.invokevirtual 97, 3) := by decide +kernel
theorem dX4_markEarlier_64 : decode cX4_markEarlier 64 = .ok (.ifCond .eq 15, 3) := by decide +kernel
theorem dX4_markEarlier_67 : decode cX4_markEarlier 67 = .ok (.aload_n 1, 1) := by decide +kernel
theorem dX4_markEarlier_68 : decode cX4_markEarlier 68 = .ok (.dup, 1) := by decide +kernel
theorem dX4_markEarlier_69 : decode cX4_markEarlier 69 = .ok (.getfield 90, 3) := by decide +kernel
theorem dX4_markEarlier_72 : decode cX4_markEarlier 72 = .ok (.iconst 1, 1) := by decide +kernel
theorem dX4_markEarlier_73 : decode cX4_markEarlier 73 = .ok (.iload_n 3, 1) := by decide +kernel
theorem dX4_markEarlier_74 : decode cX4_markEarlier 74 = .ok (.ishl, 1) := by decide +kernel
theorem dX4_markEarlier_75 : decode cX4_markEarlier 75 = .ok (.ior, 1) := by decide +kernel
theorem dX4_markEarlier_76 : decode cX4_markEarlier 76 = .ok (.putfield 90, 3) := by decide +kernel
theorem dX4_markEarlier_79 : decode cX4_markEarlier 79 = .ok (.iinc 3 1, 3) := by decide +kernel
theorem dX4_markEarlier_82 : decode cX4_markEarlier 82 = .ok (.goto (-70), 3) := by decide +kernel
theorem dX4_markEarlier_85 : decode cX4_markEarlier 85 = .ok (.return_, 1) := by decide +kernel
theorem dX4_settle_0 : decode cX4_settle 0 = .ok (.aload_n 0, 1) := by decide +kernel
theorem dX4_settle_1 : decode cX4_settle 1 = .ok (.iconst 0, 1) := by decide +kernel
theorem dX4_settle_2 : decode cX4_settle 2 = .ok (.putfield 18, 3) := by decide +kernel
theorem dX4_settle_5 : decode cX4_settle 5 = .ok (.aload_n 0, 1) := by decide +kernel
theorem dX4_settle_6 : decode cX4_settle 6 = .ok (.iconst 0, 1) := by decide +kernel
theorem dX4_settle_7 : decode cX4_settle 7 = .ok (.putfield 21, 3) := by decide +kernel
theorem dX4_settle_10 : decode cX4_settle 10 = .ok (.aload_n 0, 1) := by decide +kernel
theorem dX4_settle_11 : decode cX4_settle 11 = .ok (.iconst 0, 1) := by decide +kernel
theorem dX4_settle_12 : decode cX4_settle 12 = .ok (.putfield 24, 3) := by decide +kernel
theorem dX4_settle_15 : decode cX4_settle 15 = .ok (.iconst 0, 1) := by decide +kernel
theorem dX4_settle_16 : decode cX4_settle 16 = .ok (.istore_n 2, 1) := by decide +kernel
theorem dX4_settle_17 : decode cX4_settle 17 = .ok (.iload_n 2, 1) := by decide +kernel
theorem dX4_settle_18 : decode cX4_settle 18 = .ok (.aload_n 0, 1) := by decide +kernel
theorem dX4_settle_19 : decode cX4_settle 19 = .ok (.getfield 9, 3) := by decide +kernel
theorem dX4_settle_22 : decode cX4_settle 22 = .ok (.if_icmp .ge 106, 3) := by decide +kernel
theorem dX4_settle_25 : decode cX4_settle 25 = .ok (.aload_n 0, 1) := by decide +kernel
theorem dX4_settle_26 : decode cX4_settle 26 = .ok (.iload_n 2, 1) := by decide +kernel
theorem dX4_settle_27 : decode cX4_settle 27 = .ok (.invokevirtual 52, 3) := by decide +kernel
theorem dX4_settle_30 : decode cX4_settle 30 = .ok (.astore_n 3, 1) := by decide +kernel
theorem dX4_settle_31 : decode cX4_settle 31 = .ok (.aload_n 3, 1) := by decide +kernel
theorem dX4_settle_32 : decode cX4_settle 32 = .ok (.ifnull 90, 3) := by decide +kernel
theorem dX4_settle_35 : decode cX4_settle 35 = .ok (.aload_n 3, 1) := by decide +kernel
theorem dX4_settle_36 : decode cX4_settle 36 = .ok (.iload_n 1, 1) := by decide +kernel
theorem dX4_settle_37 : decode cX4_settle 37 = .ok (.iload_n 2, 1) := by decide +kernel
theorem dX4_settle_38 : decode cX4_settle 38 = .ok (.ishr, 1) := by decide +kernel
theorem dX4_settle_39 : decode cX4_settle 39 = .ok (.iconst 1, 1) := by decide +kernel
theorem dX4_settle_40 : decode cX4_settle 40 = .ok (.iand, 1) := by decide +kernel
theorem dX4_settle_41 : decode cX4_settle 41 = .ok (.iconst 1, 1) := by decide +kernel
theorem dX4_settle_42 : decode cX4_settle 42 = .ok (.if_icmp .ne 7, 3) := by decide +kernel
theorem dX4_settle_45 : decode cX4_settle 45 = .ok (.iconst 1, 1) := by decide +kernel
theorem dX4_settle_46 : decode cX4_settle 46 = .ok (.goto 4, 3) := by decide +kernel
theorem dX4_settle_49 : decode cX4_settle 49 = .ok (.iconst 0, 1) := by decide +kernel
theorem dX4_settle_50 : decode cX4_settle 50 = .ok (.putfield 80, 3) := by decide +kernel
theorem dX4_settle_53 : decode cX4_settle 53 = .ok (.aload_n 0, 1) := by decide +kernel
theorem dX4_settle_54 : decode cX4_settle 54 = .ok (.dup, 1) := by decide +kernel
theorem dX4_settle_55 : decode cX4_settle 55 = .ok (.getfield 18, 3) := by decide +kernel
theorem dX4_settle_58 : decode cX4_settle 58 = .ok (.aload_n 3, 1) := by decide +kernel
theorem dX4_settle_59 : decode cX4_settle 59 = .ok (.getfield 80, 3) := by decide +kernel
theorem dX4_settle_62 : decode cX4_settle 62 = .ok (.ifCond .eq 7, 3) := by decide +kernel
theorem dX4_settle_65 : decode cX4_settle 65 = .ok (.iconst 1, 1) := by decide +kernel
theorem dX4_settle_66 : decode cX4_settle 66 = .ok (.goto 4, 3) := by decide +kernel
theorem dX4_settle_69 : decode cX4_settle 69 = .ok (.iconst 0, 1) := by decide +kernel
theorem dX4_settle_70 : decode cX4_settle 70 = .ok (.iadd, 1) := by decide +kernel
theorem dX4_settle_71 : decode cX4_settle 71 = .ok (.putfield 18, 3) := by decide +kernel
theorem dX4_settle_74 : decode cX4_settle 74 = .ok (.aload_n 0, 1) := by decide +kernel
theorem dX4_settle_75 : decode cX4_settle 75 = .ok (.dup, 1) := by decide +kernel
theorem dX4_settle_76 : decode cX4_settle 76 = .ok (.getfield 21, 3) := by decide +kernel
theorem dX4_settle_79 : decode cX4_settle 79 = .ok (.aload_n 3, 1) := by decide +kernel
theorem dX4_settle_80 : decode cX4_settle 80 = .ok (.getfield 80, 3) := by decide +kernel
theorem dX4_settle_83 : decode cX4_settle 83 = .ok (.ifCond .eq 10, 3) := by decide +kernel
theorem dX4_settle_86 : decode cX4_settle 86 = .ok (.aload_n 3, 1) := by decide +kernel
theorem dX4_settle_87 : decode cX4_settle 87 = .ok (.getfield 69, 3) := by decide +kernel
theorem dX4_settle_90 : decode cX4_settle 90 = .ok (.goto 4, 3) := by decide +kernel
theorem dX4_settle_93 : decode cX4_settle 93 = .ok (.iconst 0, 1) := by decide +kernel
theorem dX4_settle_94 : decode cX4_settle 94 = .ok (.iadd, 1) := by decide +kernel
theorem dX4_settle_95 : decode cX4_settle 95 = .ok (.putfield 21, 3) := by decide +kernel
theorem dX4_settle_98 : decode cX4_settle 98 = .ok (.aload_n 0, 1) := by decide +kernel
theorem dX4_settle_99 : decode cX4_settle 99 = .ok (.dup, 1) := by decide +kernel
theorem dX4_settle_100 : decode cX4_settle 100 = .ok (.getfield 24, 3) := by decide +kernel
theorem dX4_settle_103 : decode cX4_settle 103 = .ok (.aload_n 3, 1) := by decide +kernel
theorem dX4_settle_104 : decode cX4_settle 104 = .ok (.getfield 80, 3) := by decide +kernel
theorem dX4_settle_107 : decode cX4_settle 107 = .ok (.ifCond .eq 10, 3) := by decide +kernel
theorem dX4_settle_110 : decode cX4_settle 110 = .ok (.aload_n 3, 1) := by decide +kernel
theorem dX4_settle_111 : decode cX4_settle 111 = .ok (.invokevirtual 100, 3) := by decide +kernel
theorem dX4_settle_114 : decode cX4_settle 114 = .ok (.goto 4, 3) := by decide +kernel
theorem dX4_settle_117 : decode cX4_settle 117 = .ok (.iconst 0, 1) := by decide +kernel
theorem dX4_settle_118 : decode cX4_settle 118 = .ok (.iadd, 1) := by decide +kernel
theorem dX4_settle_119 : decode cX4_settle 119 = .ok (.putfield 24, 3) := by decide +kernel
theorem dX4_settle_122 : decode cX4_settle 122 = .ok (.iinc 2 1, 3) := by decide +kernel
theorem dX4_settle_125 : decode cX4_settle 125 = .ok (.goto (-108), 3) := by decide +kernel
theorem dX4_settle_128 : decode cX4_settle 128 = .ok (.return_, 1) := by decide +kernel
theorem dX4_explain_0 : decode cX4_explain 0 = .ok (.iconst 0, 1) := by decide +kernel
theorem dX4_explain_1 : decode cX4_explain 1 = .ok (.istore_n 2, 1) := by decide +kernel
theorem dX4_explain_2 : decode cX4_explain 2 = .ok (.iload_n 2, 1) := by decide +kernel
theorem dX4_explain_3 : decode cX4_explain 3 = .ok (.aload_n 0, 1) := by decide +kernel
theorem dX4_explain_4 : decode cX4_explain 4 = .ok (.getfield 9, 3) := by decide +kernel
theorem dX4_explain_7 : decode cX4_explain 7 = .ok (.if_icmp .ge 38, 3) := by decide +kernel
theorem dX4_explain_10 : decode cX4_explain 10 = .ok (.aload_n 0, 1) := by decide +kernel
theorem dX4_explain_11 : decode cX4_explain 11 = .ok (.iload_n 2, 1) := by decide +kernel
theorem dX4_explain_12 : decode cX4_explain 12 = .ok (.invokevirtual 52, 3) := by decide +kernel
theorem dX4_explain_15 : decode cX4_explain 15 = .ok (.astore_n 3, 1) := by decide +kernel
theorem dX4_explain_16 : decode cX4_explain 16 = .ok (.aload_n 3, 1) := by decide +kernel
theorem dX4_explain_17 : decode cX4_explain 17 = .ok (.ifnull 22, 3) := by decide +kernel
theorem dX4_explain_20 : decode cX4_explain 20 = .ok (.aload_n 3, 1) := by decide +kernel
theorem dX4_explain_21 : decode cX4_explain 21 = .ok (.aload_n 0, 1) := by decide +kernel
theorem dX4_explain_22 : decode cX4_explain 22 = .ok (.aload_n 3, 1) := by decide +kernel
theorem dX4_explain_23 : decode cX4_explain 23 = .ok (.aload_n 1, 1) := by decide +kernel
theorem dX4_explain_24 : decode cX4_explain 24 = .ok (.invokevirtual 104, 3) := by decide +kernel
theorem dX4_explain_27 : decode cX4_explain 27 = .ok (.putfield 108, 3) := by decide +kernel
theorem dX4_explain_30 : decode cX4_explain 30 = .ok (.aload_n 3, 1) := by decide +kernel
theorem dX4_explain_31 : decode cX4_explain 31 = .ok (.aload_n 0, 1) := by decide +kernel
theorem dX4_explain_32 : decode cX4_explain 32 = .ok (.aload_n 3, 1) := by decide +kernel
theorem dX4_explain_33 : decode cX4_explain 33 = .ok (.invokevirtual 111, 3) := by decide +kernel
theorem dX4_explain_36 : decode cX4_explain 36 = .ok (.putfield 115, 3) := by decide +kernel
theorem dX4_explain_39 : decode cX4_explain 39 = .ok (.iinc 2 1, 3) := by decide +kernel
theorem dX4_explain_42 : decode cX4_explain 42 = .ok (.goto (-40), 3) := by decide +kernel
theorem dX4_explain_45 : decode cX4_explain 45 = .ok (.return_, 1) := by decide +kernel
theorem dX4_whyNot_0 : decode cX4_whyNot 0 = .ok (.aload_n 1, 1) := by decide +kernel
theorem dX4_whyNot_1 : decode cX4_whyNot 1 = .ok (.getfield 80, 3) := by decide +kernel
theorem dX4_whyNot_4 : decode cX4_whyNot 4 = .ok (.ifCond .eq 5, 3) := by decide +kernel
theorem dX4_whyNot_7 : decode cX4_whyNot 7 = .ok (.iconst 0, 1) := by decide +kernel
theorem dX4_whyNot_8 : decode cX4_whyNot 8 = .ok (.ireturn, 1) := by decide +kernel
theorem dX4_whyNot_9 : decode cX4_whyNot 9 = .ok (.aload_n 1, 1) := by decide +kernel
theorem dX4_whyNot_10 : decode cX4_whyNot 10 = .ok (.getfield 66, 3) := by decide +kernel
theorem dX4_whyNot_13 : decode cX4_whyNot 13 = .ok (.ifCond .ne 5, 3) := by decide +kernel
theorem dX4_whyNot_16 : decode cX4_whyNot 16 = .ok (.iconst 1, 1) := by decide +kernel
theorem dX4_whyNot_17 : decode cX4_whyNot 17 = .ok (.ireturn, 1) := by decide +kernel
theorem dX4_whyNot_18 : decode cX4_whyNot 18 = .ok (.aload_n 0, 1) := by decide +kernel
theorem dX4_whyNot_19 : decode cX4_whyNot 19 = .ok (.aload_n 1, 1) := by decide +kernel
theorem dX4_whyNot_20 : decode cX4_whyNot 20 = .ok (.invokevirtual 118, 3) := by decide +kernel
theorem dX4_whyNot_23 : decode cX4_whyNot 23 = .ok (.iconst (-1), 1) := by decide +kernel
theorem dX4_whyNot_24 : decode cX4_whyNot 24 = .ok (.if_icmp .eq 5, 3) := by decide +kernel
theorem dX4_whyNot_27 : decode cX4_whyNot 27 = .ok (.iconst 2, 1) := by decide +kernel
theorem dX4_whyNot_28 : decode cX4_whyNot 28 = .ok (.ireturn, 1) := by decide +kernel
theorem dX4_whyNot_29 : decode cX4_whyNot 29 = .ok (.aload_n 0, 1) := by decide +kernel
theorem dX4_whyNot_30 : decode cX4_whyNot 30 = .ok (.aload_n 1, 1) := by decide +kernel
theorem dX4_whyNot_31 : decode cX4_whyNot 31 = .ok (.aload_n 2, 1) := by decide +kernel
theorem dX4_whyNot_32 : decode cX4_whyNot 32 = .ok (.getfield 121, 3) := by decide +kernel
theorem dX4_whyNot_35 : decode cX4_whyNot 35 = .ok (.invokevirtual 126, 3) := by decide +kernel
theorem dX4_whyNot_38 : decode cX4_whyNot 38 = .ok (.ifCond .eq 5, 3) := by decide +kernel
theorem dX4_whyNot_41 : decode cX4_whyNot 41 = .ok (.iconst 3, 1) := by decide +kernel
theorem dX4_whyNot_42 : decode cX4_whyNot 42 = .ok (.ireturn, 1) := by decide +kernel
theorem dX4_whyNot_43 : decode cX4_whyNot 43 = .ok (.aload_n 0, 1) := by decide +kernel
theorem dX4_whyNot_44 : decode cX4_whyNot 44 = .ok (.getfield 24, 3) := by decide +kernel
theorem dX4_whyNot_47 : decode cX4_whyNot 47 = .ok (.aload_n 1, 1) := by decide +kernel
theorem dX4_whyNot_48 : decode cX4_whyNot 48 = .ok (.invokevirtual 100, 3) := by decide +kernel
theorem dX4_whyNot_51 : decode cX4_whyNot 51 = .ok (.iadd, 1) := by decide +kernel
theorem dX4_whyNot_52 : decode cX4_whyNot 52 = .ok (.aload_n 2, 1) := by decide +kernel
theorem dX4_whyNot_53 : decode cX4_whyNot 53 = .ok (.getfield 129, 3) := by decide +kernel
theorem dX4_whyNot_56 : decode cX4_whyNot 56 = .ok (.if_icmp .le 7, 3) := by decide +kernel
theorem dX4_whyNot_59 : decode cX4_whyNot 59 = .ok (.iconst 4, 1) := by decide +kernel
theorem dX4_whyNot_60 : decode cX4_whyNot 60 = .ok (.goto 4, 3) := by decide +kernel
theorem dX4_whyNot_63 : decode cX4_whyNot 63 = .ok (.iconst 5, 1) := by decide +kernel
theorem dX4_whyNot_64 : decode cX4_whyNot 64 = .ok (.ireturn, 1) := by decide +kernel
theorem dX4_rivalOf_0 : decode cX4_rivalOf 0 = .ok (.aload_n 1, 1) := by decide +kernel
theorem dX4_rivalOf_1 : decode cX4_rivalOf 1 = .ok (.getfield 108, 3) := by decide +kernel
theorem dX4_rivalOf_4 : decode cX4_rivalOf 4 = .ok (.lookupswitch 40 #[(2, 28), (3, 34)], 28) := by decide +kernel
theorem dX4_rivalOf_32 : decode cX4_rivalOf 32 = .ok (.aload_n 0, 1) := by decide +kernel
theorem dX4_rivalOf_33 : decode cX4_rivalOf 33 = .ok (.aload_n 1, 1) := by decide +kernel
theorem dX4_rivalOf_34 : decode cX4_rivalOf 34 = .ok (.invokevirtual 118, 3) := by decide +kernel
theorem dX4_rivalOf_37 : decode cX4_rivalOf 37 = .ok (.ireturn, 1) := by decide +kernel
theorem dX4_rivalOf_38 : decode cX4_rivalOf 38 = .ok (.aload_n 0, 1) := by decide +kernel
theorem dX4_rivalOf_39 : decode cX4_rivalOf 39 = .ok (.aload_n 1, 1) := by decide +kernel
theorem dX4_rivalOf_40 : decode cX4_rivalOf 40 = .ok (.invokevirtual 132, 3) := by decide +kernel
theorem dX4_rivalOf_43 : decode cX4_rivalOf 43 = .ok (.ireturn, 1) := by decide +kernel
theorem dX4_rivalOf_44 : decode cX4_rivalOf 44 = .ok (.iconst (-1), 1) := by decide +kernel
theorem dX4_rivalOf_45 : decode cX4_rivalOf 45 = .ok (.ireturn, 1) := by decide +kernel
theorem dX4_memberOneWith_0 : decode cX4_memberOneWith 0 = .ok (.iconst 0, 1) := by decide +kernel
theorem dX4_memberOneWith_1 : decode cX4_memberOneWith 1 = .ok (.istore_n 2, 1) := by decide +kernel
theorem dX4_memberOneWith_2 : decode cX4_memberOneWith 2 = .ok (.iload_n 2, 1) := by decide +kernel
theorem dX4_memberOneWith_3 : decode cX4_memberOneWith 3 = .ok (.aload_n 0, 1) := by decide +kernel
theorem dX4_memberOneWith_4 : decode cX4_memberOneWith 4 = .ok (.getfield 9, 3) := by decide +kernel
theorem dX4_memberOneWith_7 : decode cX4_memberOneWith 7 = .ok (.if_icmp .ge 36, 3) := by decide +kernel
theorem dX4_memberOneWith_10 : decode cX4_memberOneWith 10 = .ok (.aload_n 0, 1) := by decide +kernel
theorem dX4_memberOneWith_11 : decode cX4_memberOneWith 11 = .ok (.iload_n 2, 1) := by decide +kernel
theorem dX4_memberOneWith_12 : decode cX4_memberOneWith 12 = .ok (.invokevirtual 52, 3) := by decide +kernel
theorem dX4_memberOneWith_15 : decode cX4_memberOneWith 15 = .ok (.astore_n 3, 1) := by decide +kernel
theorem dX4_memberOneWith_16 : decode cX4_memberOneWith 16 = .ok (.aload_n 3, 1) := by decide +kernel
theorem dX4_memberOneWith_17 : decode cX4_memberOneWith 17 = .ok (.ifnull 20, 3) := by decide +kernel
theorem dX4_memberOneWith_20 : decode cX4_memberOneWith 20 = .ok (.aload_n 3, 1) := by decide +kernel
theorem dX4_memberOneWith_21 : decode cX4_memberOneWith 21 = .ok (.getfield 80, 3) := by decide +kernel
theorem dX4_memberOneWith_24 : decode cX4_memberOneWith 24 = .ok (.ifCond .eq 13, 3) := by decide +kernel
theorem dX4_memberOneWith_27 : decode cX4_memberOneWith 27 = .ok (.aload_n 3, 1) := by decide +kernel
theorem dX4_memberOneWith_28 : decode cX4_memberOneWith 28 = .ok (.aload_n 1, 1) := by decide +kernel
theorem dX4_memberOneWith_29 : decode cX4_memberOneWith 29 = .ok (.invokevirtual 97, 3) := by decide +kernel
theorem dX4_memberOneWith_32 : decode cX4_memberOneWith 32 = .ok (.ifCond .eq 5, 3) := by decide +kernel
theorem dX4_memberOneWith_35 : decode cX4_memberOneWith 35 = .ok (.iload_n 2, 1) := by decide +kernel
theorem dX4_memberOneWith_36 : decode cX4_memberOneWith 36 = .ok (.ireturn, 1) := by decide +kernel
theorem dX4_memberOneWith_37 : decode cX4_memberOneWith 37 = .ok (.iinc 2 1, 3) := by decide +kernel
theorem dX4_memberOneWith_40 : decode cX4_memberOneWith 40 = .ok (.goto (-38), 3) := by decide +kernel
theorem dX4_memberOneWith_43 : decode cX4_memberOneWith 43 = .ok (.iconst (-1), 1) := by decide +kernel
theorem dX4_memberOneWith_44 : decode cX4_memberOneWith 44 = .ok (.ireturn, 1) := by decide +kernel
theorem dX4_isCrowdedWith_0 : decode cX4_isCrowdedWith 0 = .ok (.aload_n 0, 1) := by decide +kernel
theorem dX4_isCrowdedWith_1 : decode cX4_isCrowdedWith 1 = .ok (.aload_n 1, 1) := by decide +kernel
theorem dX4_isCrowdedWith_2 : decode cX4_isCrowdedWith 2 = .ok (.getfield 63, 3) := by decide +kernel
theorem dX4_isCrowdedWith_5 : decode cX4_isCrowdedWith 5 = .ok (.invokevirtual 135, 3) := by decide +kernel
theorem dX4_isCrowdedWith_8 : decode cX4_isCrowdedWith 8 = .ok (.iload_n 2, 1) := by decide +kernel
theorem dX4_isCrowdedWith_9 : decode cX4_isCrowdedWith 9 = .ok (.if_icmp .lt 5, 3) := by decide +kernel
theorem dX4_isCrowdedWith_12 : decode cX4_isCrowdedWith 12 = .ok (.iconst 1, 1) := by decide +kernel
theorem dX4_isCrowdedWith_13 : decode cX4_isCrowdedWith 13 = .ok (.ireturn, 1) := by decide +kernel
theorem dX4_isCrowdedWith_14 : decode cX4_isCrowdedWith 14 = .ok (.iconst 0, 1) := by decide +kernel
theorem dX4_isCrowdedWith_15 : decode cX4_isCrowdedWith 15 = .ok (.istore_n 3, 1) := by decide +kernel
theorem dX4_isCrowdedWith_16 : decode cX4_isCrowdedWith 16 = .ok (.iload_n 3, 1) := by decide +kernel
theorem dX4_isCrowdedWith_17 : decode cX4_isCrowdedWith 17 = .ok (.aload_n 0, 1) := by decide +kernel
theorem dX4_isCrowdedWith_18 : decode cX4_isCrowdedWith 18 = .ok (.getfield 9, 3) := by decide +kernel
theorem dX4_isCrowdedWith_21 : decode cX4_isCrowdedWith 21 = .ok (.if_icmp .ge 56, 3) := by decide +kernel
theorem dX4_isCrowdedWith_24 : decode cX4_isCrowdedWith 24 = .ok (.aload_n 0, 1) := by decide +kernel
theorem dX4_isCrowdedWith_25 : decode cX4_isCrowdedWith 25 = .ok (.iload_n 3, 1) := by decide +kernel
theorem dX4_isCrowdedWith_26 : decode cX4_isCrowdedWith 26 = .ok (.invokevirtual 52, 3) := by decide +kernel
theorem dX4_isCrowdedWith_29 : decode cX4_isCrowdedWith 29 = .ok (.astore 4, 2) := by decide +kernel
theorem dX4_isCrowdedWith_31 : decode cX4_isCrowdedWith 31 = .ok (.aload 4, 2) := by decide +kernel
theorem dX4_isCrowdedWith_33 : decode cX4_isCrowdedWith 33 = .ok (.ifnull 38, 3) := by decide +kernel
theorem dX4_isCrowdedWith_36 : decode cX4_isCrowdedWith 36 = .ok (.aload 4, 2) := by decide +kernel
theorem dX4_isCrowdedWith_38 : decode cX4_isCrowdedWith 38 = .ok (.getfield 80, 3) := by decide +kernel
theorem dX4_isCrowdedWith_41 : decode cX4_isCrowdedWith 41 = .ok (.ifCond .eq 30, 3) := by decide +kernel
theorem dX4_isCrowdedWith_44 : decode cX4_isCrowdedWith 44 = .ok (.aload_n 1, 1) := by decide +kernel
theorem dX4_isCrowdedWith_45 : decode cX4_isCrowdedWith 45 = .ok (.aload 4, 2) := by decide +kernel
theorem dX4_isCrowdedWith_47 : decode cX4_isCrowdedWith 47 = .ok (.getfield 63, 3) := by decide +kernel
theorem dX4_isCrowdedWith_50 : decode cX4_isCrowdedWith 50 = .ok (.invokevirtual 93, 3) := by decide +kernel
theorem dX4_isCrowdedWith_53 : decode cX4_isCrowdedWith 53 = .ok (.ifCond .eq 18, 3) := by decide +kernel
theorem dX4_isCrowdedWith_56 : decode cX4_isCrowdedWith 56 = .ok (.aload_n 0, 1) := by decide +kernel
theorem dX4_isCrowdedWith_57 : decode cX4_isCrowdedWith 57 = .ok (.aload 4, 2) := by decide +kernel
theorem dX4_isCrowdedWith_59 : decode cX4_isCrowdedWith 59 = .ok (.getfield 63, 3) := by decide +kernel
theorem dX4_isCrowdedWith_62 : decode cX4_isCrowdedWith 62 = .ok (.invokevirtual 135, 3) := by decide +kernel
theorem dX4_isCrowdedWith_65 : decode cX4_isCrowdedWith 65 = .ok (.iload_n 2, 1) := by decide +kernel
theorem dX4_isCrowdedWith_66 : decode cX4_isCrowdedWith 66 = .ok (.if_icmp .lt 5, 3) := by decide +kernel
theorem dX4_isCrowdedWith_69 : decode cX4_isCrowdedWith 69 = .ok (.iconst 1, 1) := by decide +kernel
theorem dX4_isCrowdedWith_70 : decode cX4_isCrowdedWith 70 = .ok (.ireturn, 1) := by decide +kernel
theorem dX4_isCrowdedWith_71 : decode cX4_isCrowdedWith 71 = .ok (.iinc 3 1, 3) := by decide +kernel
theorem dX4_isCrowdedWith_74 : decode cX4_isCrowdedWith 74 = .ok (.goto (-58), 3) := by decide +kernel
theorem dX4_isCrowdedWith_77 : decode cX4_isCrowdedWith 77 = .ok (.iconst 0, 1) := by decide +kernel
theorem dX4_isCrowdedWith_78 : decode cX4_isCrowdedWith 78 = .ok (.ireturn, 1) := by decide +kernel
theorem dX4_membersOn_0 : decode cX4_membersOn 0 = .ok (.iconst 0, 1) := by decide +kernel
theorem dX4_membersOn_1 : decode cX4_membersOn 1 = .ok (.istore_n 2, 1) := by decide +kernel
theorem dX4_membersOn_2 : decode cX4_membersOn 2 = .ok (.iconst 0, 1) := by decide +kernel
theorem dX4_membersOn_3 : decode cX4_membersOn 3 = .ok (.istore_n 3, 1) := by decide +kernel
theorem dX4_membersOn_4 : decode cX4_membersOn 4 = .ok (.iload_n 3, 1) := by decide +kernel
theorem dX4_membersOn_5 : decode cX4_membersOn 5 = .ok (.aload_n 0, 1) := by decide +kernel
theorem dX4_membersOn_6 : decode cX4_membersOn 6 = .ok (.getfield 9, 3) := by decide +kernel
theorem dX4_membersOn_9 : decode cX4_membersOn 9 = .ok (.if_icmp .ge 41, 3) := by decide +kernel
theorem dX4_membersOn_12 : decode cX4_membersOn 12 = .ok (.aload_n 0, 1) := by decide +kernel
theorem dX4_membersOn_13 : decode cX4_membersOn 13 = .ok (.iload_n 3, 1) := by decide +kernel
theorem dX4_membersOn_14 : decode cX4_membersOn 14 = .ok (.invokevirtual 52, 3) := by decide +kernel
theorem dX4_membersOn_17 : decode cX4_membersOn 17 = .ok (.astore 4, 2) := by decide +kernel
theorem dX4_membersOn_19 : decode cX4_membersOn 19 = .ok (.aload 4, 2) := by decide +kernel
theorem dX4_membersOn_21 : decode cX4_membersOn 21 = .ok (.ifnull 23, 3) := by decide +kernel
theorem dX4_membersOn_24 : decode cX4_membersOn 24 = .ok (.aload 4, 2) := by decide +kernel
theorem dX4_membersOn_26 : decode cX4_membersOn 26 = .ok (.getfield 80, 3) := by decide +kernel
theorem dX4_membersOn_29 : decode cX4_membersOn 29 = .ok (.ifCond .eq 15, 3) := by decide +kernel
theorem dX4_membersOn_32 : decode cX4_membersOn 32 = .ok (.aload 4, 2) := by decide +kernel
theorem dX4_membersOn_34 : decode cX4_membersOn 34 = .ok (.iload_n 1, 1) := by decide +kernel
theorem dX4_membersOn_35 : decode cX4_membersOn 35 = .ok (.invokevirtual 93, 3) := by decide +kernel
theorem dX4_membersOn_38 : decode cX4_membersOn 38 = .ok (.ifCond .eq 6, 3) := by decide +kernel
theorem dX4_membersOn_41 : decode cX4_membersOn 41 = .ok (.iinc 2 1, 3) := by decide +kernel
theorem dX4_membersOn_44 : decode cX4_membersOn 44 = .ok (.iinc 3 1, 3) := by decide +kernel
theorem dX4_membersOn_47 : decode cX4_membersOn 47 = .ok (.goto (-43), 3) := by decide +kernel
theorem dX4_membersOn_50 : decode cX4_membersOn 50 = .ok (.iload_n 2, 1) := by decide +kernel
theorem dX4_membersOn_51 : decode cX4_membersOn 51 = .ok (.ireturn, 1) := by decide +kernel
theorem dX4_lightestMemberMeeting_0 : decode cX4_lightestMemberMeeting 0 = .ok (.iconst (-1), 1) := by decide +kernel
theorem dX4_lightestMemberMeeting_1 : decode cX4_lightestMemberMeeting 1 = .ok (.istore_n 2, 1) := by decide +kernel
theorem dX4_lightestMemberMeeting_2 : decode cX4_lightestMemberMeeting 2 = .ok (.iconst 0, 1) := by decide +kernel
theorem dX4_lightestMemberMeeting_3 : decode cX4_lightestMemberMeeting 3 = .ok (.istore_n 3, 1) := by decide +kernel
theorem dX4_lightestMemberMeeting_4 : decode cX4_lightestMemberMeeting 4 = .ok (.iconst 0, 1) := by decide +kernel
theorem dX4_lightestMemberMeeting_5 : decode cX4_lightestMemberMeeting 5 = .ok (.istore 4, 2) := by decide +kernel
theorem dX4_lightestMemberMeeting_7 : decode cX4_lightestMemberMeeting 7 = .ok (.iload 4, 2) := by decide +kernel
theorem dX4_lightestMemberMeeting_9 : decode cX4_lightestMemberMeeting 9 = .ok (.aload_n 0, 1) := by decide +kernel
theorem dX4_lightestMemberMeeting_10 : decode cX4_lightestMemberMeeting 10 = .ok (.getfield 9, 3) := by decide +kernel
theorem dX4_lightestMemberMeeting_13 : decode cX4_lightestMemberMeeting 13 = .ok (.if_icmp .ge 62, 3) := by decide +kernel
theorem dX4_lightestMemberMeeting_16 : decode cX4_lightestMemberMeeting 16 = .ok (.aload_n 0, 1) := by decide +kernel
theorem dX4_lightestMemberMeeting_17 : decode cX4_lightestMemberMeeting 17 = .ok (.iload 4, 2) := by decide +kernel
theorem dX4_lightestMemberMeeting_19 : decode cX4_lightestMemberMeeting 19 = .ok (.invokevirtual 52, 3) := by decide +kernel
theorem dX4_lightestMemberMeeting_22 : decode cX4_lightestMemberMeeting 22 = .ok (.astore 5, 2) := by decide +kernel
theorem dX4_lightestMemberMeeting_24 : decode cX4_lightestMemberMeeting 24 = .ok (.aload 5, 2) := by decide +kernel
theorem dX4_lightestMemberMeeting_26 : decode cX4_lightestMemberMeeting 26 = .ok (.ifnull 43, 3) := by decide +kernel
theorem dX4_lightestMemberMeeting_29 : decode cX4_lightestMemberMeeting 29 = .ok (.aload 5, 2) := by decide +kernel
theorem dX4_lightestMemberMeeting_31 : decode cX4_lightestMemberMeeting 31 = .ok (.getfield 80, 3) := by decide +kernel
theorem dX4_lightestMemberMeeting_34 : decode cX4_lightestMemberMeeting 34 = .ok (.ifCond .eq 35, 3) := by decide +kernel
theorem dX4_lightestMemberMeeting_37 : decode cX4_lightestMemberMeeting 37 = .ok (.aload 5, 2) := by decide +kernel
theorem dX4_lightestMemberMeeting_39 : decode cX4_lightestMemberMeeting 39 = .ok (.aload_n 1, 1) := by decide +kernel
theorem dX4_lightestMemberMeeting_40 : decode cX4_lightestMemberMeeting 40 = .ok (.invokevirtual 139, 3) := by decide +kernel
theorem dX4_lightestMemberMeeting_43 : decode cX4_lightestMemberMeeting 43 = .ok (.ifCond .eq 26, 3) := by decide +kernel
theorem dX4_lightestMemberMeeting_46 : decode cX4_lightestMemberMeeting 46 = .ok (.iload_n 2, 1) := by decide +kernel
theorem dX4_lightestMemberMeeting_47 : decode cX4_lightestMemberMeeting 47 = .ok (.iconst (-1), 1) := by decide +kernel
theorem dX4_lightestMemberMeeting_48 : decode cX4_lightestMemberMeeting 48 = .ok (.if_icmp .eq 12, 3) := by decide +kernel
theorem dX4_lightestMemberMeeting_51 : decode cX4_lightestMemberMeeting 51 = .ok (.aload 5, 2) := by decide +kernel
theorem dX4_lightestMemberMeeting_53 : decode cX4_lightestMemberMeeting 53 = .ok (.getfield 69, 3) := by decide +kernel
theorem dX4_lightestMemberMeeting_56 : decode cX4_lightestMemberMeeting 56 = .ok (.iload_n 3, 1) := by decide +kernel
theorem dX4_lightestMemberMeeting_57 : decode cX4_lightestMemberMeeting 57 = .ok (.if_icmp .ge 12, 3) := by decide +kernel
theorem dX4_lightestMemberMeeting_60 : decode cX4_lightestMemberMeeting 60 = .ok (.iload 4, 2) := by decide +kernel
theorem dX4_lightestMemberMeeting_62 : decode cX4_lightestMemberMeeting 62 = .ok (.istore_n 2, 1) := by decide +kernel
theorem dX4_lightestMemberMeeting_63 : decode cX4_lightestMemberMeeting 63 = .ok (.aload 5, 2) := by decide +kernel
theorem dX4_lightestMemberMeeting_65 : decode cX4_lightestMemberMeeting 65 = .ok (.getfield 69, 3) := by decide +kernel
theorem dX4_lightestMemberMeeting_68 : decode cX4_lightestMemberMeeting 68 = .ok (.istore_n 3, 1) := by decide +kernel
theorem dX4_lightestMemberMeeting_69 : decode cX4_lightestMemberMeeting 69 = .ok (.iinc 4 1, 3) := by decide +kernel
theorem dX4_lightestMemberMeeting_72 : decode cX4_lightestMemberMeeting 72 = .ok (.goto (-65), 3) := by decide +kernel
theorem dX4_lightestMemberMeeting_75 : decode cX4_lightestMemberMeeting 75 = .ok (.iload_n 2, 1) := by decide +kernel
theorem dX4_lightestMemberMeeting_76 : decode cX4_lightestMemberMeeting 76 = .ok (.ireturn, 1) := by decide +kernel
theorem dX5_init_0 : decode cX5_init 0 = .ok (.aload_n 0, 1) := by decide +kernel
theorem dX5_init_1 : decode cX5_init 1 = .ok (.invokespecial 3, 3) := by decide +kernel
theorem dX5_init_4 : decode cX5_init 4 = .ok (.aload_n 0, 1) := by decide +kernel
theorem dX5_init_5 : decode cX5_init 5 = .ok (.iconst 1, 1) := by decide +kernel
theorem dX5_init_6 : decode cX5_init 6 = .ok (.putfield 9, 3) := by decide +kernel
theorem dX5_init_9 : decode cX5_init 9 = .ok (.aload_n 0, 1) := by decide +kernel
theorem dX5_init_10 : decode cX5_init 10 = .ok (.iconst 0, 1) := by decide +kernel
theorem dX5_init_11 : decode cX5_init 11 = .ok (.putfield 15, 3) := by decide +kernel
theorem dX5_init_14 : decode cX5_init 14 = .ok (.aload_n 0, 1) := by decide +kernel
theorem dX5_init_15 : decode cX5_init 15 = .ok (.iconst 0, 1) := by decide +kernel
theorem dX5_init_16 : decode cX5_init 16 = .ok (.putfield 18, 3) := by decide +kernel
theorem dX5_init_19 : decode cX5_init 19 = .ok (.aload_n 0, 1) := by decide +kernel
theorem dX5_init_20 : decode cX5_init 20 = .ok (.sipush 2000, 3) := by decide +kernel
theorem dX5_init_23 : decode cX5_init 23 = .ok (.putfield 21, 3) := by decide +kernel
theorem dX5_init_26 : decode cX5_init 26 = .ok (.aload_n 0, 1) := by decide +kernel
theorem dX5_init_27 : decode cX5_init 27 = .ok (.iconst 0, 1) := by decide +kernel
theorem dX5_init_28 : decode cX5_init 28 = .ok (.putfield 24, 3) := by decide +kernel
theorem dX5_init_31 : decode cX5_init 31 = .ok (.aload_n 0, 1) := by decide +kernel
theorem dX5_init_32 : decode cX5_init 32 = .ok (.iconst 0, 1) := by decide +kernel
theorem dX5_init_33 : decode cX5_init 33 = .ok (.putfield 27, 3) := by decide +kernel
theorem dX5_init_36 : decode cX5_init 36 = .ok (.aload_n 0, 1) := by decide +kernel
theorem dX5_init_37 : decode cX5_init 37 = .ok (.iconst 0, 1) := by decide +kernel
theorem dX5_init_38 : decode cX5_init 38 = .ok (.putfield 30, 3) := by decide +kernel
theorem dX5_init_41 : decode cX5_init 41 = .ok (.aload_n 0, 1) := by decide +kernel
theorem dX5_init_42 : decode cX5_init 42 = .ok (.iconst 0, 1) := by decide +kernel
theorem dX5_init_43 : decode cX5_init 43 = .ok (.putfield 33, 3) := by decide +kernel
theorem dX5_init_46 : decode cX5_init 46 = .ok (.aload_n 0, 1) := by decide +kernel
theorem dX5_init_47 : decode cX5_init 47 = .ok (.iconst 0, 1) := by decide +kernel
theorem dX5_init_48 : decode cX5_init 48 = .ok (.putfield 36, 3) := by decide +kernel
theorem dX5_init_51 : decode cX5_init 51 = .ok (.aload_n 0, 1) := by decide +kernel
theorem dX5_init_52 : decode cX5_init 52 = .ok (.iconst 0, 1) := by decide +kernel
theorem dX5_init_53 : decode cX5_init 53 = .ok (.putfield 39, 3) := by decide +kernel
theorem dX5_init_56 : decode cX5_init 56 = .ok (.aload_n 0, 1) := by decide +kernel
theorem dX5_init_57 : decode cX5_init 57 = .ok (.iconst (-1), 1) := by decide +kernel
theorem dX5_init_58 : decode cX5_init 58 = .ok (.putfield 42, 3) := by decide +kernel
theorem dX5_init_61 : decode cX5_init 61 = .ok (.aload_n 0, 1) := by decide +kernel
theorem dX5_init_62 : decode cX5_init 62 = .ok (.iconst 0, 1) := by decide +kernel
theorem dX5_init_63 : decode cX5_init 63 = .ok (.putfield 45, 3) := by decide +kernel
theorem dX5_init_66 : decode cX5_init 66 = .ok (.aload_n 0, 1) := by decide +kernel
theorem dX5_init_67 : decode cX5_init 67 = .ok (.iconst 0, 1) := by decide +kernel
theorem dX5_init_68 : decode cX5_init 68 = .ok (.putfield 48, 3) := by decide +kernel
theorem dX5_init_71 : decode cX5_init 71 = .ok (.return_, 1) := by decide +kernel
theorem dX5_choose_0 : decode cX5_choose 0 = .ok (.aload_n 0, 1) := by decide +kernel
theorem dX5_choose_1 : decode cX5_choose 1 = .ok (.iconst 0, 1) := by decide +kernel
theorem dX5_choose_2 : decode cX5_choose 2 = .ok (.putfield 27, 3) := by decide +kernel
theorem dX5_choose_5 : decode cX5_choose 5 = .ok (.aload_n 0, 1) := by decide +kernel
theorem dX5_choose_6 : decode cX5_choose 6 = .ok (.iconst 0, 1) := by decide +kernel
theorem dX5_choose_7 : decode cX5_choose 7 = .ok (.putfield 30, 3) := by decide +kernel
theorem dX5_choose_10 : decode cX5_choose 10 = .ok (.aload_n 0, 1) := by decide +kernel
theorem dX5_choose_11 : decode cX5_choose 11 = .ok (.iconst 0, 1) := by decide +kernel
theorem dX5_choose_12 : decode cX5_choose 12 = .ok (.putfield 33, 3) := by decide +kernel
theorem dX5_choose_15 : decode cX5_choose 15 = .ok (.aload_n 0, 1) := by decide +kernel
theorem dX5_choose_16 : decode cX5_choose 16 = .ok (.iconst 0, 1) := by decide +kernel
theorem dX5_choose_17 : decode cX5_choose 17 = .ok (.putfield 36, 3) := by decide +kernel
theorem dX5_choose_20 : decode cX5_choose 20 = .ok (.aload_n 0, 1) := by decide +kernel
theorem dX5_choose_21 : decode cX5_choose 21 = .ok (.iconst 0, 1) := by decide +kernel
theorem dX5_choose_22 : decode cX5_choose 22 = .ok (.putfield 39, 3) := by decide +kernel
theorem dX5_choose_25 : decode cX5_choose 25 = .ok (.aload_n 0, 1) := by decide +kernel
theorem dX5_choose_26 : decode cX5_choose 26 = .ok (.iconst (-1), 1) := by decide +kernel
theorem dX5_choose_27 : decode cX5_choose 27 = .ok (.putfield 42, 3) := by decide +kernel
theorem dX5_choose_30 : decode cX5_choose 30 = .ok (.aload_n 0, 1) := by decide +kernel
theorem dX5_choose_31 : decode cX5_choose 31 = .ok (.aload_n 1, 1) := by decide +kernel
theorem dX5_choose_32 : decode cX5_choose 32 = .ok (.iconst 0, 1) := by decide +kernel
theorem dX5_choose_33 : decode cX5_choose 33 = .ok (.invokevirtual 51, 3) := by decide +kernel
theorem dX5_choose_36 : decode cX5_choose 36 = .ok (.aload_n 1, 1) := by decide +kernel
theorem dX5_choose_37 : decode cX5_choose 37 = .ok (.aload_n 0, 1) := by decide +kernel
theorem dX5_choose_38 : decode cX5_choose 38 = .ok (.getfield 39, 3) := by decide +kernel
theorem dX5_choose_41 : decode cX5_choose 41 = .ok (.invokevirtual 55, 3) := by decide +kernel
theorem dX5_choose_44 : decode cX5_choose 44 = .ok (.return_, 1) := by decide +kernel
theorem dX5_search_0 : decode cX5_search 0 = .ok (.aload_n 1, 1) := by decide +kernel
theorem dX5_search_1 : decode cX5_search 1 = .ok (.iload_n 2, 1) := by decide +kernel
theorem dX5_search_2 : decode cX5_search 2 = .ok (.invokevirtual 61, 3) := by decide +kernel
theorem dX5_search_5 : decode cX5_search 5 = .ok (.astore_n 3, 1) := by decide +kernel
theorem dX5_search_6 : decode cX5_search 6 = .ok (.aload_n 0, 1) := by decide +kernel
theorem dX5_search_7 : decode cX5_search 7 = .ok (.aload_n 3, 1) := by decide +kernel
theorem dX5_search_8 : decode cX5_search 8 = .ok (.invokevirtual 65, 3) := by decide +kernel
theorem dX5_search_11 : decode cX5_search 11 = .ok (.ifCond .ne 4, 3) := by decide +kernel
theorem dX5_search_14 : decode cX5_search 14 = .ok (.return_, 1) := by decide +kernel
theorem dX5_search_15 : decode cX5_search 15 = .ok (.aload_n 3, 1) := by decide +kernel
theorem dX5_search_16 : decode cX5_search 16 = .ok (.ifnonnull 8, 3) := by decide +kernel
theorem dX5_search_19 : decode cX5_search 19 = .ok (.aload_n 0, 1) := by decide +kernel
theorem dX5_search_20 : decode cX5_search 20 = .ok (.invokevirtual 69, 3) := by decide +kernel
theorem dX5_search_23 : decode cX5_search 23 = .ok (.return_, 1) := by decide +kernel
theorem dX5_search_24 : decode cX5_search 24 = .ok (.aload_n 0, 1) := by decide +kernel
theorem dX5_search_25 : decode cX5_search 25 = .ok (.aload_n 3, 1) := by decide +kernel
theorem dX5_search_26 : decode cX5_search 26 = .ok (.invokevirtual 72, 3) := by decide +kernel
theorem dX5_search_29 : decode cX5_search 29 = .ok (.ifCond .eq 25, 3) := by decide +kernel
theorem dX5_search_32 : decode cX5_search 32 = .ok (.aload_n 0, 1) := by decide +kernel
theorem dX5_search_33 : decode cX5_search 33 = .ok (.aload_n 3, 1) := by decide +kernel
theorem dX5_search_34 : decode cX5_search 34 = .ok (.iload_n 2, 1) := by decide +kernel
theorem dX5_search_35 : decode cX5_search 35 = .ok (.iconst 1, 1) := by decide +kernel
theorem dX5_search_36 : decode cX5_search 36 = .ok (.invokevirtual 75, 3) := by decide +kernel
theorem dX5_search_39 : decode cX5_search 39 = .ok (.aload_n 0, 1) := by decide +kernel
theorem dX5_search_40 : decode cX5_search 40 = .ok (.aload_n 1, 1) := by decide +kernel
theorem dX5_search_41 : decode cX5_search 41 = .ok (.iload_n 2, 1) := by decide +kernel
theorem dX5_search_42 : decode cX5_search 42 = .ok (.iconst 1, 1) := by decide +kernel
theorem dX5_search_43 : decode cX5_search 43 = .ok (.iadd, 1) := by decide +kernel
theorem dX5_search_44 : decode cX5_search 44 = .ok (.invokevirtual 51, 3) := by decide +kernel
theorem dX5_search_47 : decode cX5_search 47 = .ok (.aload_n 0, 1) := by decide +kernel
theorem dX5_search_48 : decode cX5_search 48 = .ok (.aload_n 3, 1) := by decide +kernel
theorem dX5_search_49 : decode cX5_search 49 = .ok (.iload_n 2, 1) := by decide +kernel
theorem dX5_search_50 : decode cX5_search 50 = .ok (.iconst (-1), 1) := by decide +kernel
theorem dX5_search_51 : decode cX5_search 51 = .ok (.invokevirtual 75, 3) := by decide +kernel
theorem dX5_search_54 : decode cX5_search 54 = .ok (.aload_n 0, 1) := by decide +kernel
theorem dX5_search_55 : decode cX5_search 55 = .ok (.aload_n 1, 1) := by decide +kernel
theorem dX5_search_56 : decode cX5_search 56 = .ok (.iload_n 2, 1) := by decide +kernel
theorem dX5_search_57 : decode cX5_search 57 = .ok (.iconst 1, 1) := by decide +kernel
theorem dX5_search_58 : decode cX5_search 58 = .ok (.iadd, 1) := by decide +kernel
theorem dX5_search_59 : decode cX5_search 59 = .ok (.invokevirtual 51, 3) := by decide +kernel
theorem dX5_search_62 : decode cX5_search 62 = .ok (.return_, 1) := by decide +kernel
theorem dX5_canBeatBest_0 : decode cX5_canBeatBest 0 = .ok (.aload_n 0, 1) := by decide +kernel
theorem dX5_canBeatBest_1 : decode cX5_canBeatBest 1 = .ok (.getfield 30, 3) := by decide +kernel
theorem dX5_canBeatBest_4 : decode cX5_canBeatBest 4 = .ok (.aload_n 1, 1) := by decide +kernel
theorem dX5_canBeatBest_5 : decode cX5_canBeatBest 5 = .ok (.ifnonnull 7, 3) := by decide +kernel
theorem dX5_canBeatBest_8 : decode cX5_canBeatBest 8 = .ok (.iconst 0, 1) := by decide +kernel
theorem dX5_canBeatBest_9 : decode cX5_canBeatBest 9 = .ok (.goto 7, 3) := by decide +kernel
theorem dX5_canBeatBest_12 : decode cX5_canBeatBest 12 = .ok (.aload_n 1, 1) := by decide +kernel
theorem dX5_canBeatBest_13 : decode cX5_canBeatBest 13 = .ok (.getfield 79, 3) := by decide +kernel
theorem dX5_canBeatBest_16 : decode cX5_canBeatBest 16 = .ok (.iadd, 1) := by decide +kernel
theorem dX5_canBeatBest_17 : decode cX5_canBeatBest 17 = .ok (.istore_n 2, 1) := by decide +kernel
theorem dX5_canBeatBest_18 : decode cX5_canBeatBest 18 = .ok (.iload_n 2, 1) := by decide +kernel
theorem dX5_canBeatBest_19 : decode cX5_canBeatBest 19 = .ok (.aload_n 0, 1) := by decide +kernel
theorem dX5_canBeatBest_20 : decode cX5_canBeatBest 20 = .ok (.getfield 42, 3) := by decide +kernel
theorem dX5_canBeatBest_23 : decode cX5_canBeatBest 23 = .ok (.if_icmp .eq 17, 3) := by decide +kernel
theorem dX5_canBeatBest_26 : decode cX5_canBeatBest 26 = .ok (.iload_n 2, 1) := by decide +kernel
theorem dX5_canBeatBest_27 : decode cX5_canBeatBest 27 = .ok (.aload_n 0, 1) := by decide +kernel
theorem dX5_canBeatBest_28 : decode cX5_canBeatBest 28 = .ok (.getfield 42, 3) := by decide +kernel
theorem dX5_canBeatBest_31 : decode cX5_canBeatBest 31 = .ok (.if_icmp .le 7, 3) := by decide +kernel
theorem dX5_canBeatBest_34 : decode cX5_canBeatBest 34 = .ok (.iconst 1, 1) := by decide +kernel
theorem dX5_canBeatBest_35 : decode cX5_canBeatBest 35 = .ok (.goto 4, 3) := by decide +kernel
theorem dX5_canBeatBest_38 : decode cX5_canBeatBest 38 = .ok (.iconst 0, 1) := by decide +kernel
theorem dX5_canBeatBest_39 : decode cX5_canBeatBest 39 = .ok (.ireturn, 1) := by decide +kernel
theorem dX5_canBeatBest_40 : decode cX5_canBeatBest 40 = .ok (.aload_n 0, 1) := by decide +kernel
theorem dX5_canBeatBest_41 : decode cX5_canBeatBest 41 = .ok (.getfield 33, 3) := by decide +kernel
theorem dX5_canBeatBest_44 : decode cX5_canBeatBest 44 = .ok (.aload_n 1, 1) := by decide +kernel
theorem dX5_canBeatBest_45 : decode cX5_canBeatBest 45 = .ok (.ifnonnull 7, 3) := by decide +kernel
theorem dX5_canBeatBest_48 : decode cX5_canBeatBest 48 = .ok (.iconst 0, 1) := by decide +kernel
theorem dX5_canBeatBest_49 : decode cX5_canBeatBest 49 = .ok (.goto 7, 3) := by decide +kernel
theorem dX5_canBeatBest_52 : decode cX5_canBeatBest 52 = .ok (.aload_n 1, 1) := by decide +kernel
theorem dX5_canBeatBest_53 : decode cX5_canBeatBest 53 = .ok (.getfield 84, 3) := by decide +kernel
theorem dX5_canBeatBest_56 : decode cX5_canBeatBest 56 = .ok (.iadd, 1) := by decide +kernel
theorem dX5_canBeatBest_57 : decode cX5_canBeatBest 57 = .ok (.istore_n 3, 1) := by decide +kernel
theorem dX5_canBeatBest_58 : decode cX5_canBeatBest 58 = .ok (.iload_n 3, 1) := by decide +kernel
theorem dX5_canBeatBest_59 : decode cX5_canBeatBest 59 = .ok (.aload_n 0, 1) := by decide +kernel
theorem dX5_canBeatBest_60 : decode cX5_canBeatBest 60 = .ok (.getfield 45, 3) := by decide +kernel
theorem dX5_canBeatBest_63 : decode cX5_canBeatBest 63 = .ok (.if_icmp .eq 17, 3) := by decide +kernel
theorem dX5_canBeatBest_66 : decode cX5_canBeatBest 66 = .ok (.iload_n 3, 1) := by decide +kernel
theorem dX5_canBeatBest_67 : decode cX5_canBeatBest 67 = .ok (.aload_n 0, 1) := by decide +kernel
theorem dX5_canBeatBest_68 : decode cX5_canBeatBest 68 = .ok (.getfield 45, 3) := by decide +kernel
theorem dX5_canBeatBest_71 : decode cX5_canBeatBest 71 = .ok (.if_icmp .le 7, 3) := by decide +kernel
theorem dX5_canBeatBest_74 : decode cX5_canBeatBest 74 = .ok (.iconst 1, 1) := by decide +kernel
theorem dX5_canBeatBest_75 : decode cX5_canBeatBest 75 = .ok (.goto 4, 3) := by decide +kernel
theorem dX5_canBeatBest_78 : decode cX5_canBeatBest 78 = .ok (.iconst 0, 1) := by decide +kernel
theorem dX5_canBeatBest_79 : decode cX5_canBeatBest 79 = .ok (.ireturn, 1) := by decide +kernel
theorem dX5_canBeatBest_80 : decode cX5_canBeatBest 80 = .ok (.aload_n 0, 1) := by decide +kernel
theorem dX5_canBeatBest_81 : decode cX5_canBeatBest 81 = .ok (.getfield 36, 3) := by decide +kernel
theorem dX5_canBeatBest_84 : decode cX5_canBeatBest 84 = .ok (.aload_n 0, 1) := by decide +kernel
theorem dX5_canBeatBest_85 : decode cX5_canBeatBest 85 = .ok (.getfield 48, 3) := by decide +kernel
theorem dX5_canBeatBest_88 : decode cX5_canBeatBest 88 = .ok (.if_icmp .ge 7, 3) := by decide +kernel
theorem dX5_canBeatBest_91 : decode cX5_canBeatBest 91 = .ok (.iconst 1, 1) := by decide +kernel
theorem dX5_canBeatBest_92 : decode cX5_canBeatBest 92 = .ok (.goto 4, 3) := by decide +kernel
theorem dX5_canBeatBest_95 : decode cX5_canBeatBest 95 = .ok (.iconst 0, 1) := by decide +kernel
theorem dX5_canBeatBest_96 : decode cX5_canBeatBest 96 = .ok (.ireturn, 1) := by decide +kernel
theorem dX5_keepAsBest_0 : decode cX5_keepAsBest 0 = .ok (.aload_n 0, 1) := by decide +kernel
theorem dX5_keepAsBest_1 : decode cX5_keepAsBest 1 = .ok (.aload_n 0, 1) := by decide +kernel
theorem dX5_keepAsBest_2 : decode cX5_keepAsBest 2 = .ok (.getfield 27, 3) := by decide +kernel
theorem dX5_keepAsBest_5 : decode cX5_keepAsBest 5 = .ok (.putfield 39, 3) := by decide +kernel
theorem dX5_keepAsBest_8 : decode cX5_keepAsBest 8 = .ok (.aload_n 0, 1) := by decide +kernel
theorem dX5_keepAsBest_9 : decode cX5_keepAsBest 9 = .ok (.aload_n 0, 1) := by decide +kernel
theorem dX5_keepAsBest_10 : decode cX5_keepAsBest 10 = .ok (.getfield 30, 3) := by decide +kernel
theorem dX5_keepAsBest_13 : decode cX5_keepAsBest 13 = .ok (.putfield 42, 3) := by decide +kernel
theorem dX5_keepAsBest_16 : decode cX5_keepAsBest 16 = .ok (.aload_n 0, 1) := by decide +kernel
theorem dX5_keepAsBest_17 : decode cX5_keepAsBest 17 = .ok (.aload_n 0, 1) := by decide +kernel
theorem dX5_keepAsBest_18 : decode cX5_keepAsBest 18 = .ok (.getfield 33, 3) := by decide +kernel
theorem dX5_keepAsBest_21 : decode cX5_keepAsBest 21 = .ok (.putfield 45, 3) := by decide +kernel
theorem dX5_keepAsBest_24 : decode cX5_keepAsBest 24 = .ok (.aload_n 0, 1) := by decide +kernel
theorem dX5_keepAsBest_25 : decode cX5_keepAsBest 25 = .ok (.aload_n 0, 1) := by decide +kernel
theorem dX5_keepAsBest_26 : decode cX5_keepAsBest 26 = .ok (.getfield 36, 3) := by decide +kernel
theorem dX5_keepAsBest_29 : decode cX5_keepAsBest 29 = .ok (.putfield 48, 3) := by decide +kernel
theorem dX5_keepAsBest_32 : decode cX5_keepAsBest 32 = .ok (.return_, 1) := by decide +kernel
theorem dX5_canAdd_0 : decode cX5_canAdd 0 = .ok (.aload_n 1, 1) := by decide +kernel
theorem dX5_canAdd_1 : decode cX5_canAdd 1 = .ok (.getfield 87, 3) := by decide +kernel
theorem dX5_canAdd_4 : decode cX5_canAdd 4 = .ok (.ifCond .eq 54, 3) := by decide +kernel
theorem dX5_canAdd_7 : decode cX5_canAdd 7 = .ok (.aload_n 0, 1) := by decide +kernel
theorem dX5_canAdd_8 : decode cX5_canAdd 8 = .ok (.getfield 27, 3) := by decide +kernel
theorem dX5_canAdd_11 : decode cX5_canAdd 11 = .ok (.aload_n 1, 1) := by decide +kernel
theorem dX5_canAdd_12 : decode cX5_canAdd 12 = .ok (.getfield 91, 3) := by decide +kernel
theorem dX5_canAdd_15 : decode cX5_canAdd 15 = .ok (.iand, 1) := by decide +kernel
theorem dX5_canAdd_16 : decode cX5_canAdd 16 = .ok (.ifCond .ne 42, 3) := by decide +kernel
theorem dX5_canAdd_19 : decode cX5_canAdd 19 = .ok (.aload_n 0, 1) := by decide +kernel
theorem dX5_canAdd_20 : decode cX5_canAdd 20 = .ok (.getfield 27, 3) := by decide +kernel
theorem dX5_canAdd_23 : decode cX5_canAdd 23 = .ok (.aload_n 1, 1) := by decide +kernel
theorem dX5_canAdd_24 : decode cX5_canAdd 24 = .ok (.getfield 94, 3) := by decide +kernel
theorem dX5_canAdd_27 : decode cX5_canAdd 27 = .ok (.iand, 1) := by decide +kernel
theorem dX5_canAdd_28 : decode cX5_canAdd 28 = .ok (.invokestatic 97, 3) := by decide +kernel
theorem dX5_canAdd_31 : decode cX5_canAdd 31 = .ok (.aload_n 0, 1) := by decide +kernel
theorem dX5_canAdd_32 : decode cX5_canAdd 32 = .ok (.getfield 9, 3) := by decide +kernel
theorem dX5_canAdd_35 : decode cX5_canAdd 35 = .ok (.if_icmp .ge 23, 3) := by decide +kernel
theorem dX5_canAdd_38 : decode cX5_canAdd 38 = .ok (.aload_n 0, 1) := by decide +kernel
theorem dX5_canAdd_39 : decode cX5_canAdd 39 = .ok (.getfield 36, 3) := by decide +kernel
theorem dX5_canAdd_42 : decode cX5_canAdd 42 = .ok (.aload_n 1, 1) := by decide +kernel
theorem dX5_canAdd_43 : decode cX5_canAdd 43 = .ok (.invokevirtual 103, 3) := by decide +kernel
theorem dX5_canAdd_46 : decode cX5_canAdd 46 = .ok (.iadd, 1) := by decide +kernel
theorem dX5_canAdd_47 : decode cX5_canAdd 47 = .ok (.aload_n 0, 1) := by decide +kernel
theorem dX5_canAdd_48 : decode cX5_canAdd 48 = .ok (.getfield 21, 3) := by decide +kernel
theorem dX5_canAdd_51 : decode cX5_canAdd 51 = .ok (.if_icmp .gt 7, 3) := by decide +kernel
theorem dX5_canAdd_54 : decode cX5_canAdd 54 = .ok (.iconst 1, 1) := by decide +kernel
theorem dX5_canAdd_55 : decode cX5_canAdd 55 = .ok (.goto 4, 3) := by decide +kernel
theorem dX5_canAdd_58 : decode cX5_canAdd 58 = .ok (.iconst 0, 1) := by decide +kernel
theorem dX5_canAdd_59 : decode cX5_canAdd 59 = .ok (.ireturn, 1) := by decide +kernel
theorem dX5_addOrDrop_0 : decode cX5_addOrDrop 0 = .ok (.aload_n 0, 1) := by decide +kernel
theorem dX5_addOrDrop_1 : decode cX5_addOrDrop 1 = .ok (.dup, 1) := by decide +kernel
theorem dX5_addOrDrop_2 : decode cX5_addOrDrop 2 = .ok (.getfield 27, 3) := by decide +kernel
theorem dX5_addOrDrop_5 : decode cX5_addOrDrop 5 = .ok (.iconst 1, 1) := by decide +kernel
theorem dX5_addOrDrop_6 : decode cX5_addOrDrop 6 = .ok (.iload_n 2, 1) := by decide +kernel
theorem dX5_addOrDrop_7 : decode cX5_addOrDrop 7 = .ok (.ishl, 1) := by decide +kernel
theorem dX5_addOrDrop_8 : decode cX5_addOrDrop 8 = .ok (.ixor, 1) := by decide +kernel
theorem dX5_addOrDrop_9 : decode cX5_addOrDrop 9 = .ok (.putfield 27, 3) := by decide +kernel
theorem dX5_addOrDrop_12 : decode cX5_addOrDrop 12 = .ok (.aload_n 0, 1) := by decide +kernel
theorem dX5_addOrDrop_13 : decode cX5_addOrDrop 13 = .ok (.dup, 1) := by decide +kernel
theorem dX5_addOrDrop_14 : decode cX5_addOrDrop 14 = .ok (.getfield 30, 3) := by decide +kernel
theorem dX5_addOrDrop_17 : decode cX5_addOrDrop 17 = .ok (.aload_n 1, 1) := by decide +kernel
theorem dX5_addOrDrop_18 : decode cX5_addOrDrop 18 = .ok (.getfield 107, 3) := by decide +kernel
theorem dX5_addOrDrop_21 : decode cX5_addOrDrop 21 = .ok (.ifCond .eq 7, 3) := by decide +kernel
theorem dX5_addOrDrop_24 : decode cX5_addOrDrop 24 = .ok (.iload_n 3, 1) := by decide +kernel
theorem dX5_addOrDrop_25 : decode cX5_addOrDrop 25 = .ok (.goto 4, 3) := by decide +kernel
theorem dX5_addOrDrop_28 : decode cX5_addOrDrop 28 = .ok (.iconst 0, 1) := by decide +kernel
theorem dX5_addOrDrop_29 : decode cX5_addOrDrop 29 = .ok (.iadd, 1) := by decide +kernel
theorem dX5_addOrDrop_30 : decode cX5_addOrDrop 30 = .ok (.putfield 30, 3) := by decide +kernel
theorem dX5_addOrDrop_33 : decode cX5_addOrDrop 33 = .ok (.aload_n 0, 1) := by decide +kernel
theorem dX5_addOrDrop_34 : decode cX5_addOrDrop 34 = .ok (.dup, 1) := by decide +kernel
theorem dX5_addOrDrop_35 : decode cX5_addOrDrop 35 = .ok (.getfield 33, 3) := by decide +kernel
theorem dX5_addOrDrop_38 : decode cX5_addOrDrop 38 = .ok (.iload_n 3, 1) := by decide +kernel
theorem dX5_addOrDrop_39 : decode cX5_addOrDrop 39 = .ok (.aload_n 1, 1) := by decide +kernel
theorem dX5_addOrDrop_40 : decode cX5_addOrDrop 40 = .ok (.getfield 109, 3) := by decide +kernel
theorem dX5_addOrDrop_43 : decode cX5_addOrDrop 43 = .ok (.imul, 1) := by decide +kernel
theorem dX5_addOrDrop_44 : decode cX5_addOrDrop 44 = .ok (.iadd, 1) := by decide +kernel
theorem dX5_addOrDrop_45 : decode cX5_addOrDrop 45 = .ok (.putfield 33, 3) := by decide +kernel
theorem dX5_addOrDrop_48 : decode cX5_addOrDrop 48 = .ok (.aload_n 0, 1) := by decide +kernel
theorem dX5_addOrDrop_49 : decode cX5_addOrDrop 49 = .ok (.dup, 1) := by decide +kernel
theorem dX5_addOrDrop_50 : decode cX5_addOrDrop 50 = .ok (.getfield 36, 3) := by decide +kernel
theorem dX5_addOrDrop_53 : decode cX5_addOrDrop 53 = .ok (.iload_n 3, 1) := by decide +kernel
theorem dX5_addOrDrop_54 : decode cX5_addOrDrop 54 = .ok (.aload_n 1, 1) := by decide +kernel
theorem dX5_addOrDrop_55 : decode cX5_addOrDrop 55 = .ok (.invokevirtual 103, 3) := by decide +kernel
theorem dX5_addOrDrop_58 : decode cX5_addOrDrop 58 = .ok (.imul, 1) := by decide +kernel
theorem dX5_addOrDrop_59 : decode cX5_addOrDrop 59 = .ok (.iadd, 1) := by decide +kernel
theorem dX5_addOrDrop_60 : decode cX5_addOrDrop 60 = .ok (.putfield 36, 3) := by decide +kernel
theorem dX5_addOrDrop_63 : decode cX5_addOrDrop 63 = .ok (.return_, 1) := by decide +kernel
theorem dX6_init_0 : decode cX6_init 0 = .ok (.aload_n 0, 1) := by decide +kernel
theorem dX6_init_1 : decode cX6_init 1 = .ok (.invokespecial 1, 3) := by decide +kernel
theorem dX6_init_4 : decode cX6_init 4 = .ok (.return_, 1) := by decide +kernel
theorem dX6_fill_0 : decode cX6_fill 0 = .ok (.aload_n 0, 1) := by decide +kernel
theorem dX6_fill_1 : decode cX6_fill 1 = .ok (.iload_n 1, 1) := by decide +kernel
theorem dX6_fill_2 : decode cX6_fill 2 = .ok (.putfield 7, 3) := by decide +kernel
theorem dX6_fill_5 : decode cX6_fill 5 = .ok (.aload_n 0, 1) := by decide +kernel
theorem dX6_fill_6 : decode cX6_fill 6 = .ok (.iload_n 2, 1) := by decide +kernel
theorem dX6_fill_7 : decode cX6_fill 7 = .ok (.putfield 13, 3) := by decide +kernel
theorem dX6_fill_10 : decode cX6_fill 10 = .ok (.aload_n 0, 1) := by decide +kernel
theorem dX6_fill_11 : decode cX6_fill 11 = .ok (.iload 4, 2) := by decide +kernel
theorem dX6_fill_13 : decode cX6_fill 13 = .ok (.putfield 16, 3) := by decide +kernel
theorem dX6_fill_16 : decode cX6_fill 16 = .ok (.aload_n 0, 1) := by decide +kernel
theorem dX6_fill_17 : decode cX6_fill 17 = .ok (.iload 5, 2) := by decide +kernel
theorem dX6_fill_19 : decode cX6_fill 19 = .ok (.putfield 19, 3) := by decide +kernel
theorem dX6_fill_22 : decode cX6_fill 22 = .ok (.aload_n 0, 1) := by decide +kernel
theorem dX6_fill_23 : decode cX6_fill 23 = .ok (.aload_n 3, 1) := by decide +kernel
theorem dX6_fill_24 : decode cX6_fill 24 = .ok (.getfield 22, 3) := by decide +kernel
theorem dX6_fill_27 : decode cX6_fill 27 = .ok (.putfield 27, 3) := by decide +kernel
theorem dX6_fill_30 : decode cX6_fill 30 = .ok (.aload_n 0, 1) := by decide +kernel
theorem dX6_fill_31 : decode cX6_fill 31 = .ok (.aload_n 3, 1) := by decide +kernel
theorem dX6_fill_32 : decode cX6_fill 32 = .ok (.getfield 28, 3) := by decide +kernel
theorem dX6_fill_35 : decode cX6_fill 35 = .ok (.putfield 31, 3) := by decide +kernel
theorem dX6_fill_38 : decode cX6_fill 38 = .ok (.aload_n 0, 1) := by decide +kernel
theorem dX6_fill_39 : decode cX6_fill 39 = .ok (.aload_n 3, 1) := by decide +kernel
theorem dX6_fill_40 : decode cX6_fill 40 = .ok (.getfield 32, 3) := by decide +kernel
theorem dX6_fill_43 : decode cX6_fill 43 = .ok (.putfield 35, 3) := by decide +kernel
theorem dX6_fill_46 : decode cX6_fill 46 = .ok (.aload_n 0, 1) := by decide +kernel
theorem dX6_fill_47 : decode cX6_fill 47 = .ok (.aload_n 3, 1) := by decide +kernel
theorem dX6_fill_48 : decode cX6_fill 48 = .ok (.invokevirtual 36, 3) := by decide +kernel
theorem dX6_fill_51 : decode cX6_fill 51 = .ok (.putfield 40, 3) := by decide +kernel
theorem dX6_fill_54 : decode cX6_fill 54 = .ok (.aload_n 0, 1) := by decide +kernel
theorem dX6_fill_55 : decode cX6_fill 55 = .ok (.aload_n 3, 1) := by decide +kernel
theorem dX6_fill_56 : decode cX6_fill 56 = .ok (.getfield 42, 3) := by decide +kernel
theorem dX6_fill_59 : decode cX6_fill 59 = .ok (.putfield 46, 3) := by decide +kernel
theorem dX6_fill_62 : decode cX6_fill 62 = .ok (.return_, 1) := by decide +kernel
theorem dX6_isDoubtedWith_0 : decode cX6_isDoubtedWith 0 = .ok (.aload_n 0, 1) := by decide +kernel
theorem dX6_isDoubtedWith_1 : decode cX6_isDoubtedWith 1 = .ok (.getfield 31, 3) := by decide +kernel
theorem dX6_isDoubtedWith_4 : decode cX6_isDoubtedWith 4 = .ok (.aload_n 1, 1) := by decide +kernel
theorem dX6_isDoubtedWith_5 : decode cX6_isDoubtedWith 5 = .ok (.getfield 31, 3) := by decide +kernel
theorem dX6_isDoubtedWith_8 : decode cX6_isDoubtedWith 8 = .ok (.if_icmp .ne 21, 3) := by decide +kernel
theorem dX6_isDoubtedWith_11 : decode cX6_isDoubtedWith 11 = .ok (.aload_n 0, 1) := by decide +kernel
theorem dX6_isDoubtedWith_12 : decode cX6_isDoubtedWith 12 = .ok (.getfield 35, 3) := by decide +kernel
theorem dX6_isDoubtedWith_15 : decode cX6_isDoubtedWith 15 = .ok (.ifCond .eq 10, 3) := by decide +kernel
theorem dX6_isDoubtedWith_18 : decode cX6_isDoubtedWith 18 = .ok (.aload_n 1, 1) := by decide +kernel
theorem dX6_isDoubtedWith_19 : decode cX6_isDoubtedWith 19 = .ok (.getfield 35, 3) := by decide +kernel
theorem dX6_isDoubtedWith_22 : decode cX6_isDoubtedWith 22 = .ok (.ifCond .ne 7, 3) := by decide +kernel
theorem dX6_isDoubtedWith_25 : decode cX6_isDoubtedWith 25 = .ok (.iconst 1, 1) := by decide +kernel
theorem dX6_isDoubtedWith_26 : decode cX6_isDoubtedWith 26 = .ok (.goto 4, 3) := by decide +kernel
theorem dX6_isDoubtedWith_29 : decode cX6_isDoubtedWith 29 = .ok (.iconst 0, 1) := by decide +kernel
theorem dX6_isDoubtedWith_30 : decode cX6_isDoubtedWith 30 = .ok (.ireturn, 1) := by decide +kernel
theorem dX7_init_0 : decode cX7_init 0 = .ok (.aload_n 0, 1) := by decide +kernel
theorem dX7_init_1 : decode cX7_init 1 = .ok (.invokespecial 1, 3) := by decide +kernel
theorem dX7_init_4 : decode cX7_init 4 = .ok (.aload_n 0, 1) := by decide +kernel
theorem dX7_init_5 : decode cX7_init 5 = .ok (.iload_n 1, 1) := by decide +kernel
theorem dX7_init_6 : decode cX7_init 6 = .ok (.putfield 7, 3) := by decide +kernel
theorem dX7_init_9 : decode cX7_init 9 = .ok (.aload_n 0, 1) := by decide +kernel
theorem dX7_init_10 : decode cX7_init 10 = .ok (.iload_n 2, 1) := by decide +kernel
theorem dX7_init_11 : decode cX7_init 11 = .ok (.putfield 13, 3) := by decide +kernel
theorem dX7_init_14 : decode cX7_init 14 = .ok (.return_, 1) := by decide +kernel
theorem dX7_outranks_0 : decode cX7_outranks 0 = .ok (.aload_n 0, 1) := by decide +kernel
theorem dX7_outranks_1 : decode cX7_outranks 1 = .ok (.getfield 13, 3) := by decide +kernel
theorem dX7_outranks_4 : decode cX7_outranks 4 = .ok (.aload_n 1, 1) := by decide +kernel
theorem dX7_outranks_5 : decode cX7_outranks 5 = .ok (.getfield 13, 3) := by decide +kernel
theorem dX7_outranks_8 : decode cX7_outranks 8 = .ok (.if_icmp .eq 20, 3) := by decide +kernel
theorem dX7_outranks_11 : decode cX7_outranks 11 = .ok (.aload_n 0, 1) := by decide +kernel
theorem dX7_outranks_12 : decode cX7_outranks 12 = .ok (.getfield 13, 3) := by decide +kernel
theorem dX7_outranks_15 : decode cX7_outranks 15 = .ok (.aload_n 1, 1) := by decide +kernel
theorem dX7_outranks_16 : decode cX7_outranks 16 = .ok (.getfield 13, 3) := by decide +kernel
theorem dX7_outranks_19 : decode cX7_outranks 19 = .ok (.if_icmp .le 7, 3) := by decide +kernel
theorem dX7_outranks_22 : decode cX7_outranks 22 = .ok (.iconst 1, 1) := by decide +kernel
theorem dX7_outranks_23 : decode cX7_outranks 23 = .ok (.goto 4, 3) := by decide +kernel
theorem dX7_outranks_26 : decode cX7_outranks 26 = .ok (.iconst 0, 1) := by decide +kernel
theorem dX7_outranks_27 : decode cX7_outranks 27 = .ok (.ireturn, 1) := by decide +kernel
theorem dX7_outranks_28 : decode cX7_outranks 28 = .ok (.aload_n 0, 1) := by decide +kernel
theorem dX7_outranks_29 : decode cX7_outranks 29 = .ok (.getfield 7, 3) := by decide +kernel
theorem dX7_outranks_32 : decode cX7_outranks 32 = .ok (.aload_n 1, 1) := by decide +kernel
theorem dX7_outranks_33 : decode cX7_outranks 33 = .ok (.getfield 7, 3) := by decide +kernel
theorem dX7_outranks_36 : decode cX7_outranks 36 = .ok (.if_icmp .ge 7, 3) := by decide +kernel
theorem dX7_outranks_39 : decode cX7_outranks 39 = .ok (.iconst 1, 1) := by decide +kernel
theorem dX7_outranks_40 : decode cX7_outranks 40 = .ok (.goto 4, 3) := by decide +kernel
theorem dX7_outranks_43 : decode cX7_outranks 43 = .ok (.iconst 0, 1) := by decide +kernel
theorem dX7_outranks_44 : decode cX7_outranks 44 = .ok (.ireturn, 1) := by decide +kernel
theorem dX8_init_0 : decode cX8_init 0 = .ok (.aload_n 0, 1) := by decide +kernel
theorem dX8_init_1 : decode cX8_init 1 = .ok (.invokespecial 3, 3) := by decide +kernel
theorem dX8_init_4 : decode cX8_init 4 = .ok (.aload_n 0, 1) := by decide +kernel
theorem dX8_init_5 : decode cX8_init 5 = .ok (.iconst 0, 1) := by decide +kernel
theorem dX8_init_6 : decode cX8_init 6 = .ok (.putfield 9, 3) := by decide +kernel
theorem dX8_init_9 : decode cX8_init 9 = .ok (.aload_n 0, 1) := by decide +kernel
theorem dX8_init_10 : decode cX8_init 10 = .ok (.iconst 0, 1) := by decide +kernel
theorem dX8_init_11 : decode cX8_init 11 = .ok (.putfield 15, 3) := by decide +kernel
theorem dX8_init_14 : decode cX8_init 14 = .ok (.aload_n 0, 1) := by decide +kernel
theorem dX8_init_15 : decode cX8_init 15 = .ok (.iconst 0, 1) := by decide +kernel
theorem dX8_init_16 : decode cX8_init 16 = .ok (.putfield 18, 3) := by decide +kernel
theorem dX8_init_19 : decode cX8_init 19 = .ok (.aload_n 0, 1) := by decide +kernel
theorem dX8_init_20 : decode cX8_init 20 = .ok (.iconst 0, 1) := by decide +kernel
theorem dX8_init_21 : decode cX8_init 21 = .ok (.putfield 21, 3) := by decide +kernel
theorem dX8_init_24 : decode cX8_init 24 = .ok (.aload_n 0, 1) := by decide +kernel
theorem dX8_init_25 : decode cX8_init 25 = .ok (.iconst 0, 1) := by decide +kernel
theorem dX8_init_26 : decode cX8_init 26 = .ok (.putfield 24, 3) := by decide +kernel
theorem dX8_init_29 : decode cX8_init 29 = .ok (.aload_n 0, 1) := by decide +kernel
theorem dX8_init_30 : decode cX8_init 30 = .ok (.sipush 2000, 3) := by decide +kernel
theorem dX8_init_33 : decode cX8_init 33 = .ok (.newarray .byte, 2) := by decide +kernel
theorem dX8_init_35 : decode cX8_init 35 = .ok (.putfield 27, 3) := by decide +kernel
theorem dX8_init_38 : decode cX8_init 38 = .ok (.return_, 1) := by decide +kernel
theorem dX8_append_0 : decode cX8_append 0 = .ok (.bipush 24, 2) := by decide +kernel
theorem dX8_append_2 : decode cX8_append 2 = .ok (.istore_n 2, 1) := by decide +kernel
theorem dX8_append_3 : decode cX8_append 3 = .ok (.iload_n 2, 1) := by decide +kernel
theorem dX8_append_4 : decode cX8_append 4 = .ok (.ifCond .lt 44, 3) := by decide +kernel
theorem dX8_append_7 : decode cX8_append 7 = .ok (.aload_n 0, 1) := by decide +kernel
theorem dX8_append_8 : decode cX8_append 8 = .ok (.getfield 9, 3) := by decide +kernel
theorem dX8_append_11 : decode cX8_append 11 = .ok (.aload_n 0, 1) := by decide +kernel
theorem dX8_append_12 : decode cX8_append 12 = .ok (.getfield 27, 3) := by decide +kernel
theorem dX8_append_15 : decode cX8_append 15 = .ok (.arraylength, 1) := by decide +kernel
theorem dX8_append_16 : decode cX8_append 16 = .ok (.if_icmp .ge 32, 3) := by decide +kernel
theorem dX8_append_19 : decode cX8_append 19 = .ok (.aload_n 0, 1) := by decide +kernel
theorem dX8_append_20 : decode cX8_append 20 = .ok (.getfield 27, 3) := by decide +kernel
theorem dX8_append_23 : decode cX8_append 23 = .ok (.aload_n 0, 1) := by decide +kernel
theorem dX8_append_24 : decode cX8_append 24 = .ok (.getfield 9, 3) := by decide +kernel
theorem dX8_append_27 : decode cX8_append 27 = .ok (.iload_n 1, 1) := by decide +kernel
theorem dX8_append_28 : decode cX8_append 28 = .ok (.iload_n 2, 1) := by decide +kernel
theorem dX8_append_29 : decode cX8_append 29 = .ok (.ishr, 1) := by decide +kernel
theorem dX8_append_30 : decode cX8_append 30 = .ok (.i2b, 1) := by decide +kernel
theorem dX8_append_31 : decode cX8_append 31 = .ok (.bastore, 1) := by decide +kernel
theorem dX8_append_32 : decode cX8_append 32 = .ok (.aload_n 0, 1) := by decide +kernel
theorem dX8_append_33 : decode cX8_append 33 = .ok (.dup, 1) := by decide +kernel
theorem dX8_append_34 : decode cX8_append 34 = .ok (.getfield 9, 3) := by decide +kernel
theorem dX8_append_37 : decode cX8_append 37 = .ok (.iconst 1, 1) := by decide +kernel
theorem dX8_append_38 : decode cX8_append 38 = .ok (.iadd, 1) := by decide +kernel
theorem dX8_append_39 : decode cX8_append 39 = .ok (.putfield 9, 3) := by decide +kernel
theorem dX8_append_42 : decode cX8_append 42 = .ok (.iinc 2 (-8), 3) := by decide +kernel
theorem dX8_append_45 : decode cX8_append 45 = .ok (.goto (-42), 3) := by decide +kernel
theorem dX8_append_48 : decode cX8_append 48 = .ok (.return_, 1) := by decide +kernel
theorem dX8_rewind_0 : decode cX8_rewind 0 = .ok (.aload_n 0, 1) := by decide +kernel
theorem dX8_rewind_1 : decode cX8_rewind 1 = .ok (.iconst 0, 1) := by decide +kernel
theorem dX8_rewind_2 : decode cX8_rewind 2 = .ok (.putfield 24, 3) := by decide +kernel
theorem dX8_rewind_5 : decode cX8_rewind 5 = .ok (.return_, 1) := by decide +kernel
theorem dX8_advance_0 : decode cX8_advance 0 = .ok (.aload_n 0, 1) := by decide +kernel
theorem dX8_advance_1 : decode cX8_advance 1 = .ok (.aload_n 0, 1) := by decide +kernel
theorem dX8_advance_2 : decode cX8_advance 2 = .ok (.getfield 24, 3) := by decide +kernel
theorem dX8_advance_5 : decode cX8_advance 5 = .ok (.putfield 21, 3) := by decide +kernel
theorem dX8_advance_8 : decode cX8_advance 8 = .ok (.aload_n 0, 1) := by decide +kernel
theorem dX8_advance_9 : decode cX8_advance 9 = .ok (.getfield 21, 3) := by decide +kernel
theorem dX8_advance_12 : decode cX8_advance 12 = .ok (.aload_n 0, 1) := by decide +kernel
theorem dX8_advance_13 : decode cX8_advance 13 = .ok (.getfield 9, 3) := by decide +kernel
theorem dX8_advance_16 : decode cX8_advance 16 = .ok (.if_icmp .ge 30, 3) := by decide +kernel
theorem dX8_advance_19 : decode cX8_advance 19 = .ok (.aload_n 0, 1) := by decide +kernel
theorem dX8_advance_20 : decode cX8_advance 20 = .ok (.aload_n 0, 1) := by decide +kernel
theorem dX8_advance_21 : decode cX8_advance 21 = .ok (.getfield 21, 3) := by decide +kernel
theorem dX8_advance_24 : decode cX8_advance 24 = .ok (.invokevirtual 31, 3) := by decide +kernel
theorem dX8_advance_27 : decode cX8_advance 27 = .ok (.invokestatic 35, 3) := by decide +kernel
theorem dX8_advance_30 : decode cX8_advance 30 = .ok (.ifCond .eq 16, 3) := by decide +kernel
theorem dX8_advance_33 : decode cX8_advance 33 = .ok (.aload_n 0, 1) := by decide +kernel
theorem dX8_advance_34 : decode cX8_advance 34 = .ok (.dup, 1) := by decide +kernel
theorem dX8_advance_35 : decode cX8_advance 35 = .ok (.getfield 21, 3) := by decide +kernel
theorem dX8_advance_38 : decode cX8_advance 38 = .ok (.iconst 1, 1) := by decide +kernel
theorem dX8_advance_39 : decode cX8_advance 39 = .ok (.iadd, 1) := by decide +kernel
theorem dX8_advance_40 : decode cX8_advance 40 = .ok (.putfield 21, 3) := by decide +kernel
theorem dX8_advance_43 : decode cX8_advance 43 = .ok (.goto (-35), 3) := by decide +kernel
theorem dX8_advance_46 : decode cX8_advance 46 = .ok (.aload_n 0, 1) := by decide +kernel
theorem dX8_advance_47 : decode cX8_advance 47 = .ok (.getfield 21, 3) := by decide +kernel
theorem dX8_advance_50 : decode cX8_advance 50 = .ok (.aload_n 0, 1) := by decide +kernel
theorem dX8_advance_51 : decode cX8_advance 51 = .ok (.getfield 9, 3) := by decide +kernel
theorem dX8_advance_54 : decode cX8_advance 54 = .ok (.if_icmp .lt 5, 3) := by decide +kernel
theorem dX8_advance_57 : decode cX8_advance 57 = .ok (.iconst 0, 1) := by decide +kernel
theorem dX8_advance_58 : decode cX8_advance 58 = .ok (.ireturn, 1) := by decide +kernel
theorem dX8_advance_59 : decode cX8_advance 59 = .ok (.aload_n 0, 1) := by decide +kernel
theorem dX8_advance_60 : decode cX8_advance 60 = .ok (.aload_n 0, 1) := by decide +kernel
theorem dX8_advance_61 : decode cX8_advance 61 = .ok (.getfield 21, 3) := by decide +kernel
theorem dX8_advance_64 : decode cX8_advance 64 = .ok (.invokevirtual 31, 3) := by decide +kernel
theorem dX8_advance_67 : decode cX8_advance 67 = .ok (.istore_n 1, 1) := by decide +kernel
theorem dX8_advance_68 : decode cX8_advance 68 = .ok (.iload_n 1, 1) := by decide +kernel
theorem dX8_advance_69 : decode cX8_advance 69 = .ok (.invokestatic 39, 3) := by decide +kernel
theorem dX8_advance_72 : decode cX8_advance 72 = .ok (.ifCond .eq 10, 3) := by decide +kernel
theorem dX8_advance_75 : decode cX8_advance 75 = .ok (.aload_n 0, 1) := by decide +kernel
theorem dX8_advance_76 : decode cX8_advance 76 = .ok (.invokevirtual 42, 3) := by decide +kernel
theorem dX8_advance_79 : decode cX8_advance 79 = .ok (.goto 22, 3) := by decide +kernel
theorem dX8_advance_82 : decode cX8_advance 82 = .ok (.iload_n 1, 1) := by decide +kernel
theorem dX8_advance_83 : decode cX8_advance 83 = .ok (.invokestatic 45, 3) := by decide +kernel
theorem dX8_advance_86 : decode cX8_advance 86 = .ok (.ifCond .eq 10, 3) := by decide +kernel
theorem dX8_advance_89 : decode cX8_advance 89 = .ok (.aload_n 0, 1) := by decide +kernel
theorem dX8_advance_90 : decode cX8_advance 90 = .ok (.invokevirtual 48, 3) := by decide +kernel
theorem dX8_advance_93 : decode cX8_advance 93 = .ok (.goto 8, 3) := by decide +kernel
theorem dX8_advance_96 : decode cX8_advance 96 = .ok (.aload_n 0, 1) := by decide +kernel
theorem dX8_advance_97 : decode cX8_advance 97 = .ok (.iload_n 1, 1) := by decide +kernel
theorem dX8_advance_98 : decode cX8_advance 98 = .ok (.invokevirtual 51, 3) := by decide +kernel
theorem dX8_advance_101 : decode cX8_advance 101 = .ok (.iconst 1, 1) := by decide +kernel
theorem dX8_advance_102 : decode cX8_advance 102 = .ok (.ireturn, 1) := by decide +kernel
theorem dX8_scanWord_0 : decode cX8_scanWord 0 = .ok (.aload_n 0, 1) := by decide +kernel
theorem dX8_scanWord_1 : decode cX8_scanWord 1 = .ok (.aload_n 0, 1) := by decide +kernel
theorem dX8_scanWord_2 : decode cX8_scanWord 2 = .ok (.getfield 21, 3) := by decide +kernel
theorem dX8_scanWord_5 : decode cX8_scanWord 5 = .ok (.iconst 1, 1) := by decide +kernel
theorem dX8_scanWord_6 : decode cX8_scanWord 6 = .ok (.iadd, 1) := by decide +kernel
theorem dX8_scanWord_7 : decode cX8_scanWord 7 = .ok (.putfield 24, 3) := by decide +kernel
theorem dX8_scanWord_10 : decode cX8_scanWord 10 = .ok (.aload_n 0, 1) := by decide +kernel
theorem dX8_scanWord_11 : decode cX8_scanWord 11 = .ok (.getfield 24, 3) := by decide +kernel
theorem dX8_scanWord_14 : decode cX8_scanWord 14 = .ok (.aload_n 0, 1) := by decide +kernel
theorem dX8_scanWord_15 : decode cX8_scanWord 15 = .ok (.getfield 9, 3) := by decide +kernel
theorem dX8_scanWord_18 : decode cX8_scanWord 18 = .ok (.if_icmp .ge 30, 3) := by decide +kernel
theorem dX8_scanWord_21 : decode cX8_scanWord 21 = .ok (.aload_n 0, 1) := by decide +kernel
theorem dX8_scanWord_22 : decode cX8_scanWord 22 = .ok (.aload_n 0, 1) := by decide +kernel
theorem dX8_scanWord_23 : decode cX8_scanWord 23 = .ok (.getfield 24, 3) := by decide +kernel
theorem dX8_scanWord_26 : decode cX8_scanWord 26 = .ok (.invokevirtual 31, 3) := by decide +kernel
theorem dX8_scanWord_29 : decode cX8_scanWord 29 = .ok (.invokestatic 39, 3) := by decide +kernel
theorem dX8_scanWord_32 : decode cX8_scanWord 32 = .ok (.ifCond .eq 16, 3) := by decide +kernel
theorem dX8_scanWord_35 : decode cX8_scanWord 35 = .ok (.aload_n 0, 1) := by decide +kernel
theorem dX8_scanWord_36 : decode cX8_scanWord 36 = .ok (.dup, 1) := by decide +kernel
theorem dX8_scanWord_37 : decode cX8_scanWord 37 = .ok (.getfield 24, 3) := by decide +kernel
theorem dX8_scanWord_40 : decode cX8_scanWord 40 = .ok (.iconst 1, 1) := by decide +kernel
theorem dX8_scanWord_41 : decode cX8_scanWord 41 = .ok (.iadd, 1) := by decide +kernel
theorem dX8_scanWord_42 : decode cX8_scanWord 42 = .ok (.putfield 24, 3) := by decide +kernel
theorem dX8_scanWord_45 : decode cX8_scanWord 45 = .ok (.goto (-35), 3) := by decide +kernel
theorem dX8_scanWord_48 : decode cX8_scanWord 48 = .ok (.aload_n 0, 1) := by decide +kernel
theorem dX8_scanWord_49 : decode cX8_scanWord 49 = .ok (.aload_n 0, 1) := by decide +kernel
theorem dX8_scanWord_50 : decode cX8_scanWord 50 = .ok (.getfield 24, 3) := by decide +kernel
theorem dX8_scanWord_53 : decode cX8_scanWord 53 = .ok (.aload_n 0, 1) := by decide +kernel
theorem dX8_scanWord_54 : decode cX8_scanWord 54 = .ok (.getfield 21, 3) := by decide +kernel
theorem dX8_scanWord_57 : decode cX8_scanWord 57 = .ok (.isub, 1) := by decide +kernel
theorem dX8_scanWord_58 : decode cX8_scanWord 58 = .ok (.bipush 8, 2) := by decide +kernel
theorem dX8_scanWord_60 : decode cX8_scanWord 60 = .ok (.if_icmp .le 7, 3) := by decide +kernel
theorem dX8_scanWord_63 : decode cX8_scanWord 63 = .ok (.iconst 0, 1) := by decide +kernel
theorem dX8_scanWord_64 : decode cX8_scanWord 64 = .ok (.goto 7, 3) := by decide +kernel
theorem dX8_scanWord_67 : decode cX8_scanWord 67 = .ok (.aload_n 0, 1) := by decide +kernel
theorem dX8_scanWord_68 : decode cX8_scanWord 68 = .ok (.invokevirtual 55, 3) := by decide +kernel
theorem dX8_scanWord_71 : decode cX8_scanWord 71 = .ok (.putfield 15, 3) := by decide +kernel
theorem dX8_scanWord_74 : decode cX8_scanWord 74 = .ok (.return_, 1) := by decide +kernel
theorem dX8_scanInt_0 : decode cX8_scanInt 0 = .ok (.aload_n 0, 1) := by decide +kernel
theorem dX8_scanInt_1 : decode cX8_scanInt 1 = .ok (.iconst 0, 1) := by decide +kernel
theorem dX8_scanInt_2 : decode cX8_scanInt 2 = .ok (.putfield 18, 3) := by decide +kernel
theorem dX8_scanInt_5 : decode cX8_scanInt 5 = .ok (.aload_n 0, 1) := by decide +kernel
theorem dX8_scanInt_6 : decode cX8_scanInt 6 = .ok (.aload_n 0, 1) := by decide +kernel
theorem dX8_scanInt_7 : decode cX8_scanInt 7 = .ok (.getfield 21, 3) := by decide +kernel
theorem dX8_scanInt_10 : decode cX8_scanInt 10 = .ok (.putfield 24, 3) := by decide +kernel
theorem dX8_scanInt_13 : decode cX8_scanInt 13 = .ok (.aload_n 0, 1) := by decide +kernel
theorem dX8_scanInt_14 : decode cX8_scanInt 14 = .ok (.getfield 24, 3) := by decide +kernel
theorem dX8_scanInt_17 : decode cX8_scanInt 17 = .ok (.aload_n 0, 1) := by decide +kernel
theorem dX8_scanInt_18 : decode cX8_scanInt 18 = .ok (.getfield 9, 3) := by decide +kernel
theorem dX8_scanInt_21 : decode cX8_scanInt 21 = .ok (.if_icmp .ge 53, 3) := by decide +kernel
theorem dX8_scanInt_24 : decode cX8_scanInt 24 = .ok (.aload_n 0, 1) := by decide +kernel
theorem dX8_scanInt_25 : decode cX8_scanInt 25 = .ok (.aload_n 0, 1) := by decide +kernel
theorem dX8_scanInt_26 : decode cX8_scanInt 26 = .ok (.getfield 24, 3) := by decide +kernel
theorem dX8_scanInt_29 : decode cX8_scanInt 29 = .ok (.invokevirtual 31, 3) := by decide +kernel
theorem dX8_scanInt_32 : decode cX8_scanInt 32 = .ok (.invokestatic 45, 3) := by decide +kernel
theorem dX8_scanInt_35 : decode cX8_scanInt 35 = .ok (.ifCond .eq 39, 3) := by decide +kernel
theorem dX8_scanInt_38 : decode cX8_scanInt 38 = .ok (.aload_n 0, 1) := by decide +kernel
theorem dX8_scanInt_39 : decode cX8_scanInt 39 = .ok (.aload_n 0, 1) := by decide +kernel
theorem dX8_scanInt_40 : decode cX8_scanInt 40 = .ok (.getfield 18, 3) := by decide +kernel
theorem dX8_scanInt_43 : decode cX8_scanInt 43 = .ok (.bipush 10, 2) := by decide +kernel
theorem dX8_scanInt_45 : decode cX8_scanInt 45 = .ok (.imul, 1) := by decide +kernel
theorem dX8_scanInt_46 : decode cX8_scanInt 46 = .ok (.aload_n 0, 1) := by decide +kernel
theorem dX8_scanInt_47 : decode cX8_scanInt 47 = .ok (.aload_n 0, 1) := by decide +kernel
theorem dX8_scanInt_48 : decode cX8_scanInt 48 = .ok (.getfield 24, 3) := by decide +kernel
theorem dX8_scanInt_51 : decode cX8_scanInt 51 = .ok (.invokevirtual 31, 3) := by decide +kernel
theorem dX8_scanInt_54 : decode cX8_scanInt 54 = .ok (.iadd, 1) := by decide +kernel
theorem dX8_scanInt_55 : decode cX8_scanInt 55 = .ok (.bipush 48, 2) := by decide +kernel
theorem dX8_scanInt_57 : decode cX8_scanInt 57 = .ok (.isub, 1) := by decide +kernel
theorem dX8_scanInt_58 : decode cX8_scanInt 58 = .ok (.putfield 18, 3) := by decide +kernel
theorem dX8_scanInt_61 : decode cX8_scanInt 61 = .ok (.aload_n 0, 1) := by decide +kernel
theorem dX8_scanInt_62 : decode cX8_scanInt 62 = .ok (.dup, 1) := by decide +kernel
theorem dX8_scanInt_63 : decode cX8_scanInt 63 = .ok (.getfield 24, 3) := by decide +kernel
theorem dX8_scanInt_66 : decode cX8_scanInt 66 = .ok (.iconst 1, 1) := by decide +kernel
theorem dX8_scanInt_67 : decode cX8_scanInt 67 = .ok (.iadd, 1) := by decide +kernel
theorem dX8_scanInt_68 : decode cX8_scanInt 68 = .ok (.putfield 24, 3) := by decide +kernel
theorem dX8_scanInt_71 : decode cX8_scanInt 71 = .ok (.goto (-58), 3) := by decide +kernel
theorem dX8_scanInt_74 : decode cX8_scanInt 74 = .ok (.aload_n 0, 1) := by decide +kernel
theorem dX8_scanInt_75 : decode cX8_scanInt 75 = .ok (.aload_n 0, 1) := by decide +kernel
theorem dX8_scanInt_76 : decode cX8_scanInt 76 = .ok (.getfield 24, 3) := by decide +kernel
theorem dX8_scanInt_79 : decode cX8_scanInt 79 = .ok (.aload_n 0, 1) := by decide +kernel
theorem dX8_scanInt_80 : decode cX8_scanInt 80 = .ok (.getfield 21, 3) := by decide +kernel
theorem dX8_scanInt_83 : decode cX8_scanInt 83 = .ok (.isub, 1) := by decide +kernel
theorem dX8_scanInt_84 : decode cX8_scanInt 84 = .ok (.iconst 4, 1) := by decide +kernel
theorem dX8_scanInt_85 : decode cX8_scanInt 85 = .ok (.if_icmp .le 7, 3) := by decide +kernel
theorem dX8_scanInt_88 : decode cX8_scanInt 88 = .ok (.iconst 0, 1) := by decide +kernel
theorem dX8_scanInt_89 : decode cX8_scanInt 89 = .ok (.goto 4, 3) := by decide +kernel
theorem dX8_scanInt_92 : decode cX8_scanInt 92 = .ok (.iconst 1, 1) := by decide +kernel
theorem dX8_scanInt_93 : decode cX8_scanInt 93 = .ok (.putfield 15, 3) := by decide +kernel
theorem dX8_scanInt_96 : decode cX8_scanInt 96 = .ok (.return_, 1) := by decide +kernel
theorem dX8_scanSign_0 : decode cX8_scanSign 0 = .ok (.aload_n 0, 1) := by decide +kernel
theorem dX8_scanSign_1 : decode cX8_scanSign 1 = .ok (.aload_n 0, 1) := by decide +kernel
theorem dX8_scanSign_2 : decode cX8_scanSign 2 = .ok (.getfield 21, 3) := by decide +kernel
theorem dX8_scanSign_5 : decode cX8_scanSign 5 = .ok (.iconst 1, 1) := by decide +kernel
theorem dX8_scanSign_6 : decode cX8_scanSign 6 = .ok (.iadd, 1) := by decide +kernel
theorem dX8_scanSign_7 : decode cX8_scanSign 7 = .ok (.invokevirtual 31, 3) := by decide +kernel
theorem dX8_scanSign_10 : decode cX8_scanSign 10 = .ok (.bipush 61, 2) := by decide +kernel
theorem dX8_scanSign_12 : decode cX8_scanSign 12 = .ok (.if_icmp .ne 7, 3) := by decide +kernel
theorem dX8_scanSign_15 : decode cX8_scanSign 15 = .ok (.iconst 1, 1) := by decide +kernel
theorem dX8_scanSign_16 : decode cX8_scanSign 16 = .ok (.goto 4, 3) := by decide +kernel
theorem dX8_scanSign_19 : decode cX8_scanSign 19 = .ok (.iconst 0, 1) := by decide +kernel
theorem dX8_scanSign_20 : decode cX8_scanSign 20 = .ok (.istore_n 2, 1) := by decide +kernel
theorem dX8_scanSign_21 : decode cX8_scanSign 21 = .ok (.aload_n 0, 1) := by decide +kernel
theorem dX8_scanSign_22 : decode cX8_scanSign 22 = .ok (.iload_n 2, 1) := by decide +kernel
theorem dX8_scanSign_23 : decode cX8_scanSign 23 = .ok (.ifCond .eq 10, 3) := by decide +kernel
theorem dX8_scanSign_26 : decode cX8_scanSign 26 = .ok (.iload_n 1, 1) := by decide +kernel
theorem dX8_scanSign_27 : decode cX8_scanSign 27 = .ok (.invokestatic 59, 3) := by decide +kernel
theorem dX8_scanSign_30 : decode cX8_scanSign 30 = .ok (.goto 4, 3) := by decide +kernel
theorem dX8_scanSign_33 : decode cX8_scanSign 33 = .ok (.iconst 0, 1) := by decide +kernel
theorem dX8_scanSign_34 : decode cX8_scanSign 34 = .ok (.putfield 15, 3) := by decide +kernel
theorem dX8_scanSign_37 : decode cX8_scanSign 37 = .ok (.aload_n 0, 1) := by decide +kernel
theorem dX8_scanSign_38 : decode cX8_scanSign 38 = .ok (.aload_n 0, 1) := by decide +kernel
theorem dX8_scanSign_39 : decode cX8_scanSign 39 = .ok (.getfield 21, 3) := by decide +kernel
theorem dX8_scanSign_42 : decode cX8_scanSign 42 = .ok (.iconst 2, 1) := by decide +kernel
theorem dX8_scanSign_43 : decode cX8_scanSign 43 = .ok (.iadd, 1) := by decide +kernel
theorem dX8_scanSign_44 : decode cX8_scanSign 44 = .ok (.putfield 24, 3) := by decide +kernel
theorem dX8_scanSign_47 : decode cX8_scanSign 47 = .ok (.aload_n 0, 1) := by decide +kernel
theorem dX8_scanSign_48 : decode cX8_scanSign 48 = .ok (.getfield 15, 3) := by decide +kernel
theorem dX8_scanSign_51 : decode cX8_scanSign 51 = .ok (.ifCond .ne 21, 3) := by decide +kernel
theorem dX8_scanSign_54 : decode cX8_scanSign 54 = .ok (.aload_n 0, 1) := by decide +kernel
theorem dX8_scanSign_55 : decode cX8_scanSign 55 = .ok (.iload_n 1, 1) := by decide +kernel
theorem dX8_scanSign_56 : decode cX8_scanSign 56 = .ok (.invokestatic 62, 3) := by decide +kernel
theorem dX8_scanSign_59 : decode cX8_scanSign 59 = .ok (.putfield 15, 3) := by decide +kernel
theorem dX8_scanSign_62 : decode cX8_scanSign 62 = .ok (.aload_n 0, 1) := by decide +kernel
theorem dX8_scanSign_63 : decode cX8_scanSign 63 = .ok (.aload_n 0, 1) := by decide +kernel
theorem dX8_scanSign_64 : decode cX8_scanSign 64 = .ok (.getfield 21, 3) := by decide +kernel
theorem dX8_scanSign_67 : decode cX8_scanSign 67 = .ok (.iconst 1, 1) := by decide +kernel
theorem dX8_scanSign_68 : decode cX8_scanSign 68 = .ok (.iadd, 1) := by decide +kernel
theorem dX8_scanSign_69 : decode cX8_scanSign 69 = .ok (.putfield 24, 3) := by decide +kernel
theorem dX8_scanSign_72 : decode cX8_scanSign 72 = .ok (.return_, 1) := by decide +kernel
theorem dX8_byteAt_0 : decode cX8_byteAt 0 = .ok (.iload_n 1, 1) := by decide +kernel
theorem dX8_byteAt_1 : decode cX8_byteAt 1 = .ok (.ifCond .lt 29, 3) := by decide +kernel
theorem dX8_byteAt_4 : decode cX8_byteAt 4 = .ok (.iload_n 1, 1) := by decide +kernel
theorem dX8_byteAt_5 : decode cX8_byteAt 5 = .ok (.aload_n 0, 1) := by decide +kernel
theorem dX8_byteAt_6 : decode cX8_byteAt 6 = .ok (.getfield 9, 3) := by decide +kernel
theorem dX8_byteAt_9 : decode cX8_byteAt 9 = .ok (.if_icmp .ge 21, 3) := by decide +kernel
theorem dX8_byteAt_12 : decode cX8_byteAt 12 = .ok (.iload_n 1, 1) := by decide +kernel
theorem dX8_byteAt_13 : decode cX8_byteAt 13 = .ok (.aload_n 0, 1) := by decide +kernel
theorem dX8_byteAt_14 : decode cX8_byteAt 14 = .ok (.getfield 27, 3) := by decide +kernel
theorem dX8_byteAt_17 : decode cX8_byteAt 17 = .ok (.arraylength, 1) := by decide +kernel
theorem dX8_byteAt_18 : decode cX8_byteAt 18 = .ok (.if_icmp .ge 12, 3) := by decide +kernel
theorem dX8_byteAt_21 : decode cX8_byteAt 21 = .ok (.aload_n 0, 1) := by decide +kernel
theorem dX8_byteAt_22 : decode cX8_byteAt 22 = .ok (.getfield 27, 3) := by decide +kernel
theorem dX8_byteAt_25 : decode cX8_byteAt 25 = .ok (.iload_n 1, 1) := by decide +kernel
theorem dX8_byteAt_26 : decode cX8_byteAt 26 = .ok (.baload, 1) := by decide +kernel
theorem dX8_byteAt_27 : decode cX8_byteAt 27 = .ok (.goto 4, 3) := by decide +kernel
theorem dX8_byteAt_30 : decode cX8_byteAt 30 = .ok (.iconst 0, 1) := by decide +kernel
theorem dX8_byteAt_31 : decode cX8_byteAt 31 = .ok (.ireturn, 1) := by decide +kernel
theorem dX8_isBlank_0 : decode cX8_isBlank 0 = .ok (.iload_n 0, 1) := by decide +kernel
theorem dX8_isBlank_1 : decode cX8_isBlank 1 = .ok (.bipush 9, 2) := by decide +kernel
theorem dX8_isBlank_3 : decode cX8_isBlank 3 = .ok (.if_icmp .eq 21, 3) := by decide +kernel
theorem dX8_isBlank_6 : decode cX8_isBlank 6 = .ok (.iload_n 0, 1) := by decide +kernel
theorem dX8_isBlank_7 : decode cX8_isBlank 7 = .ok (.bipush 10, 2) := by decide +kernel
theorem dX8_isBlank_9 : decode cX8_isBlank 9 = .ok (.if_icmp .eq 15, 3) := by decide +kernel
theorem dX8_isBlank_12 : decode cX8_isBlank 12 = .ok (.iload_n 0, 1) := by decide +kernel
theorem dX8_isBlank_13 : decode cX8_isBlank 13 = .ok (.bipush 13, 2) := by decide +kernel
theorem dX8_isBlank_15 : decode cX8_isBlank 15 = .ok (.if_icmp .eq 9, 3) := by decide +kernel
theorem dX8_isBlank_18 : decode cX8_isBlank 18 = .ok (.iload_n 0, 1) := by decide +kernel
theorem dX8_isBlank_19 : decode cX8_isBlank 19 = .ok (.bipush 32, 2) := by decide +kernel
theorem dX8_isBlank_21 : decode cX8_isBlank 21 = .ok (.if_icmp .ne 7, 3) := by decide +kernel
theorem dX8_isBlank_24 : decode cX8_isBlank 24 = .ok (.iconst 1, 1) := by decide +kernel
theorem dX8_isBlank_25 : decode cX8_isBlank 25 = .ok (.goto 4, 3) := by decide +kernel
theorem dX8_isBlank_28 : decode cX8_isBlank 28 = .ok (.iconst 0, 1) := by decide +kernel
theorem dX8_isBlank_29 : decode cX8_isBlank 29 = .ok (.ireturn, 1) := by decide +kernel
theorem dX8_isLetter_0 : decode cX8_isLetter 0 = .ok (.iload_n 0, 1) := by decide +kernel
theorem dX8_isLetter_1 : decode cX8_isLetter 1 = .ok (.bipush 97, 2) := by decide +kernel
theorem dX8_isLetter_3 : decode cX8_isLetter 3 = .ok (.if_icmp .lt 13, 3) := by decide +kernel
theorem dX8_isLetter_6 : decode cX8_isLetter 6 = .ok (.iload_n 0, 1) := by decide +kernel
theorem dX8_isLetter_7 : decode cX8_isLetter 7 = .ok (.bipush 122, 2) := by decide +kernel
theorem dX8_isLetter_9 : decode cX8_isLetter 9 = .ok (.if_icmp .gt 7, 3) := by decide +kernel
theorem dX8_isLetter_12 : decode cX8_isLetter 12 = .ok (.iconst 1, 1) := by decide +kernel
theorem dX8_isLetter_13 : decode cX8_isLetter 13 = .ok (.goto 4, 3) := by decide +kernel
theorem dX8_isLetter_16 : decode cX8_isLetter 16 = .ok (.iconst 0, 1) := by decide +kernel
theorem dX8_isLetter_17 : decode cX8_isLetter 17 = .ok (.ireturn, 1) := by decide +kernel
theorem dX8_isDigit_0 : decode cX8_isDigit 0 = .ok (.iload_n 0, 1) := by decide +kernel
theorem dX8_isDigit_1 : decode cX8_isDigit 1 = .ok (.bipush 48, 2) := by decide +kernel
theorem dX8_isDigit_3 : decode cX8_isDigit 3 = .ok (.if_icmp .lt 13, 3) := by decide +kernel
theorem dX8_isDigit_6 : decode cX8_isDigit 6 = .ok (.iload_n 0, 1) := by decide +kernel
theorem dX8_isDigit_7 : decode cX8_isDigit 7 = .ok (.bipush 57, 2) := by decide +kernel
theorem dX8_isDigit_9 : decode cX8_isDigit 9 = .ok (.if_icmp .gt 7, 3) := by decide +kernel
theorem dX8_isDigit_12 : decode cX8_isDigit 12 = .ok (.iconst 1, 1) := by decide +kernel
theorem dX8_isDigit_13 : decode cX8_isDigit 13 = .ok (.goto 4, 3) := by decide +kernel
theorem dX8_isDigit_16 : decode cX8_isDigit 16 = .ok (.iconst 0, 1) := by decide +kernel
theorem dX8_isDigit_17 : decode cX8_isDigit 17 = .ok (.ireturn, 1) := by decide +kernel
theorem dX8_kindOfPair_0 : decode cX8_kindOfPair 0 = .ok (.iload_n 0, 1) := by decide +kernel
theorem dX8_kindOfPair_1 : decode cX8_kindOfPair 1 = .ok (.lookupswitch 44 #[(33, 38), (60, 41), (61, 35)], 35) := by decide +kernel
theorem dX8_kindOfPair_36 : decode cX8_kindOfPair 36 = .ok (.bipush 13, 2) := by decide +kernel
theorem dX8_kindOfPair_38 : decode cX8_kindOfPair 38 = .ok (.ireturn, 1) := by decide +kernel
theorem dX8_kindOfPair_39 : decode cX8_kindOfPair 39 = .ok (.bipush 14, 2) := by decide +kernel
theorem dX8_kindOfPair_41 : decode cX8_kindOfPair 41 = .ok (.ireturn, 1) := by decide +kernel
theorem dX8_kindOfPair_42 : decode cX8_kindOfPair 42 = .ok (.bipush 16, 2) := by decide +kernel
theorem dX8_kindOfPair_44 : decode cX8_kindOfPair 44 = .ok (.ireturn, 1) := by decide +kernel
theorem dX8_kindOfPair_45 : decode cX8_kindOfPair 45 = .ok (.iconst 0, 1) := by decide +kernel
theorem dX8_kindOfPair_46 : decode cX8_kindOfPair 46 = .ok (.ireturn, 1) := by decide +kernel
theorem dX8_kindOfSign_0 : decode cX8_kindOfSign 0 = .ok (.iload_n 0, 1) := by decide +kernel
theorem dX8_kindOfSign_1 : decode cX8_kindOfSign 1 = .ok (.tableswitch 120 40 60 #[114, 117, 108, 102, 120, 105, 120, 120, 120, 120, 120, 120, 120, 120, 120, 120, 120, 120, 120, 99, 111], 99) := by decide +kernel
theorem dX8_kindOfSign_100 : decode cX8_kindOfSign 100 = .ok (.bipush 22, 2) := by decide +kernel
theorem dX8_kindOfSign_102 : decode cX8_kindOfSign 102 = .ok (.ireturn, 1) := by decide +kernel
theorem dX8_kindOfSign_103 : decode cX8_kindOfSign 103 = .ok (.bipush 17, 2) := by decide +kernel
theorem dX8_kindOfSign_105 : decode cX8_kindOfSign 105 = .ok (.ireturn, 1) := by decide +kernel
theorem dX8_kindOfSign_106 : decode cX8_kindOfSign 106 = .ok (.bipush 18, 2) := by decide +kernel
theorem dX8_kindOfSign_108 : decode cX8_kindOfSign 108 = .ok (.ireturn, 1) := by decide +kernel
theorem dX8_kindOfSign_109 : decode cX8_kindOfSign 109 = .ok (.bipush 19, 2) := by decide +kernel
theorem dX8_kindOfSign_111 : decode cX8_kindOfSign 111 = .ok (.ireturn, 1) := by decide +kernel
theorem dX8_kindOfSign_112 : decode cX8_kindOfSign 112 = .ok (.bipush 15, 2) := by decide +kernel
theorem dX8_kindOfSign_114 : decode cX8_kindOfSign 114 = .ok (.ireturn, 1) := by decide +kernel
theorem dX8_kindOfSign_115 : decode cX8_kindOfSign 115 = .ok (.bipush 20, 2) := by decide +kernel
theorem dX8_kindOfSign_117 : decode cX8_kindOfSign 117 = .ok (.ireturn, 1) := by decide +kernel
theorem dX8_kindOfSign_118 : decode cX8_kindOfSign 118 = .ok (.bipush 21, 2) := by decide +kernel
theorem dX8_kindOfSign_120 : decode cX8_kindOfSign 120 = .ok (.ireturn, 1) := by decide +kernel
theorem dX8_kindOfSign_121 : decode cX8_kindOfSign 121 = .ok (.iconst 0, 1) := by decide +kernel
theorem dX8_kindOfSign_122 : decode cX8_kindOfSign 122 = .ok (.ireturn, 1) := by decide +kernel
theorem dX8_kindOfWord_0 : decode cX8_kindOfWord 0 = .ok (.aload_n 0, 1) := by decide +kernel
theorem dX8_kindOfWord_1 : decode cX8_kindOfWord 1 = .ok (.ldc 65, 2) := by decide +kernel
theorem dX8_kindOfWord_3 : decode cX8_kindOfWord 3 = .ok (.invokevirtual 67, 3) := by decide +kernel
theorem dX8_kindOfWord_6 : decode cX8_kindOfWord 6 = .ok (.ifCond .eq 6, 3) := by decide +kernel
theorem dX8_kindOfWord_9 : decode cX8_kindOfWord 9 = .ok (.bipush 23, 2) := by decide +kernel
theorem dX8_kindOfWord_11 : decode cX8_kindOfWord 11 = .ok (.ireturn, 1) := by decide +kernel
theorem dX8_kindOfWord_12 : decode cX8_kindOfWord 12 = .ok (.aload_n 0, 1) := by decide +kernel
theorem dX8_kindOfWord_13 : decode cX8_kindOfWord 13 = .ok (.ldc 71, 2) := by decide +kernel
theorem dX8_kindOfWord_15 : decode cX8_kindOfWord 15 = .ok (.invokevirtual 67, 3) := by decide +kernel
theorem dX8_kindOfWord_18 : decode cX8_kindOfWord 18 = .ok (.ifCond .eq 6, 3) := by decide +kernel
theorem dX8_kindOfWord_21 : decode cX8_kindOfWord 21 = .ok (.bipush 24, 2) := by decide +kernel
theorem dX8_kindOfWord_23 : decode cX8_kindOfWord 23 = .ok (.ireturn, 1) := by decide +kernel
theorem dX8_kindOfWord_24 : decode cX8_kindOfWord 24 = .ok (.aload_n 0, 1) := by decide +kernel
theorem dX8_kindOfWord_25 : decode cX8_kindOfWord 25 = .ok (.ldc 73, 2) := by decide +kernel
theorem dX8_kindOfWord_27 : decode cX8_kindOfWord 27 = .ok (.invokevirtual 67, 3) := by decide +kernel
theorem dX8_kindOfWord_30 : decode cX8_kindOfWord 30 = .ok (.ifCond .eq 6, 3) := by decide +kernel
theorem dX8_kindOfWord_33 : decode cX8_kindOfWord 33 = .ok (.bipush 25, 2) := by decide +kernel
theorem dX8_kindOfWord_35 : decode cX8_kindOfWord 35 = .ok (.ireturn, 1) := by decide +kernel
theorem dX8_kindOfWord_36 : decode cX8_kindOfWord 36 = .ok (.aload_n 0, 1) := by decide +kernel
theorem dX8_kindOfWord_37 : decode cX8_kindOfWord 37 = .ok (.ldc 75, 2) := by decide +kernel
theorem dX8_kindOfWord_39 : decode cX8_kindOfWord 39 = .ok (.invokevirtual 67, 3) := by decide +kernel
theorem dX8_kindOfWord_42 : decode cX8_kindOfWord 42 = .ok (.ifCond .eq 6, 3) := by decide +kernel
theorem dX8_kindOfWord_45 : decode cX8_kindOfWord 45 = .ok (.bipush 11, 2) := by decide +kernel
theorem dX8_kindOfWord_47 : decode cX8_kindOfWord 47 = .ok (.ireturn, 1) := by decide +kernel
theorem dX8_kindOfWord_48 : decode cX8_kindOfWord 48 = .ok (.aload_n 0, 1) := by decide +kernel
theorem dX8_kindOfWord_49 : decode cX8_kindOfWord 49 = .ok (.ldc 77, 2) := by decide +kernel
theorem dX8_kindOfWord_51 : decode cX8_kindOfWord 51 = .ok (.invokevirtual 67, 3) := by decide +kernel
theorem dX8_kindOfWord_54 : decode cX8_kindOfWord 54 = .ok (.ifCond .eq 6, 3) := by decide +kernel
theorem dX8_kindOfWord_57 : decode cX8_kindOfWord 57 = .ok (.bipush 12, 2) := by decide +kernel
theorem dX8_kindOfWord_59 : decode cX8_kindOfWord 59 = .ok (.ireturn, 1) := by decide +kernel
theorem dX8_kindOfWord_60 : decode cX8_kindOfWord 60 = .ok (.aload_n 0, 1) := by decide +kernel
theorem dX8_kindOfWord_61 : decode cX8_kindOfWord 61 = .ok (.ldc 79, 2) := by decide +kernel
theorem dX8_kindOfWord_63 : decode cX8_kindOfWord 63 = .ok (.invokevirtual 67, 3) := by decide +kernel
theorem dX8_kindOfWord_66 : decode cX8_kindOfWord 66 = .ok (.ifCond .eq 6, 3) := by decide +kernel
theorem dX8_kindOfWord_69 : decode cX8_kindOfWord 69 = .ok (.bipush 9, 2) := by decide +kernel
theorem dX8_kindOfWord_71 : decode cX8_kindOfWord 71 = .ok (.ireturn, 1) := by decide +kernel
theorem dX8_kindOfWord_72 : decode cX8_kindOfWord 72 = .ok (.aload_n 0, 1) := by decide +kernel
theorem dX8_kindOfWord_73 : decode cX8_kindOfWord 73 = .ok (.ldc 81, 2) := by decide +kernel
theorem dX8_kindOfWord_75 : decode cX8_kindOfWord 75 = .ok (.invokevirtual 67, 3) := by decide +kernel
theorem dX8_kindOfWord_78 : decode cX8_kindOfWord 78 = .ok (.ifCond .eq 6, 3) := by decide +kernel
theorem dX8_kindOfWord_81 : decode cX8_kindOfWord 81 = .ok (.bipush 10, 2) := by decide +kernel
theorem dX8_kindOfWord_83 : decode cX8_kindOfWord 83 = .ok (.ireturn, 1) := by decide +kernel
theorem dX8_kindOfWord_84 : decode cX8_kindOfWord 84 = .ok (.aload_n 0, 1) := by decide +kernel
theorem dX8_kindOfWord_85 : decode cX8_kindOfWord 85 = .ok (.ldc 83, 2) := by decide +kernel
theorem dX8_kindOfWord_87 : decode cX8_kindOfWord 87 = .ok (.invokevirtual 67, 3) := by decide +kernel
theorem dX8_kindOfWord_90 : decode cX8_kindOfWord 90 = .ok (.ifCond .eq 5, 3) := by decide +kernel
theorem dX8_kindOfWord_93 : decode cX8_kindOfWord 93 = .ok (.iconst 2, 1) := by decide +kernel
theorem dX8_kindOfWord_94 : decode cX8_kindOfWord 94 = .ok (.ireturn, 1) := by decide +kernel
theorem dX8_kindOfWord_95 : decode cX8_kindOfWord 95 = .ok (.aload_n 0, 1) := by decide +kernel
theorem dX8_kindOfWord_96 : decode cX8_kindOfWord 96 = .ok (.ldc 85, 2) := by decide +kernel
theorem dX8_kindOfWord_98 : decode cX8_kindOfWord 98 = .ok (.invokevirtual 67, 3) := by decide +kernel
theorem dX8_kindOfWord_101 : decode cX8_kindOfWord 101 = .ok (.ifCond .eq 5, 3) := by decide +kernel
theorem dX8_kindOfWord_104 : decode cX8_kindOfWord 104 = .ok (.iconst 3, 1) := by decide +kernel
theorem dX8_kindOfWord_105 : decode cX8_kindOfWord 105 = .ok (.ireturn, 1) := by decide +kernel
theorem dX8_kindOfWord_106 : decode cX8_kindOfWord 106 = .ok (.aload_n 0, 1) := by decide +kernel
theorem dX8_kindOfWord_107 : decode cX8_kindOfWord 107 = .ok (.ldc 87, 2) := by decide +kernel
theorem dX8_kindOfWord_109 : decode cX8_kindOfWord 109 = .ok (.invokevirtual 67, 3) := by decide +kernel
theorem dX8_kindOfWord_112 : decode cX8_kindOfWord 112 = .ok (.ifCond .eq 5, 3) := by decide +kernel
theorem dX8_kindOfWord_115 : decode cX8_kindOfWord 115 = .ok (.iconst 4, 1) := by decide +kernel
theorem dX8_kindOfWord_116 : decode cX8_kindOfWord 116 = .ok (.ireturn, 1) := by decide +kernel
theorem dX8_kindOfWord_117 : decode cX8_kindOfWord 117 = .ok (.aload_n 0, 1) := by decide +kernel
theorem dX8_kindOfWord_118 : decode cX8_kindOfWord 118 = .ok (.ldc 89, 2) := by decide +kernel
theorem dX8_kindOfWord_120 : decode cX8_kindOfWord 120 = .ok (.invokevirtual 67, 3) := by decide +kernel
theorem dX8_kindOfWord_123 : decode cX8_kindOfWord 123 = .ok (.ifCond .eq 5, 3) := by decide +kernel
theorem dX8_kindOfWord_126 : decode cX8_kindOfWord 126 = .ok (.iconst 5, 1) := by decide +kernel
theorem dX8_kindOfWord_127 : decode cX8_kindOfWord 127 = .ok (.ireturn, 1) := by decide +kernel
theorem dX8_kindOfWord_128 : decode cX8_kindOfWord 128 = .ok (.aload_n 0, 1) := by decide +kernel
theorem dX8_kindOfWord_129 : decode cX8_kindOfWord 129 = .ok (.ldc 91, 2) := by decide +kernel
theorem dX8_kindOfWord_131 : decode cX8_kindOfWord 131 = .ok (.invokevirtual 67, 3) := by decide +kernel
theorem dX8_kindOfWord_134 : decode cX8_kindOfWord 134 = .ok (.ifCond .eq 6, 3) := by decide +kernel
theorem dX8_kindOfWord_137 : decode cX8_kindOfWord 137 = .ok (.bipush 6, 2) := by decide +kernel
theorem dX8_kindOfWord_139 : decode cX8_kindOfWord 139 = .ok (.ireturn, 1) := by decide +kernel
theorem dX8_kindOfWord_140 : decode cX8_kindOfWord 140 = .ok (.aload_n 0, 1) := by decide +kernel
theorem dX8_kindOfWord_141 : decode cX8_kindOfWord 141 = .ok (.ldc 93, 2) := by decide +kernel
theorem dX8_kindOfWord_143 : decode cX8_kindOfWord 143 = .ok (.invokevirtual 67, 3) := by decide +kernel
theorem dX8_kindOfWord_146 : decode cX8_kindOfWord 146 = .ok (.ifCond .eq 6, 3) := by decide +kernel
theorem dX8_kindOfWord_149 : decode cX8_kindOfWord 149 = .ok (.bipush 7, 2) := by decide +kernel
theorem dX8_kindOfWord_151 : decode cX8_kindOfWord 151 = .ok (.ireturn, 1) := by decide +kernel
theorem dX8_kindOfWord_152 : decode cX8_kindOfWord 152 = .ok (.aload_n 0, 1) := by decide +kernel
theorem dX8_kindOfWord_153 : decode cX8_kindOfWord 153 = .ok (.ldc 95, 2) := by decide +kernel
theorem dX8_kindOfWord_155 : decode cX8_kindOfWord 155 = .ok (.invokevirtual 67, 3) := by decide +kernel
theorem dX8_kindOfWord_158 : decode cX8_kindOfWord 158 = .ok (.ifCond .eq 6, 3) := by decide +kernel
theorem dX8_kindOfWord_161 : decode cX8_kindOfWord 161 = .ok (.bipush 8, 2) := by decide +kernel
theorem dX8_kindOfWord_163 : decode cX8_kindOfWord 163 = .ok (.ireturn, 1) := by decide +kernel
theorem dX8_kindOfWord_164 : decode cX8_kindOfWord 164 = .ok (.iconst 0, 1) := by decide +kernel
theorem dX8_kindOfWord_165 : decode cX8_kindOfWord 165 = .ok (.ireturn, 1) := by decide +kernel
theorem dX8_spells_0 : decode cX8_spells 0 = .ok (.aload_n 1, 1) := by decide +kernel
theorem dX8_spells_1 : decode cX8_spells 1 = .ok (.invokevirtual 97, 3) := by decide +kernel
theorem dX8_spells_4 : decode cX8_spells 4 = .ok (.aload_n 0, 1) := by decide +kernel
theorem dX8_spells_5 : decode cX8_spells 5 = .ok (.getfield 24, 3) := by decide +kernel
theorem dX8_spells_8 : decode cX8_spells 8 = .ok (.aload_n 0, 1) := by decide +kernel
theorem dX8_spells_9 : decode cX8_spells 9 = .ok (.getfield 21, 3) := by decide +kernel
theorem dX8_spells_12 : decode cX8_spells 12 = .ok (.isub, 1) := by decide +kernel
theorem dX8_spells_13 : decode cX8_spells 13 = .ok (.if_icmp .eq 5, 3) := by decide +kernel
theorem dX8_spells_16 : decode cX8_spells 16 = .ok (.iconst 0, 1) := by decide +kernel
theorem dX8_spells_17 : decode cX8_spells 17 = .ok (.ireturn, 1) := by decide +kernel
theorem dX8_spells_18 : decode cX8_spells 18 = .ok (.iconst 0, 1) := by decide +kernel
theorem dX8_spells_19 : decode cX8_spells 19 = .ok (.istore_n 2, 1) := by decide +kernel
theorem dX8_spells_20 : decode cX8_spells 20 = .ok (.iload_n 2, 1) := by decide +kernel
theorem dX8_spells_21 : decode cX8_spells 21 = .ok (.aload_n 1, 1) := by decide +kernel
theorem dX8_spells_22 : decode cX8_spells 22 = .ok (.invokevirtual 97, 3) := by decide +kernel
theorem dX8_spells_25 : decode cX8_spells 25 = .ok (.if_icmp .ge 29, 3) := by decide +kernel
theorem dX8_spells_28 : decode cX8_spells 28 = .ok (.aload_n 0, 1) := by decide +kernel
theorem dX8_spells_29 : decode cX8_spells 29 = .ok (.aload_n 0, 1) := by decide +kernel
theorem dX8_spells_30 : decode cX8_spells 30 = .ok (.getfield 21, 3) := by decide +kernel
theorem dX8_spells_33 : decode cX8_spells 33 = .ok (.iload_n 2, 1) := by decide +kernel
theorem dX8_spells_34 : decode cX8_spells 34 = .ok (.iadd, 1) := by decide +kernel
theorem dX8_spells_35 : decode cX8_spells 35 = .ok (.invokevirtual 31, 3) := by decide +kernel
theorem dX8_spells_38 : decode cX8_spells 38 = .ok (.aload_n 1, 1) := by decide +kernel
theorem dX8_spells_39 : decode cX8_spells 39 = .ok (.iload_n 2, 1) := by decide +kernel
theorem dX8_spells_40 : decode cX8_spells 40 = .ok (.invokevirtual 101, 3) := by decide +kernel
theorem dX8_spells_43 : decode cX8_spells 43 = .ok (.if_icmp .eq 5, 3) := by decide +kernel
theorem dX8_spells_46 : decode cX8_spells 46 = .ok (.iconst 0, 1) := by decide +kernel
