theorem dX12_meet_7 : decode cX12_meet 7 = .ok (.getfield 143, 3) := by decide +kernel
theorem dX12_meet_10 : decode cX12_meet 10 = .ok (.iload_n 2, 1) := by decide +kernel
theorem dX12_meet_11 : decode cX12_meet 11 = .ok (.iaload, 1) := by decide +kernel
theorem dX12_meet_12 : decode cX12_meet 12 = .ok (.if_icmp .ge 22, 3) := by decide +kernel
theorem dX12_meet_15 : decode cX12_meet 15 = .ok (.aload_n 0, 1) := by decide +kernel
theorem dX12_meet_16 : decode cX12_meet 16 = .ok (.getfield 140, 3) := by decide +kernel
theorem dX12_meet_19 : decode cX12_meet 19 = .ok (.iload_n 2, 1) := by decide +kernel
theorem dX12_meet_20 : decode cX12_meet 20 = .ok (.iaload, 1) := by decide +kernel
theorem dX12_meet_21 : decode cX12_meet 21 = .ok (.aload_n 0, 1) := by decide +kernel
theorem dX12_meet_22 : decode cX12_meet 22 = .ok (.getfield 143, 3) := by decide +kernel
theorem dX12_meet_25 : decode cX12_meet 25 = .ok (.iload_n 1, 1) := by decide +kernel
theorem dX12_meet_26 : decode cX12_meet 26 = .ok (.iaload, 1) := by decide +kernel
theorem dX12_meet_27 : decode cX12_meet 27 = .ok (.if_icmp .ge 7, 3) := by decide +kernel
theorem dX12_meet_30 : decode cX12_meet 30 = .ok (.iconst 1, 1) := by decide +kernel
theorem dX12_meet_31 : decode cX12_meet 31 = .ok (.goto 4, 3) := by decide +kernel
theorem dX12_meet_34 : decode cX12_meet 34 = .ok (.iconst 0, 1) := by decide +kernel
theorem dX12_meet_35 : decode cX12_meet 35 = .ok (.ireturn, 1) := by decide +kernel
theorem dX12_areAlike_0 : decode cX12_areAlike 0 = .ok (.aload_n 0, 1) := by decide +kernel
theorem dX12_areAlike_1 : decode cX12_areAlike 1 = .ok (.getfield 152, 3) := by decide +kernel
theorem dX12_areAlike_4 : decode cX12_areAlike 4 = .ok (.iload_n 1, 1) := by decide +kernel
theorem dX12_areAlike_5 : decode cX12_areAlike 5 = .ok (.iaload, 1) := by decide +kernel
theorem dX12_areAlike_6 : decode cX12_areAlike 6 = .ok (.aload_n 0, 1) := by decide +kernel
theorem dX12_areAlike_7 : decode cX12_areAlike 7 = .ok (.getfield 152, 3) := by decide +kernel
theorem dX12_areAlike_10 : decode cX12_areAlike 10 = .ok (.iload_n 2, 1) := by decide +kernel
theorem dX12_areAlike_11 : decode cX12_areAlike 11 = .ok (.iaload, 1) := by decide +kernel
theorem dX12_areAlike_12 : decode cX12_areAlike 12 = .ok (.if_icmp .ne 31, 3) := by decide +kernel
theorem dX12_areAlike_15 : decode cX12_areAlike 15 = .ok (.aload_n 0, 1) := by decide +kernel
theorem dX12_areAlike_16 : decode cX12_areAlike 16 = .ok (.getfield 155, 3) := by decide +kernel
theorem dX12_areAlike_19 : decode cX12_areAlike 19 = .ok (.iload_n 1, 1) := by decide +kernel
theorem dX12_areAlike_20 : decode cX12_areAlike 20 = .ok (.iaload, 1) := by decide +kernel
theorem dX12_areAlike_21 : decode cX12_areAlike 21 = .ok (.aload_n 0, 1) := by decide +kernel
theorem dX12_areAlike_22 : decode cX12_areAlike 22 = .ok (.getfield 155, 3) := by decide +kernel
theorem dX12_areAlike_25 : decode cX12_areAlike 25 = .ok (.iload_n 2, 1) := by decide +kernel
theorem dX12_areAlike_26 : decode cX12_areAlike 26 = .ok (.iaload, 1) := by decide +kernel
theorem dX12_areAlike_27 : decode cX12_areAlike 27 = .ok (.if_icmp .ne 16, 3) := by decide +kernel
theorem dX12_areAlike_30 : decode cX12_areAlike 30 = .ok (.aload_n 0, 1) := by decide +kernel
theorem dX12_areAlike_31 : decode cX12_areAlike 31 = .ok (.getfield 155, 3) := by decide +kernel
theorem dX12_areAlike_34 : decode cX12_areAlike 34 = .ok (.iload_n 1, 1) := by decide +kernel
theorem dX12_areAlike_35 : decode cX12_areAlike 35 = .ok (.iaload, 1) := by decide +kernel
theorem dX12_areAlike_36 : decode cX12_areAlike 36 = .ok (.ifCond .eq 7, 3) := by decide +kernel
theorem dX12_areAlike_39 : decode cX12_areAlike 39 = .ok (.iconst 1, 1) := by decide +kernel
theorem dX12_areAlike_40 : decode cX12_areAlike 40 = .ok (.goto 4, 3) := by decide +kernel
theorem dX12_areAlike_43 : decode cX12_areAlike 43 = .ok (.iconst 0, 1) := by decide +kernel
theorem dX12_areAlike_44 : decode cX12_areAlike 44 = .ok (.ireturn, 1) := by decide +kernel
theorem dX12_roomOf_0 : decode cX12_roomOf 0 = .ok (.iconst 0, 1) := by decide +kernel
theorem dX12_roomOf_1 : decode cX12_roomOf 1 = .ok (.istore_n 2, 1) := by decide +kernel
theorem dX12_roomOf_2 : decode cX12_roomOf 2 = .ok (.iconst 0, 1) := by decide +kernel
theorem dX12_roomOf_3 : decode cX12_roomOf 3 = .ok (.istore_n 3, 1) := by decide +kernel
theorem dX12_roomOf_4 : decode cX12_roomOf 4 = .ok (.iload_n 3, 1) := by decide +kernel
theorem dX12_roomOf_5 : decode cX12_roomOf 5 = .ok (.aload_n 0, 1) := by decide +kernel
theorem dX12_roomOf_6 : decode cX12_roomOf 6 = .ok (.getfield 364, 3) := by decide +kernel
theorem dX12_roomOf_9 : decode cX12_roomOf 9 = .ok (.if_icmp .ge 34, 3) := by decide +kernel
theorem dX12_roomOf_12 : decode cX12_roomOf 12 = .ok (.iload_n 1, 1) := by decide +kernel
theorem dX12_roomOf_13 : decode cX12_roomOf 13 = .ok (.iload_n 3, 1) := by decide +kernel
theorem dX12_roomOf_14 : decode cX12_roomOf 14 = .ok (.ishr, 1) := by decide +kernel
theorem dX12_roomOf_15 : decode cX12_roomOf 15 = .ok (.iconst 1, 1) := by decide +kernel
theorem dX12_roomOf_16 : decode cX12_roomOf 16 = .ok (.iand, 1) := by decide +kernel
theorem dX12_roomOf_17 : decode cX12_roomOf 17 = .ok (.iconst 1, 1) := by decide +kernel
theorem dX12_roomOf_18 : decode cX12_roomOf 18 = .ok (.if_icmp .ne 19, 3) := by decide +kernel
theorem dX12_roomOf_21 : decode cX12_roomOf 21 = .ok (.iload_n 2, 1) := by decide +kernel
theorem dX12_roomOf_22 : decode cX12_roomOf 22 = .ok (.aload_n 0, 1) := by decide +kernel
theorem dX12_roomOf_23 : decode cX12_roomOf 23 = .ok (.getfield 143, 3) := by decide +kernel
theorem dX12_roomOf_26 : decode cX12_roomOf 26 = .ok (.iload_n 3, 1) := by decide +kernel
theorem dX12_roomOf_27 : decode cX12_roomOf 27 = .ok (.iaload, 1) := by decide +kernel
theorem dX12_roomOf_28 : decode cX12_roomOf 28 = .ok (.aload_n 0, 1) := by decide +kernel
theorem dX12_roomOf_29 : decode cX12_roomOf 29 = .ok (.getfield 140, 3) := by decide +kernel
theorem dX12_roomOf_32 : decode cX12_roomOf 32 = .ok (.iload_n 3, 1) := by decide +kernel
theorem dX12_roomOf_33 : decode cX12_roomOf 33 = .ok (.iaload, 1) := by decide +kernel
theorem dX12_roomOf_34 : decode cX12_roomOf 34 = .ok (.isub, 1) := by decide +kernel
theorem dX12_roomOf_35 : decode cX12_roomOf 35 = .ok (.iadd, 1) := by decide +kernel
theorem dX12_roomOf_36 : decode cX12_roomOf 36 = .ok (.istore_n 2, 1) := by decide +kernel
theorem dX12_roomOf_37 : decode cX12_roomOf 37 = .ok (.iinc 3 1, 3) := by decide +kernel
theorem dX12_roomOf_40 : decode cX12_roomOf 40 = .ok (.goto (-36), 3) := by decide +kernel
theorem dX12_roomOf_43 : decode cX12_roomOf 43 = .ok (.iload_n 2, 1) := by decide +kernel
theorem dX12_roomOf_44 : decode cX12_roomOf 44 = .ok (.ireturn, 1) := by decide +kernel
theorem dX12_isThin_0 : decode cX12_isThin 0 = .ok (.iconst 0, 1) := by decide +kernel
theorem dX12_isThin_1 : decode cX12_isThin 1 = .ok (.istore_n 2, 1) := by decide +kernel
theorem dX12_isThin_2 : decode cX12_isThin 2 = .ok (.iload_n 2, 1) := by decide +kernel
theorem dX12_isThin_3 : decode cX12_isThin 3 = .ok (.aload_n 0, 1) := by decide +kernel
theorem dX12_isThin_4 : decode cX12_isThin 4 = .ok (.getfield 364, 3) := by decide +kernel
theorem dX12_isThin_7 : decode cX12_isThin 7 = .ok (.if_icmp .ge 95, 3) := by decide +kernel
theorem dX12_isThin_10 : decode cX12_isThin 10 = .ok (.iload_n 1, 1) := by decide +kernel
theorem dX12_isThin_11 : decode cX12_isThin 11 = .ok (.iload_n 2, 1) := by decide +kernel
theorem dX12_isThin_12 : decode cX12_isThin 12 = .ok (.ishr, 1) := by decide +kernel
theorem dX12_isThin_13 : decode cX12_isThin 13 = .ok (.iconst 1, 1) := by decide +kernel
theorem dX12_isThin_14 : decode cX12_isThin 14 = .ok (.iand, 1) := by decide +kernel
theorem dX12_isThin_15 : decode cX12_isThin 15 = .ok (.ifCond .ne 6, 3) := by decide +kernel
theorem dX12_isThin_18 : decode cX12_isThin 18 = .ok (.goto 78, 3) := by decide +kernel
theorem dX12_isThin_21 : decode cX12_isThin 21 = .ok (.iconst 0, 1) := by decide +kernel
theorem dX12_isThin_22 : decode cX12_isThin 22 = .ok (.istore_n 3, 1) := by decide +kernel
theorem dX12_isThin_23 : decode cX12_isThin 23 = .ok (.iconst 0, 1) := by decide +kernel
theorem dX12_isThin_24 : decode cX12_isThin 24 = .ok (.istore 4, 2) := by decide +kernel
theorem dX12_isThin_26 : decode cX12_isThin 26 = .ok (.iload 4, 2) := by decide +kernel
theorem dX12_isThin_28 : decode cX12_isThin 28 = .ok (.aload_n 0, 1) := by decide +kernel
theorem dX12_isThin_29 : decode cX12_isThin 29 = .ok (.getfield 364, 3) := by decide +kernel
theorem dX12_isThin_32 : decode cX12_isThin 32 = .ok (.if_icmp .ge 54, 3) := by decide +kernel
theorem dX12_isThin_35 : decode cX12_isThin 35 = .ok (.iload_n 1, 1) := by decide +kernel
theorem dX12_isThin_36 : decode cX12_isThin 36 = .ok (.iload 4, 2) := by decide +kernel
theorem dX12_isThin_38 : decode cX12_isThin 38 = .ok (.ishr, 1) := by decide +kernel
theorem dX12_isThin_39 : decode cX12_isThin 39 = .ok (.iconst 1, 1) := by decide +kernel
theorem dX12_isThin_40 : decode cX12_isThin 40 = .ok (.iand, 1) := by decide +kernel
theorem dX12_isThin_41 : decode cX12_isThin 41 = .ok (.iconst 1, 1) := by decide +kernel
theorem dX12_isThin_42 : decode cX12_isThin 42 = .ok (.if_icmp .ne 38, 3) := by decide +kernel
theorem dX12_isThin_45 : decode cX12_isThin 45 = .ok (.aload_n 0, 1) := by decide +kernel
theorem dX12_isThin_46 : decode cX12_isThin 46 = .ok (.getfield 140, 3) := by decide +kernel
theorem dX12_isThin_49 : decode cX12_isThin 49 = .ok (.iload 4, 2) := by decide +kernel
theorem dX12_isThin_51 : decode cX12_isThin 51 = .ok (.iaload, 1) := by decide +kernel
theorem dX12_isThin_52 : decode cX12_isThin 52 = .ok (.aload_n 0, 1) := by decide +kernel
theorem dX12_isThin_53 : decode cX12_isThin 53 = .ok (.getfield 140, 3) := by decide +kernel
theorem dX12_isThin_56 : decode cX12_isThin 56 = .ok (.iload_n 2, 1) := by decide +kernel
theorem dX12_isThin_57 : decode cX12_isThin 57 = .ok (.iaload, 1) := by decide +kernel
theorem dX12_isThin_58 : decode cX12_isThin 58 = .ok (.if_icmp .gt 22, 3) := by decide +kernel
theorem dX12_isThin_61 : decode cX12_isThin 61 = .ok (.aload_n 0, 1) := by decide +kernel
theorem dX12_isThin_62 : decode cX12_isThin 62 = .ok (.getfield 140, 3) := by decide +kernel
theorem dX12_isThin_65 : decode cX12_isThin 65 = .ok (.iload_n 2, 1) := by decide +kernel
theorem dX12_isThin_66 : decode cX12_isThin 66 = .ok (.iaload, 1) := by decide +kernel
theorem dX12_isThin_67 : decode cX12_isThin 67 = .ok (.aload_n 0, 1) := by decide +kernel
theorem dX12_isThin_68 : decode cX12_isThin 68 = .ok (.getfield 143, 3) := by decide +kernel
theorem dX12_isThin_71 : decode cX12_isThin 71 = .ok (.iload 4, 2) := by decide +kernel
theorem dX12_isThin_73 : decode cX12_isThin 73 = .ok (.iaload, 1) := by decide +kernel
theorem dX12_isThin_74 : decode cX12_isThin 74 = .ok (.if_icmp .ge 6, 3) := by decide +kernel
theorem dX12_isThin_77 : decode cX12_isThin 77 = .ok (.iinc 3 1, 3) := by decide +kernel
theorem dX12_isThin_80 : decode cX12_isThin 80 = .ok (.iinc 4 1, 3) := by decide +kernel
theorem dX12_isThin_83 : decode cX12_isThin 83 = .ok (.goto (-57), 3) := by decide +kernel
theorem dX12_isThin_86 : decode cX12_isThin 86 = .ok (.iload_n 3, 1) := by decide +kernel
theorem dX12_isThin_87 : decode cX12_isThin 87 = .ok (.aload_n 0, 1) := by decide +kernel
theorem dX12_isThin_88 : decode cX12_isThin 88 = .ok (.getfield 189, 3) := by decide +kernel
theorem dX12_isThin_91 : decode cX12_isThin 91 = .ok (.if_icmp .le 5, 3) := by decide +kernel
theorem dX12_isThin_94 : decode cX12_isThin 94 = .ok (.iconst 0, 1) := by decide +kernel
theorem dX12_isThin_95 : decode cX12_isThin 95 = .ok (.ireturn, 1) := by decide +kernel
theorem dX12_isThin_96 : decode cX12_isThin 96 = .ok (.iinc 2 1, 3) := by decide +kernel
theorem dX12_isThin_99 : decode cX12_isThin 99 = .ok (.goto (-97), 3) := by decide +kernel
theorem dX12_isThin_102 : decode cX12_isThin 102 = .ok (.iconst 1, 1) := by decide +kernel
theorem dX12_isThin_103 : decode cX12_isThin 103 = .ok (.ireturn, 1) := by decide +kernel
theorem dX12_isPlan_0 : decode cX12_isPlan 0 = .ok (.iconst 0, 1) := by decide +kernel
theorem dX12_isPlan_1 : decode cX12_isPlan 1 = .ok (.istore_n 2, 1) := by decide +kernel
theorem dX12_isPlan_2 : decode cX12_isPlan 2 = .ok (.iload_n 2, 1) := by decide +kernel
theorem dX12_isPlan_3 : decode cX12_isPlan 3 = .ok (.aload_n 0, 1) := by decide +kernel
theorem dX12_isPlan_4 : decode cX12_isPlan 4 = .ok (.getfield 364, 3) := by decide +kernel
theorem dX12_isPlan_7 : decode cX12_isPlan 7 = .ok (.if_icmp .ge 64, 3) := by decide +kernel
theorem dX12_isPlan_10 : decode cX12_isPlan 10 = .ok (.iload_n 1, 1) := by decide +kernel
theorem dX12_isPlan_11 : decode cX12_isPlan 11 = .ok (.iload_n 2, 1) := by decide +kernel
theorem dX12_isPlan_12 : decode cX12_isPlan 12 = .ok (.ishr, 1) := by decide +kernel
theorem dX12_isPlan_13 : decode cX12_isPlan 13 = .ok (.iconst 1, 1) := by decide +kernel
theorem dX12_isPlan_14 : decode cX12_isPlan 14 = .ok (.iand, 1) := by decide +kernel
theorem dX12_isPlan_15 : decode cX12_isPlan 15 = .ok (.ifCond .ne 6, 3) := by decide +kernel
theorem dX12_isPlan_18 : decode cX12_isPlan 18 = .ok (.goto 47, 3) := by decide +kernel
theorem dX12_isPlan_21 : decode cX12_isPlan 21 = .ok (.aload_n 0, 1) := by decide +kernel
theorem dX12_isPlan_22 : decode cX12_isPlan 22 = .ok (.getfield 161, 3) := by decide +kernel
theorem dX12_isPlan_25 : decode cX12_isPlan 25 = .ok (.iload_n 2, 1) := by decide +kernel
theorem dX12_isPlan_26 : decode cX12_isPlan 26 = .ok (.baload, 1) := by decide +kernel
theorem dX12_isPlan_27 : decode cX12_isPlan 27 = .ok (.ifCond .eq 5, 3) := by decide +kernel
theorem dX12_isPlan_30 : decode cX12_isPlan 30 = .ok (.iconst 0, 1) := by decide +kernel
theorem dX12_isPlan_31 : decode cX12_isPlan 31 = .ok (.ireturn, 1) := by decide +kernel
theorem dX12_isPlan_32 : decode cX12_isPlan 32 = .ok (.iconst 0, 1) := by decide +kernel
theorem dX12_isPlan_33 : decode cX12_isPlan 33 = .ok (.istore_n 3, 1) := by decide +kernel
theorem dX12_isPlan_34 : decode cX12_isPlan 34 = .ok (.iload_n 3, 1) := by decide +kernel
theorem dX12_isPlan_35 : decode cX12_isPlan 35 = .ok (.iload_n 2, 1) := by decide +kernel
theorem dX12_isPlan_36 : decode cX12_isPlan 36 = .ok (.if_icmp .ge 29, 3) := by decide +kernel
theorem dX12_isPlan_39 : decode cX12_isPlan 39 = .ok (.iload_n 1, 1) := by decide +kernel
theorem dX12_isPlan_40 : decode cX12_isPlan 40 = .ok (.iload_n 3, 1) := by decide +kernel
theorem dX12_isPlan_41 : decode cX12_isPlan 41 = .ok (.ishr, 1) := by decide +kernel
theorem dX12_isPlan_42 : decode cX12_isPlan 42 = .ok (.iconst 1, 1) := by decide +kernel
theorem dX12_isPlan_43 : decode cX12_isPlan 43 = .ok (.iand, 1) := by decide +kernel
theorem dX12_isPlan_44 : decode cX12_isPlan 44 = .ok (.iconst 1, 1) := by decide +kernel
theorem dX12_isPlan_45 : decode cX12_isPlan 45 = .ok (.if_icmp .ne 14, 3) := by decide +kernel
theorem dX12_isPlan_48 : decode cX12_isPlan 48 = .ok (.aload_n 0, 1) := by decide +kernel
theorem dX12_isPlan_49 : decode cX12_isPlan 49 = .ok (.iload_n 2, 1) := by decide +kernel
theorem dX12_isPlan_50 : decode cX12_isPlan 50 = .ok (.iload_n 3, 1) := by decide +kernel
theorem dX12_isPlan_51 : decode cX12_isPlan 51 = .ok (.invokevirtual 370, 3) := by decide +kernel
theorem dX12_isPlan_54 : decode cX12_isPlan 54 = .ok (.ifCond .eq 5, 3) := by decide +kernel
theorem dX12_isPlan_57 : decode cX12_isPlan 57 = .ok (.iconst 0, 1) := by decide +kernel
theorem dX12_isPlan_58 : decode cX12_isPlan 58 = .ok (.ireturn, 1) := by decide +kernel
theorem dX12_isPlan_59 : decode cX12_isPlan 59 = .ok (.iinc 3 1, 3) := by decide +kernel
theorem dX12_isPlan_62 : decode cX12_isPlan 62 = .ok (.goto (-28), 3) := by decide +kernel
theorem dX12_isPlan_65 : decode cX12_isPlan 65 = .ok (.iinc 2 1, 3) := by decide +kernel
theorem dX12_isPlan_68 : decode cX12_isPlan 68 = .ok (.goto (-66), 3) := by decide +kernel
theorem dX12_isPlan_71 : decode cX12_isPlan 71 = .ok (.aload_n 0, 1) := by decide +kernel
theorem dX12_isPlan_72 : decode cX12_isPlan 72 = .ok (.iload_n 1, 1) := by decide +kernel
theorem dX12_isPlan_73 : decode cX12_isPlan 73 = .ok (.invokevirtual 373, 3) := by decide +kernel
theorem dX12_isPlan_76 : decode cX12_isPlan 76 = .ok (.aload_n 0, 1) := by decide +kernel
theorem dX12_isPlan_77 : decode cX12_isPlan 77 = .ok (.getfield 192, 3) := by decide +kernel
theorem dX12_isPlan_80 : decode cX12_isPlan 80 = .ok (.if_icmp .gt 15, 3) := by decide +kernel
theorem dX12_isPlan_83 : decode cX12_isPlan 83 = .ok (.aload_n 0, 1) := by decide +kernel
theorem dX12_isPlan_84 : decode cX12_isPlan 84 = .ok (.iload_n 1, 1) := by decide +kernel
theorem dX12_isPlan_85 : decode cX12_isPlan 85 = .ok (.invokevirtual 376, 3) := by decide +kernel
theorem dX12_isPlan_88 : decode cX12_isPlan 88 = .ok (.ifCond .eq 7, 3) := by decide +kernel
theorem dX12_isPlan_91 : decode cX12_isPlan 91 = .ok (.iconst 1, 1) := by decide +kernel
theorem dX12_isPlan_92 : decode cX12_isPlan 92 = .ok (.goto 4, 3) := by decide +kernel
theorem dX12_isPlan_95 : decode cX12_isPlan 95 = .ok (.iconst 0, 1) := by decide +kernel
theorem dX12_isPlan_96 : decode cX12_isPlan 96 = .ok (.ireturn, 1) := by decide +kernel
theorem dX12_plan_0 : decode cX12_plan 0 = .ok (.aload_n 0, 1) := by decide +kernel
theorem dX12_plan_1 : decode cX12_plan 1 = .ok (.iload_n 1, 1) := by decide +kernel
theorem dX12_plan_2 : decode cX12_plan 2 = .ok (.invokevirtual 332, 3) := by decide +kernel
theorem dX12_plan_5 : decode cX12_plan 5 = .ok (.ifCond .ne 5, 3) := by decide +kernel
theorem dX12_plan_8 : decode cX12_plan 8 = .ok (.iconst (-1), 1) := by decide +kernel
theorem dX12_plan_9 : decode cX12_plan 9 = .ok (.ireturn, 1) := by decide +kernel
theorem dX12_plan_10 : decode cX12_plan 10 = .ok (.aload_n 0, 1) := by decide +kernel
theorem dX12_plan_11 : decode cX12_plan 11 = .ok (.iload_n 1, 1) := by decide +kernel
theorem dX12_plan_12 : decode cX12_plan 12 = .ok (.invokevirtual 335, 3) := by decide +kernel
theorem dX12_plan_15 : decode cX12_plan 15 = .ok (.iconst 0, 1) := by decide +kernel
theorem dX12_plan_16 : decode cX12_plan 16 = .ok (.istore_n 2, 1) := by decide +kernel
theorem dX12_plan_17 : decode cX12_plan 17 = .ok (.iconst 0, 1) := by decide +kernel
theorem dX12_plan_18 : decode cX12_plan 18 = .ok (.istore_n 3, 1) := by decide +kernel
theorem dX12_plan_19 : decode cX12_plan 19 = .ok (.iload_n 3, 1) := by decide +kernel
theorem dX12_plan_20 : decode cX12_plan 20 = .ok (.aload_n 0, 1) := by decide +kernel
theorem dX12_plan_21 : decode cX12_plan 21 = .ok (.getfield 329, 3) := by decide +kernel
theorem dX12_plan_24 : decode cX12_plan 24 = .ok (.if_icmp .ge 20, 3) := by decide +kernel
theorem dX12_plan_27 : decode cX12_plan 27 = .ok (.aload_n 0, 1) := by decide +kernel
theorem dX12_plan_28 : decode cX12_plan 28 = .ok (.iload_n 3, 1) := by decide +kernel
theorem dX12_plan_29 : decode cX12_plan 29 = .ok (.invokevirtual 358, 3) := by decide +kernel
theorem dX12_plan_32 : decode cX12_plan 32 = .ok (.ifCond .le 6, 3) := by decide +kernel
theorem dX12_plan_35 : decode cX12_plan 35 = .ok (.iinc 2 1, 3) := by decide +kernel
theorem dX12_plan_38 : decode cX12_plan 38 = .ok (.iinc 3 1, 3) := by decide +kernel
theorem dX12_plan_41 : decode cX12_plan 41 = .ok (.goto (-22), 3) := by decide +kernel
theorem dX12_plan_44 : decode cX12_plan 44 = .ok (.iload_n 2, 1) := by decide +kernel
theorem dX12_plan_45 : decode cX12_plan 45 = .ok (.bipush 14, 2) := by decide +kernel
theorem dX12_plan_47 : decode cX12_plan 47 = .ok (.if_icmp .le 6, 3) := by decide +kernel
theorem dX12_plan_50 : decode cX12_plan 50 = .ok (.bipush (-2), 2) := by decide +kernel
theorem dX12_plan_52 : decode cX12_plan 52 = .ok (.ireturn, 1) := by decide +kernel
theorem dX12_plan_53 : decode cX12_plan 53 = .ok (.aload_n 0, 1) := by decide +kernel
theorem dX12_plan_54 : decode cX12_plan 54 = .ok (.invokevirtual 379, 3) := by decide +kernel
theorem dX12_plan_57 : decode cX12_plan 57 = .ok (.aload_n 0, 1) := by decide +kernel
theorem dX12_plan_58 : decode cX12_plan 58 = .ok (.iconst 0, 1) := by decide +kernel
theorem dX12_plan_59 : decode cX12_plan 59 = .ok (.putfield 364, 3) := by decide +kernel
theorem dX12_plan_62 : decode cX12_plan 62 = .ok (.iconst 0, 1) := by decide +kernel
theorem dX12_plan_63 : decode cX12_plan 63 = .ok (.istore_n 3, 1) := by decide +kernel
theorem dX12_plan_64 : decode cX12_plan 64 = .ok (.iload_n 3, 1) := by decide +kernel
theorem dX12_plan_65 : decode cX12_plan 65 = .ok (.aload_n 0, 1) := by decide +kernel
theorem dX12_plan_66 : decode cX12_plan 66 = .ok (.getfield 329, 3) := by decide +kernel
theorem dX12_plan_69 : decode cX12_plan 69 = .ok (.if_icmp .ge 333, 3) := by decide +kernel
theorem dX12_plan_72 : decode cX12_plan 72 = .ok (.aload_n 0, 1) := by decide +kernel
theorem dX12_plan_73 : decode cX12_plan 73 = .ok (.iload_n 3, 1) := by decide +kernel
theorem dX12_plan_74 : decode cX12_plan 74 = .ok (.invokevirtual 358, 3) := by decide +kernel
theorem dX12_plan_77 : decode cX12_plan 77 = .ok (.istore 4, 2) := by decide +kernel
theorem dX12_plan_79 : decode cX12_plan 79 = .ok (.iload 4, 2) := by decide +kernel
theorem dX12_plan_81 : decode cX12_plan 81 = .ok (.ifCond .ne 6, 3) := by decide +kernel
theorem dX12_plan_84 : decode cX12_plan 84 = .ok (.goto 312, 3) := by decide +kernel
theorem dX12_plan_87 : decode cX12_plan 87 = .ok (.aload_n 0, 1) := by decide +kernel
theorem dX12_plan_88 : decode cX12_plan 88 = .ok (.getfield 364, 3) := by decide +kernel
theorem dX12_plan_91 : decode cX12_plan 91 = .ok (.istore 5, 2) := by decide +kernel
theorem dX12_plan_93 : decode cX12_plan 93 = .ok (.aload_n 0, 1) := by decide +kernel
theorem dX12_plan_94 : decode cX12_plan 94 = .ok (.getfield 134, 3) := by decide +kernel
theorem dX12_plan_97 : decode cX12_plan 97 = .ok (.iload 5, 2) := by decide +kernel
theorem dX12_plan_99 : decode cX12_plan 99 = .ok (.iload_n 3, 1) := by decide +kernel
theorem dX12_plan_100 : decode cX12_plan 100 = .ok (.iastore, 1) := by decide +kernel
theorem dX12_plan_101 : decode cX12_plan 101 = .ok (.aload_n 0, 1) := by decide +kernel
theorem dX12_plan_102 : decode cX12_plan 102 = .ok (.getfield 137, 3) := by decide +kernel
theorem dX12_plan_105 : decode cX12_plan 105 = .ok (.iload 5, 2) := by decide +kernel
theorem dX12_plan_107 : decode cX12_plan 107 = .ok (.iload 4, 2) := by decide +kernel
theorem dX12_plan_109 : decode cX12_plan 109 = .ok (.iastore, 1) := by decide +kernel
theorem dX12_plan_110 : decode cX12_plan 110 = .ok (.aload_n 0, 1) := by decide +kernel
theorem dX12_plan_111 : decode cX12_plan 111 = .ok (.getfield 140, 3) := by decide +kernel
theorem dX12_plan_114 : decode cX12_plan 114 = .ok (.iload 5, 2) := by decide +kernel
theorem dX12_plan_116 : decode cX12_plan 116 = .ok (.aload_n 0, 1) := by decide +kernel
theorem dX12_plan_117 : decode cX12_plan 117 = .ok (.getfield 122, 3) := by decide +kernel
theorem dX12_plan_120 : decode cX12_plan 120 = .ok (.iload_n 3, 1) := by decide +kernel
theorem dX12_plan_121 : decode cX12_plan 121 = .ok (.iaload, 1) := by decide +kernel
theorem dX12_plan_122 : decode cX12_plan 122 = .ok (.aload_n 0, 1) := by decide +kernel
theorem dX12_plan_123 : decode cX12_plan 123 = .ok (.getfield 307, 3) := by decide +kernel
theorem dX12_plan_126 : decode cX12_plan 126 = .ok (.if_icmp .ge 7, 3) := by decide +kernel
theorem dX12_plan_129 : decode cX12_plan 129 = .ok (.iconst 0, 1) := by decide +kernel
theorem dX12_plan_130 : decode cX12_plan 130 = .ok (.goto 14, 3) := by decide +kernel
theorem dX12_plan_133 : decode cX12_plan 133 = .ok (.aload_n 0, 1) := by decide +kernel
theorem dX12_plan_134 : decode cX12_plan 134 = .ok (.getfield 122, 3) := by decide +kernel
theorem dX12_plan_137 : decode cX12_plan 137 = .ok (.iload_n 3, 1) := by decide +kernel
theorem dX12_plan_138 : decode cX12_plan 138 = .ok (.iaload, 1) := by decide +kernel
theorem dX12_plan_139 : decode cX12_plan 139 = .ok (.aload_n 0, 1) := by decide +kernel
theorem dX12_plan_140 : decode cX12_plan 140 = .ok (.getfield 307, 3) := by decide +kernel
theorem dX12_plan_143 : decode cX12_plan 143 = .ok (.isub, 1) := by decide +kernel
theorem dX12_plan_144 : decode cX12_plan 144 = .ok (.iastore, 1) := by decide +kernel
theorem dX12_plan_145 : decode cX12_plan 145 = .ok (.aload_n 0, 1) := by decide +kernel
theorem dX12_plan_146 : decode cX12_plan 146 = .ok (.getfield 143, 3) := by decide +kernel
theorem dX12_plan_149 : decode cX12_plan 149 = .ok (.iload 5, 2) := by decide +kernel
theorem dX12_plan_151 : decode cX12_plan 151 = .ok (.aload_n 0, 1) := by decide +kernel
theorem dX12_plan_152 : decode cX12_plan 152 = .ok (.getfield 125, 3) := by decide +kernel
theorem dX12_plan_155 : decode cX12_plan 155 = .ok (.iload_n 3, 1) := by decide +kernel
theorem dX12_plan_156 : decode cX12_plan 156 = .ok (.iaload, 1) := by decide +kernel
theorem dX12_plan_157 : decode cX12_plan 157 = .ok (.aload_n 0, 1) := by decide +kernel
theorem dX12_plan_158 : decode cX12_plan 158 = .ok (.getfield 310, 3) := by decide +kernel
theorem dX12_plan_161 : decode cX12_plan 161 = .ok (.iadd, 1) := by decide +kernel
theorem dX12_plan_162 : decode cX12_plan 162 = .ok (.sipush 288, 3) := by decide +kernel
theorem dX12_plan_165 : decode cX12_plan 165 = .ok (.if_icmp .le 9, 3) := by decide +kernel
theorem dX12_plan_168 : decode cX12_plan 168 = .ok (.sipush 288, 3) := by decide +kernel
theorem dX12_plan_171 : decode cX12_plan 171 = .ok (.goto 14, 3) := by decide +kernel
theorem dX12_plan_174 : decode cX12_plan 174 = .ok (.aload_n 0, 1) := by decide +kernel
theorem dX12_plan_175 : decode cX12_plan 175 = .ok (.getfield 125, 3) := by decide +kernel
theorem dX12_plan_178 : decode cX12_plan 178 = .ok (.iload_n 3, 1) := by decide +kernel
theorem dX12_plan_179 : decode cX12_plan 179 = .ok (.iaload, 1) := by decide +kernel
theorem dX12_plan_180 : decode cX12_plan 180 = .ok (.aload_n 0, 1) := by decide +kernel
theorem dX12_plan_181 : decode cX12_plan 181 = .ok (.getfield 310, 3) := by decide +kernel
theorem dX12_plan_184 : decode cX12_plan 184 = .ok (.iadd, 1) := by decide +kernel
theorem dX12_plan_185 : decode cX12_plan 185 = .ok (.iastore, 1) := by decide +kernel
theorem dX12_plan_186 : decode cX12_plan 186 = .ok (.aload_n 0, 1) := by decide +kernel
theorem dX12_plan_187 : decode cX12_plan 187 = .ok (.getfield 146, 3) := by decide +kernel
theorem dX12_plan_190 : decode cX12_plan 190 = .ok (.iload 5, 2) := by decide +kernel
theorem dX12_plan_192 : decode cX12_plan 192 = .ok (.aload_n 0, 1) := by decide +kernel
theorem dX12_plan_193 : decode cX12_plan 193 = .ok (.getfield 122, 3) := by decide +kernel
theorem dX12_plan_196 : decode cX12_plan 196 = .ok (.iload_n 3, 1) := by decide +kernel
theorem dX12_plan_197 : decode cX12_plan 197 = .ok (.iaload, 1) := by decide +kernel
theorem dX12_plan_198 : decode cX12_plan 198 = .ok (.iastore, 1) := by decide +kernel
theorem dX12_plan_199 : decode cX12_plan 199 = .ok (.aload_n 0, 1) := by decide +kernel
theorem dX12_plan_200 : decode cX12_plan 200 = .ok (.getfield 149, 3) := by decide +kernel
theorem dX12_plan_203 : decode cX12_plan 203 = .ok (.iload 5, 2) := by decide +kernel
theorem dX12_plan_205 : decode cX12_plan 205 = .ok (.aload_n 0, 1) := by decide +kernel
theorem dX12_plan_206 : decode cX12_plan 206 = .ok (.getfield 119, 3) := by decide +kernel
theorem dX12_plan_209 : decode cX12_plan 209 = .ok (.iload_n 3, 1) := by decide +kernel
theorem dX12_plan_210 : decode cX12_plan 210 = .ok (.iaload, 1) := by decide +kernel
theorem dX12_plan_211 : decode cX12_plan 211 = .ok (.iastore, 1) := by decide +kernel
theorem dX12_plan_212 : decode cX12_plan 212 = .ok (.aload_n 0, 1) := by decide +kernel
theorem dX12_plan_213 : decode cX12_plan 213 = .ok (.getfield 152, 3) := by decide +kernel
theorem dX12_plan_216 : decode cX12_plan 216 = .ok (.iload 5, 2) := by decide +kernel
theorem dX12_plan_218 : decode cX12_plan 218 = .ok (.aload_n 0, 1) := by decide +kernel
theorem dX12_plan_219 : decode cX12_plan 219 = .ok (.getfield 95, 3) := by decide +kernel
theorem dX12_plan_222 : decode cX12_plan 222 = .ok (.aload_n 0, 1) := by decide +kernel
theorem dX12_plan_223 : decode cX12_plan 223 = .ok (.getfield 116, 3) := by decide +kernel
theorem dX12_plan_226 : decode cX12_plan 226 = .ok (.iload_n 3, 1) := by decide +kernel
theorem dX12_plan_227 : decode cX12_plan 227 = .ok (.iaload, 1) := by decide +kernel
theorem dX12_plan_228 : decode cX12_plan 228 = .ok (.iaload, 1) := by decide +kernel
theorem dX12_plan_229 : decode cX12_plan 229 = .ok (.iastore, 1) := by decide +kernel
theorem dX12_plan_230 : decode cX12_plan 230 = .ok (.aload_n 0, 1) := by decide +kernel
theorem dX12_plan_231 : decode cX12_plan 231 = .ok (.getfield 155, 3) := by decide +kernel
theorem dX12_plan_234 : decode cX12_plan 234 = .ok (.iload 5, 2) := by decide +kernel
theorem dX12_plan_236 : decode cX12_plan 236 = .ok (.aload_n 0, 1) := by decide +kernel
theorem dX12_plan_237 : decode cX12_plan 237 = .ok (.getfield 98, 3) := by decide +kernel
theorem dX12_plan_240 : decode cX12_plan 240 = .ok (.aload_n 0, 1) := by decide +kernel
theorem dX12_plan_241 : decode cX12_plan 241 = .ok (.getfield 116, 3) := by decide +kernel
theorem dX12_plan_244 : decode cX12_plan 244 = .ok (.iload_n 3, 1) := by decide +kernel
theorem dX12_plan_245 : decode cX12_plan 245 = .ok (.iaload, 1) := by decide +kernel
theorem dX12_plan_246 : decode cX12_plan 246 = .ok (.iaload, 1) := by decide +kernel
theorem dX12_plan_247 : decode cX12_plan 247 = .ok (.iastore, 1) := by decide +kernel
theorem dX12_plan_248 : decode cX12_plan 248 = .ok (.aload_n 0, 1) := by decide +kernel
theorem dX12_plan_249 : decode cX12_plan 249 = .ok (.getfield 158, 3) := by decide +kernel
theorem dX12_plan_252 : decode cX12_plan 252 = .ok (.iload 5, 2) := by decide +kernel
theorem dX12_plan_254 : decode cX12_plan 254 = .ok (.iconst 0, 1) := by decide +kernel
theorem dX12_plan_255 : decode cX12_plan 255 = .ok (.bastore, 1) := by decide +kernel
theorem dX12_plan_256 : decode cX12_plan 256 = .ok (.iconst 0, 1) := by decide +kernel
theorem dX12_plan_257 : decode cX12_plan 257 = .ok (.istore 6, 2) := by decide +kernel
theorem dX12_plan_259 : decode cX12_plan 259 = .ok (.iload 6, 2) := by decide +kernel
theorem dX12_plan_261 : decode cX12_plan 261 = .ok (.aload_n 0, 1) := by decide +kernel
theorem dX12_plan_262 : decode cX12_plan 262 = .ok (.getfield 361, 3) := by decide +kernel
theorem dX12_plan_265 : decode cX12_plan 265 = .ok (.if_icmp .ge 85, 3) := by decide +kernel
theorem dX12_plan_268 : decode cX12_plan 268 = .ok (.aload_n 0, 1) := by decide +kernel
theorem dX12_plan_269 : decode cX12_plan 269 = .ok (.getfield 170, 3) := by decide +kernel
theorem dX12_plan_272 : decode cX12_plan 272 = .ok (.iload 6, 2) := by decide +kernel
theorem dX12_plan_274 : decode cX12_plan 274 = .ok (.iaload, 1) := by decide +kernel
theorem dX12_plan_275 : decode cX12_plan 275 = .ok (.aload_n 0, 1) := by decide +kernel
theorem dX12_plan_276 : decode cX12_plan 276 = .ok (.getfield 149, 3) := by decide +kernel
theorem dX12_plan_279 : decode cX12_plan 279 = .ok (.iload 5, 2) := by decide +kernel
theorem dX12_plan_281 : decode cX12_plan 281 = .ok (.iaload, 1) := by decide +kernel
theorem dX12_plan_282 : decode cX12_plan 282 = .ok (.if_icmp .ne 62, 3) := by decide +kernel
theorem dX12_plan_285 : decode cX12_plan 285 = .ok (.aload_n 0, 1) := by decide +kernel
theorem dX12_plan_286 : decode cX12_plan 286 = .ok (.getfield 173, 3) := by decide +kernel
theorem dX12_plan_289 : decode cX12_plan 289 = .ok (.iload 6, 2) := by decide +kernel
theorem dX12_plan_291 : decode cX12_plan 291 = .ok (.iaload, 1) := by decide +kernel
theorem dX12_plan_292 : decode cX12_plan 292 = .ok (.aload_n 0, 1) := by decide +kernel
theorem dX12_plan_293 : decode cX12_plan 293 = .ok (.getfield 152, 3) := by decide +kernel
theorem dX12_plan_296 : decode cX12_plan 296 = .ok (.iload 5, 2) := by decide +kernel
theorem dX12_plan_298 : decode cX12_plan 298 = .ok (.iaload, 1) := by decide +kernel
theorem dX12_plan_299 : decode cX12_plan 299 = .ok (.if_icmp .ne 45, 3) := by decide +kernel
theorem dX12_plan_302 : decode cX12_plan 302 = .ok (.aload_n 0, 1) := by decide +kernel
theorem dX12_plan_303 : decode cX12_plan 303 = .ok (.getfield 176, 3) := by decide +kernel
theorem dX12_plan_306 : decode cX12_plan 306 = .ok (.iload 6, 2) := by decide +kernel
theorem dX12_plan_308 : decode cX12_plan 308 = .ok (.iaload, 1) := by decide +kernel
theorem dX12_plan_309 : decode cX12_plan 309 = .ok (.aload_n 0, 1) := by decide +kernel
theorem dX12_plan_310 : decode cX12_plan 310 = .ok (.getfield 155, 3) := by decide +kernel
theorem dX12_plan_313 : decode cX12_plan 313 = .ok (.iload 5, 2) := by decide +kernel
theorem dX12_plan_315 : decode cX12_plan 315 = .ok (.iaload, 1) := by decide +kernel
theorem dX12_plan_316 : decode cX12_plan 316 = .ok (.if_icmp .ne 28, 3) := by decide +kernel
theorem dX12_plan_319 : decode cX12_plan 319 = .ok (.aload_n 0, 1) := by decide +kernel
theorem dX12_plan_320 : decode cX12_plan 320 = .ok (.getfield 179, 3) := by decide +kernel
theorem dX12_plan_323 : decode cX12_plan 323 = .ok (.iload 6, 2) := by decide +kernel
theorem dX12_plan_325 : decode cX12_plan 325 = .ok (.iaload, 1) := by decide +kernel
theorem dX12_plan_326 : decode cX12_plan 326 = .ok (.aload_n 0, 1) := by decide +kernel
theorem dX12_plan_327 : decode cX12_plan 327 = .ok (.getfield 146, 3) := by decide +kernel
theorem dX12_plan_330 : decode cX12_plan 330 = .ok (.iload 5, 2) := by decide +kernel
theorem dX12_plan_332 : decode cX12_plan 332 = .ok (.iaload, 1) := by decide +kernel
theorem dX12_plan_333 : decode cX12_plan 333 = .ok (.if_icmp .ne 11, 3) := by decide +kernel
theorem dX12_plan_336 : decode cX12_plan 336 = .ok (.aload_n 0, 1) := by decide +kernel
theorem dX12_plan_337 : decode cX12_plan 337 = .ok (.getfield 158, 3) := by decide +kernel
theorem dX12_plan_340 : decode cX12_plan 340 = .ok (.iload 5, 2) := by decide +kernel
theorem dX12_plan_342 : decode cX12_plan 342 = .ok (.iconst 1, 1) := by decide +kernel
theorem dX12_plan_343 : decode cX12_plan 343 = .ok (.bastore, 1) := by decide +kernel
theorem dX12_plan_344 : decode cX12_plan 344 = .ok (.iinc 6 1, 3) := by decide +kernel
theorem dX12_plan_347 : decode cX12_plan 347 = .ok (.goto (-88), 3) := by decide +kernel
theorem dX12_plan_350 : decode cX12_plan 350 = .ok (.aload_n 0, 1) := by decide +kernel
theorem dX12_plan_351 : decode cX12_plan 351 = .ok (.getfield 161, 3) := by decide +kernel
theorem dX12_plan_354 : decode cX12_plan 354 = .ok (.iload 5, 2) := by decide +kernel
theorem dX12_plan_356 : decode cX12_plan 356 = .ok (.aload_n 0, 1) := by decide +kernel
theorem dX12_plan_357 : decode cX12_plan 357 = .ok (.getfield 140, 3) := by decide +kernel
theorem dX12_plan_360 : decode cX12_plan 360 = .ok (.iload 5, 2) := by decide +kernel
theorem dX12_plan_362 : decode cX12_plan 362 = .ok (.iaload, 1) := by decide +kernel
theorem dX12_plan_363 : decode cX12_plan 363 = .ok (.aload_n 0, 1) := by decide +kernel
theorem dX12_plan_364 : decode cX12_plan 364 = .ok (.getfield 313, 3) := by decide +kernel
theorem dX12_plan_367 : decode cX12_plan 367 = .ok (.if_icmp .ge 17, 3) := by decide +kernel
theorem dX12_plan_370 : decode cX12_plan 370 = .ok (.aload_n 0, 1) := by decide +kernel
theorem dX12_plan_371 : decode cX12_plan 371 = .ok (.getfield 158, 3) := by decide +kernel
theorem dX12_plan_374 : decode cX12_plan 374 = .ok (.iload 5, 2) := by decide +kernel
theorem dX12_plan_376 : decode cX12_plan 376 = .ok (.baload, 1) := by decide +kernel
theorem dX12_plan_377 : decode cX12_plan 377 = .ok (.ifCond .ne 7, 3) := by decide +kernel
theorem dX12_plan_380 : decode cX12_plan 380 = .ok (.iconst 1, 1) := by decide +kernel
theorem dX12_plan_381 : decode cX12_plan 381 = .ok (.goto 4, 3) := by decide +kernel
theorem dX12_plan_384 : decode cX12_plan 384 = .ok (.iconst 0, 1) := by decide +kernel
theorem dX12_plan_385 : decode cX12_plan 385 = .ok (.bastore, 1) := by decide +kernel
theorem dX12_plan_386 : decode cX12_plan 386 = .ok (.aload_n 0, 1) := by decide +kernel
theorem dX12_plan_387 : decode cX12_plan 387 = .ok (.dup, 1) := by decide +kernel
theorem dX12_plan_388 : decode cX12_plan 388 = .ok (.getfield 364, 3) := by decide +kernel
theorem dX12_plan_391 : decode cX12_plan 391 = .ok (.iconst 1, 1) := by decide +kernel
theorem dX12_plan_392 : decode cX12_plan 392 = .ok (.iadd, 1) := by decide +kernel
theorem dX12_plan_393 : decode cX12_plan 393 = .ok (.putfield 364, 3) := by decide +kernel
theorem dX12_plan_396 : decode cX12_plan 396 = .ok (.iinc 3 1, 3) := by decide +kernel
theorem dX12_plan_399 : decode cX12_plan 399 = .ok (.goto (-335), 3) := by decide +kernel
theorem dX12_plan_402 : decode cX12_plan 402 = .ok (.aload_n 0, 1) := by decide +kernel
theorem dX12_plan_403 : decode cX12_plan 403 = .ok (.iload_n 1, 1) := by decide +kernel
theorem dX12_plan_404 : decode cX12_plan 404 = .ok (.putfield 131, 3) := by decide +kernel
theorem dX12_plan_407 : decode cX12_plan 407 = .ok (.aload_n 0, 1) := by decide +kernel
theorem dX12_plan_408 : decode cX12_plan 408 = .ok (.iconst 0, 1) := by decide +kernel
theorem dX12_plan_409 : decode cX12_plan 409 = .ok (.putfield 367, 3) := by decide +kernel
theorem dX12_plan_412 : decode cX12_plan 412 = .ok (.aload_n 0, 1) := by decide +kernel
theorem dX12_plan_413 : decode cX12_plan 413 = .ok (.invokevirtual 382, 3) := by decide +kernel
theorem dX12_plan_416 : decode cX12_plan 416 = .ok (.istore_n 3, 1) := by decide +kernel
theorem dX12_plan_417 : decode cX12_plan 417 = .ok (.aload_n 0, 1) := by decide +kernel
theorem dX12_plan_418 : decode cX12_plan 418 = .ok (.aload_n 0, 1) := by decide +kernel
theorem dX12_plan_419 : decode cX12_plan 419 = .ok (.aload_n 0, 1) := by decide +kernel
theorem dX12_plan_420 : decode cX12_plan 420 = .ok (.getfield 367, 3) := by decide +kernel
theorem dX12_plan_423 : decode cX12_plan 423 = .ok (.invokevirtual 373, 3) := by decide +kernel
theorem dX12_plan_426 : decode cX12_plan 426 = .ok (.putfield 386, 3) := by decide +kernel
theorem dX12_plan_429 : decode cX12_plan 429 = .ok (.iconst 0, 1) := by decide +kernel
theorem dX12_plan_430 : decode cX12_plan 430 = .ok (.istore 4, 2) := by decide +kernel
theorem dX12_plan_432 : decode cX12_plan 432 = .ok (.iload 4, 2) := by decide +kernel
theorem dX12_plan_434 : decode cX12_plan 434 = .ok (.aload_n 0, 1) := by decide +kernel
theorem dX12_plan_435 : decode cX12_plan 435 = .ok (.getfield 364, 3) := by decide +kernel
theorem dX12_plan_438 : decode cX12_plan 438 = .ok (.if_icmp .ge 15, 3) := by decide +kernel
theorem dX12_plan_441 : decode cX12_plan 441 = .ok (.aload_n 0, 1) := by decide +kernel
theorem dX12_plan_442 : decode cX12_plan 442 = .ok (.iload 4, 2) := by decide +kernel
theorem dX12_plan_444 : decode cX12_plan 444 = .ok (.invokevirtual 389, 3) := by decide +kernel
theorem dX12_plan_447 : decode cX12_plan 447 = .ok (.iinc 4 1, 3) := by decide +kernel
theorem dX12_plan_450 : decode cX12_plan 450 = .ok (.goto (-18), 3) := by decide +kernel
theorem dX12_plan_453 : decode cX12_plan 453 = .ok (.iload_n 3, 1) := by decide +kernel
theorem dX12_plan_454 : decode cX12_plan 454 = .ok (.ireturn, 1) := by decide +kernel
theorem dX12_finds_0 : decode cX12_finds 0 = .ok (.iconst 0, 1) := by decide +kernel
theorem dX12_finds_1 : decode cX12_finds 1 = .ok (.istore_n 1, 1) := by decide +kernel
theorem dX12_finds_2 : decode cX12_finds 2 = .ok (.iconst 0, 1) := by decide +kernel
theorem dX12_finds_3 : decode cX12_finds 3 = .ok (.istore_n 2, 1) := by decide +kernel
theorem dX12_finds_4 : decode cX12_finds 4 = .ok (.iconst 0, 1) := by decide +kernel
theorem dX12_finds_5 : decode cX12_finds 5 = .ok (.istore_n 3, 1) := by decide +kernel
theorem dX12_finds_6 : decode cX12_finds 6 = .ok (.iconst 1, 1) := by decide +kernel
theorem dX12_finds_7 : decode cX12_finds 7 = .ok (.istore 4, 2) := by decide +kernel
theorem dX12_finds_9 : decode cX12_finds 9 = .ok (.iload 4, 2) := by decide +kernel
theorem dX12_finds_11 : decode cX12_finds 11 = .ok (.iconst 1, 1) := by decide +kernel
theorem dX12_finds_12 : decode cX12_finds 12 = .ok (.aload_n 0, 1) := by decide +kernel
theorem dX12_finds_13 : decode cX12_finds 13 = .ok (.getfield 364, 3) := by decide +kernel
theorem dX12_finds_16 : decode cX12_finds 16 = .ok (.ishl, 1) := by decide +kernel
theorem dX12_finds_17 : decode cX12_finds 17 = .ok (.if_icmp .ge 180, 3) := by decide +kernel
theorem dX12_finds_20 : decode cX12_finds 20 = .ok (.iconst 0, 1) := by decide +kernel
theorem dX12_finds_21 : decode cX12_finds 21 = .ok (.istore 5, 2) := by decide +kernel
theorem dX12_finds_23 : decode cX12_finds 23 = .ok (.iconst 0, 1) := by decide +kernel
theorem dX12_finds_24 : decode cX12_finds 24 = .ok (.istore 6, 2) := by decide +kernel
theorem dX12_finds_26 : decode cX12_finds 26 = .ok (.iconst 0, 1) := by decide +kernel
theorem dX12_finds_27 : decode cX12_finds 27 = .ok (.istore 7, 2) := by decide +kernel
theorem dX12_finds_29 : decode cX12_finds 29 = .ok (.iload 7, 2) := by decide +kernel
theorem dX12_finds_31 : decode cX12_finds 31 = .ok (.aload_n 0, 1) := by decide +kernel
theorem dX12_finds_32 : decode cX12_finds 32 = .ok (.getfield 364, 3) := by decide +kernel
theorem dX12_finds_35 : decode cX12_finds 35 = .ok (.if_icmp .ge 47, 3) := by decide +kernel
theorem dX12_finds_38 : decode cX12_finds 38 = .ok (.iload 4, 2) := by decide +kernel
theorem dX12_finds_40 : decode cX12_finds 40 = .ok (.iload 7, 2) := by decide +kernel
theorem dX12_finds_42 : decode cX12_finds 42 = .ok (.ishr, 1) := by decide +kernel
theorem dX12_finds_43 : decode cX12_finds 43 = .ok (.iconst 1, 1) := by decide +kernel
theorem dX12_finds_44 : decode cX12_finds 44 = .ok (.iand, 1) := by decide +kernel
theorem dX12_finds_45 : decode cX12_finds 45 = .ok (.ifCond .ne 6, 3) := by decide +kernel
theorem dX12_finds_48 : decode cX12_finds 48 = .ok (.goto 28, 3) := by decide +kernel
theorem dX12_finds_51 : decode cX12_finds 51 = .ok (.iload 6, 2) := by decide +kernel
theorem dX12_finds_53 : decode cX12_finds 53 = .ok (.aload_n 0, 1) := by decide +kernel
theorem dX12_finds_54 : decode cX12_finds 54 = .ok (.getfield 137, 3) := by decide +kernel
theorem dX12_finds_57 : decode cX12_finds 57 = .ok (.iload 7, 2) := by decide +kernel
theorem dX12_finds_59 : decode cX12_finds 59 = .ok (.iaload, 1) := by decide +kernel
theorem dX12_finds_60 : decode cX12_finds 60 = .ok (.iadd, 1) := by decide +kernel
theorem dX12_finds_61 : decode cX12_finds 61 = .ok (.istore 6, 2) := by decide +kernel
theorem dX12_finds_63 : decode cX12_finds 63 = .ok (.aload_n 0, 1) := by decide +kernel
theorem dX12_finds_64 : decode cX12_finds 64 = .ok (.getfield 158, 3) := by decide +kernel
theorem dX12_finds_67 : decode cX12_finds 67 = .ok (.iload 7, 2) := by decide +kernel
theorem dX12_finds_69 : decode cX12_finds 69 = .ok (.baload, 1) := by decide +kernel
theorem dX12_finds_70 : decode cX12_finds 70 = .ok (.ifCond .eq 6, 3) := by decide +kernel
theorem dX12_finds_73 : decode cX12_finds 73 = .ok (.iinc 5 1, 3) := by decide +kernel
theorem dX12_finds_76 : decode cX12_finds 76 = .ok (.iinc 7 1, 3) := by decide +kernel
theorem dX12_finds_79 : decode cX12_finds 79 = .ok (.goto (-50), 3) := by decide +kernel
theorem dX12_finds_82 : decode cX12_finds 82 = .ok (.iload 5, 2) := by decide +kernel
theorem dX12_finds_84 : decode cX12_finds 84 = .ok (.iload_n 1, 1) := by decide +kernel
theorem dX12_finds_85 : decode cX12_finds 85 = .ok (.if_icmp .lt 106, 3) := by decide +kernel
theorem dX12_finds_88 : decode cX12_finds 88 = .ok (.iload 5, 2) := by decide +kernel
theorem dX12_finds_90 : decode cX12_finds 90 = .ok (.iload_n 1, 1) := by decide +kernel
theorem dX12_finds_91 : decode cX12_finds 91 = .ok (.if_icmp .ne 12, 3) := by decide +kernel
theorem dX12_finds_94 : decode cX12_finds 94 = .ok (.iload 6, 2) := by decide +kernel
theorem dX12_finds_96 : decode cX12_finds 96 = .ok (.iload_n 2, 1) := by decide +kernel
theorem dX12_finds_97 : decode cX12_finds 97 = .ok (.if_icmp .ge 6, 3) := by decide +kernel
theorem dX12_finds_100 : decode cX12_finds 100 = .ok (.goto 91, 3) := by decide +kernel
theorem dX12_finds_103 : decode cX12_finds 103 = .ok (.aload_n 0, 1) := by decide +kernel
theorem dX12_finds_104 : decode cX12_finds 104 = .ok (.iload 4, 2) := by decide +kernel
theorem dX12_finds_106 : decode cX12_finds 106 = .ok (.invokevirtual 373, 3) := by decide +kernel
theorem dX12_finds_109 : decode cX12_finds 109 = .ok (.istore 7, 2) := by decide +kernel
theorem dX12_finds_111 : decode cX12_finds 111 = .ok (.iload 5, 2) := by decide +kernel
theorem dX12_finds_113 : decode cX12_finds 113 = .ok (.iload_n 1, 1) := by decide +kernel
theorem dX12_finds_114 : decode cX12_finds 114 = .ok (.if_icmp .ne 50, 3) := by decide +kernel
theorem dX12_finds_117 : decode cX12_finds 117 = .ok (.iload 6, 2) := by decide +kernel
theorem dX12_finds_119 : decode cX12_finds 119 = .ok (.iload_n 2, 1) := by decide +kernel
theorem dX12_finds_120 : decode cX12_finds 120 = .ok (.if_icmp .ne 44, 3) := by decide +kernel
theorem dX12_finds_123 : decode cX12_finds 123 = .ok (.iload 7, 2) := by decide +kernel
theorem dX12_finds_125 : decode cX12_finds 125 = .ok (.iload_n 3, 1) := by decide +kernel
theorem dX12_finds_126 : decode cX12_finds 126 = .ok (.if_icmp .le 6, 3) := by decide +kernel
theorem dX12_finds_129 : decode cX12_finds 129 = .ok (.goto 62, 3) := by decide +kernel
theorem dX12_finds_132 : decode cX12_finds 132 = .ok (.iload 4, 2) := by decide +kernel
theorem dX12_finds_134 : decode cX12_finds 134 = .ok (.aload_n 0, 1) := by decide +kernel
theorem dX12_finds_135 : decode cX12_finds 135 = .ok (.getfield 367, 3) := by decide +kernel
theorem dX12_finds_138 : decode cX12_finds 138 = .ok (.ixor, 1) := by decide +kernel
theorem dX12_finds_139 : decode cX12_finds 139 = .ok (.istore 8, 2) := by decide +kernel
theorem dX12_finds_141 : decode cX12_finds 141 = .ok (.iload 7, 2) := by decide +kernel
theorem dX12_finds_143 : decode cX12_finds 143 = .ok (.iload_n 3, 1) := by decide +kernel
theorem dX12_finds_144 : decode cX12_finds 144 = .ok (.if_icmp .ne 20, 3) := by decide +kernel
theorem dX12_finds_147 : decode cX12_finds 147 = .ok (.aload_n 0, 1) := by decide +kernel
theorem dX12_finds_148 : decode cX12_finds 148 = .ok (.getfield 367, 3) := by decide +kernel
theorem dX12_finds_151 : decode cX12_finds 151 = .ok (.iload 8, 2) := by decide +kernel
theorem dX12_finds_153 : decode cX12_finds 153 = .ok (.iand, 1) := by decide +kernel
theorem dX12_finds_154 : decode cX12_finds 154 = .ok (.iload 8, 2) := by decide +kernel
theorem dX12_finds_156 : decode cX12_finds 156 = .ok (.ineg, 1) := by decide +kernel
theorem dX12_finds_157 : decode cX12_finds 157 = .ok (.iand, 1) := by decide +kernel
theorem dX12_finds_158 : decode cX12_finds 158 = .ok (.ifCond .eq 6, 3) := by decide +kernel
theorem dX12_finds_161 : decode cX12_finds 161 = .ok (.goto 30, 3) := by decide +kernel
theorem dX12_finds_164 : decode cX12_finds 164 = .ok (.aload_n 0, 1) := by decide +kernel
theorem dX12_finds_165 : decode cX12_finds 165 = .ok (.iload 4, 2) := by decide +kernel
theorem dX12_finds_167 : decode cX12_finds 167 = .ok (.invokevirtual 392, 3) := by decide +kernel
theorem dX12_finds_170 : decode cX12_finds 170 = .ok (.ifCond .ne 6, 3) := by decide +kernel
theorem dX12_finds_173 : decode cX12_finds 173 = .ok (.goto 18, 3) := by decide +kernel
theorem dX12_finds_176 : decode cX12_finds 176 = .ok (.iload 5, 2) := by decide +kernel
theorem dX12_finds_178 : decode cX12_finds 178 = .ok (.istore_n 1, 1) := by decide +kernel
theorem dX12_finds_179 : decode cX12_finds 179 = .ok (.iload 6, 2) := by decide +kernel
theorem dX12_finds_181 : decode cX12_finds 181 = .ok (.istore_n 2, 1) := by decide +kernel
theorem dX12_finds_182 : decode cX12_finds 182 = .ok (.iload 7, 2) := by decide +kernel
theorem dX12_finds_184 : decode cX12_finds 184 = .ok (.istore_n 3, 1) := by decide +kernel
theorem dX12_finds_185 : decode cX12_finds 185 = .ok (.aload_n 0, 1) := by decide +kernel
theorem dX12_finds_186 : decode cX12_finds 186 = .ok (.iload 4, 2) := by decide +kernel
theorem dX12_finds_188 : decode cX12_finds 188 = .ok (.putfield 367, 3) := by decide +kernel
theorem dX12_finds_191 : decode cX12_finds 191 = .ok (.iinc 4 1, 3) := by decide +kernel
theorem dX12_finds_194 : decode cX12_finds 194 = .ok (.goto (-185), 3) := by decide +kernel
theorem dX12_finds_197 : decode cX12_finds 197 = .ok (.iload_n 2, 1) := by decide +kernel
theorem dX12_finds_198 : decode cX12_finds 198 = .ok (.ireturn, 1) := by decide +kernel
theorem dX12_reasons_0 : decode cX12_reasons 0 = .ok (.aload_n 0, 1) := by decide +kernel
theorem dX12_reasons_1 : decode cX12_reasons 1 = .ok (.getfield 164, 3) := by decide +kernel
theorem dX12_reasons_4 : decode cX12_reasons 4 = .ok (.iload_n 1, 1) := by decide +kernel
theorem dX12_reasons_5 : decode cX12_reasons 5 = .ok (.iconst 0, 1) := by decide +kernel
theorem dX12_reasons_6 : decode cX12_reasons 6 = .ok (.iastore, 1) := by decide +kernel
theorem dX12_reasons_7 : decode cX12_reasons 7 = .ok (.aload_n 0, 1) := by decide +kernel
theorem dX12_reasons_8 : decode cX12_reasons 8 = .ok (.getfield 167, 3) := by decide +kernel
theorem dX12_reasons_11 : decode cX12_reasons 11 = .ok (.iload_n 1, 1) := by decide +kernel
theorem dX12_reasons_12 : decode cX12_reasons 12 = .ok (.iconst (-1), 1) := by decide +kernel
theorem dX12_reasons_13 : decode cX12_reasons 13 = .ok (.iastore, 1) := by decide +kernel
theorem dX12_reasons_14 : decode cX12_reasons 14 = .ok (.aload_n 0, 1) := by decide +kernel
theorem dX12_reasons_15 : decode cX12_reasons 15 = .ok (.getfield 367, 3) := by decide +kernel
theorem dX12_reasons_18 : decode cX12_reasons 18 = .ok (.iload_n 1, 1) := by decide +kernel
theorem dX12_reasons_19 : decode cX12_reasons 19 = .ok (.ishr, 1) := by decide +kernel
theorem dX12_reasons_20 : decode cX12_reasons 20 = .ok (.iconst 1, 1) := by decide +kernel
theorem dX12_reasons_21 : decode cX12_reasons 21 = .ok (.iand, 1) := by decide +kernel
theorem dX12_reasons_22 : decode cX12_reasons 22 = .ok (.iconst 1, 1) := by decide +kernel
theorem dX12_reasons_23 : decode cX12_reasons 23 = .ok (.if_icmp .ne 4, 3) := by decide +kernel
theorem dX12_reasons_26 : decode cX12_reasons 26 = .ok (.return_, 1) := by decide +kernel
theorem dX12_reasons_27 : decode cX12_reasons 27 = .ok (.aload_n 0, 1) := by decide +kernel
theorem dX12_reasons_28 : decode cX12_reasons 28 = .ok (.getfield 164, 3) := by decide +kernel
theorem dX12_reasons_31 : decode cX12_reasons 31 = .ok (.iload_n 1, 1) := by decide +kernel
theorem dX12_reasons_32 : decode cX12_reasons 32 = .ok (.iconst 1, 1) := by decide +kernel
theorem dX12_reasons_33 : decode cX12_reasons 33 = .ok (.iastore, 1) := by decide +kernel
theorem dX12_reasons_34 : decode cX12_reasons 34 = .ok (.aload_n 0, 1) := by decide +kernel
theorem dX12_reasons_35 : decode cX12_reasons 35 = .ok (.getfield 161, 3) := by decide +kernel
theorem dX12_reasons_38 : decode cX12_reasons 38 = .ok (.iload_n 1, 1) := by decide +kernel
theorem dX12_reasons_39 : decode cX12_reasons 39 = .ok (.baload, 1) := by decide +kernel
theorem dX12_reasons_40 : decode cX12_reasons 40 = .ok (.ifCond .eq 4, 3) := by decide +kernel
theorem dX12_reasons_43 : decode cX12_reasons 43 = .ok (.return_, 1) := by decide +kernel
theorem dX12_reasons_44 : decode cX12_reasons 44 = .ok (.aload_n 0, 1) := by decide +kernel
theorem dX12_reasons_45 : decode cX12_reasons 45 = .ok (.getfield 164, 3) := by decide +kernel
theorem dX12_reasons_48 : decode cX12_reasons 48 = .ok (.iload_n 1, 1) := by decide +kernel
theorem dX12_reasons_49 : decode cX12_reasons 49 = .ok (.iconst 2, 1) := by decide +kernel
theorem dX12_reasons_50 : decode cX12_reasons 50 = .ok (.iastore, 1) := by decide +kernel
theorem dX12_reasons_51 : decode cX12_reasons 51 = .ok (.iconst 0, 1) := by decide +kernel
theorem dX12_reasons_52 : decode cX12_reasons 52 = .ok (.istore_n 2, 1) := by decide +kernel
theorem dX12_reasons_53 : decode cX12_reasons 53 = .ok (.iload_n 2, 1) := by decide +kernel
theorem dX12_reasons_54 : decode cX12_reasons 54 = .ok (.aload_n 0, 1) := by decide +kernel
theorem dX12_reasons_55 : decode cX12_reasons 55 = .ok (.getfield 364, 3) := by decide +kernel
theorem dX12_reasons_58 : decode cX12_reasons 58 = .ok (.if_icmp .ge 47, 3) := by decide +kernel
theorem dX12_reasons_61 : decode cX12_reasons 61 = .ok (.aload_n 0, 1) := by decide +kernel
theorem dX12_reasons_62 : decode cX12_reasons 62 = .ok (.getfield 167, 3) := by decide +kernel
theorem dX12_reasons_65 : decode cX12_reasons 65 = .ok (.iload_n 1, 1) := by decide +kernel
theorem dX12_reasons_66 : decode cX12_reasons 66 = .ok (.iaload, 1) := by decide +kernel
theorem dX12_reasons_67 : decode cX12_reasons 67 = .ok (.iconst (-1), 1) := by decide +kernel
theorem dX12_reasons_68 : decode cX12_reasons 68 = .ok (.if_icmp .ne 37, 3) := by decide +kernel
theorem dX12_reasons_71 : decode cX12_reasons 71 = .ok (.aload_n 0, 1) := by decide +kernel
theorem dX12_reasons_72 : decode cX12_reasons 72 = .ok (.getfield 367, 3) := by decide +kernel
theorem dX12_reasons_75 : decode cX12_reasons 75 = .ok (.iload_n 2, 1) := by decide +kernel
theorem dX12_reasons_76 : decode cX12_reasons 76 = .ok (.ishr, 1) := by decide +kernel
theorem dX12_reasons_77 : decode cX12_reasons 77 = .ok (.iconst 1, 1) := by decide +kernel
theorem dX12_reasons_78 : decode cX12_reasons 78 = .ok (.iand, 1) := by decide +kernel
theorem dX12_reasons_79 : decode cX12_reasons 79 = .ok (.iconst 1, 1) := by decide +kernel
theorem dX12_reasons_80 : decode cX12_reasons 80 = .ok (.if_icmp .ne 19, 3) := by decide +kernel
theorem dX12_reasons_83 : decode cX12_reasons 83 = .ok (.aload_n 0, 1) := by decide +kernel
theorem dX12_reasons_84 : decode cX12_reasons 84 = .ok (.iload_n 1, 1) := by decide +kernel
theorem dX12_reasons_85 : decode cX12_reasons 85 = .ok (.iload_n 2, 1) := by decide +kernel
theorem dX12_reasons_86 : decode cX12_reasons 86 = .ok (.invokevirtual 370, 3) := by decide +kernel
theorem dX12_reasons_89 : decode cX12_reasons 89 = .ok (.ifCond .eq 10, 3) := by decide +kernel
theorem dX12_reasons_92 : decode cX12_reasons 92 = .ok (.aload_n 0, 1) := by decide +kernel
theorem dX12_reasons_93 : decode cX12_reasons 93 = .ok (.getfield 167, 3) := by decide +kernel
theorem dX12_reasons_96 : decode cX12_reasons 96 = .ok (.iload_n 1, 1) := by decide +kernel
theorem dX12_reasons_97 : decode cX12_reasons 97 = .ok (.iload_n 2, 1) := by decide +kernel
theorem dX12_reasons_98 : decode cX12_reasons 98 = .ok (.iastore, 1) := by decide +kernel
theorem dX12_reasons_99 : decode cX12_reasons 99 = .ok (.iinc 2 1, 3) := by decide +kernel
theorem dX12_reasons_102 : decode cX12_reasons 102 = .ok (.goto (-49), 3) := by decide +kernel
theorem dX12_reasons_105 : decode cX12_reasons 105 = .ok (.aload_n 0, 1) := by decide +kernel
theorem dX12_reasons_106 : decode cX12_reasons 106 = .ok (.getfield 167, 3) := by decide +kernel
theorem dX12_reasons_109 : decode cX12_reasons 109 = .ok (.iload_n 1, 1) := by decide +kernel
theorem dX12_reasons_110 : decode cX12_reasons 110 = .ok (.iaload, 1) := by decide +kernel
theorem dX12_reasons_111 : decode cX12_reasons 111 = .ok (.iconst (-1), 1) := by decide +kernel
theorem dX12_reasons_112 : decode cX12_reasons 112 = .ok (.if_icmp .eq 4, 3) := by decide +kernel
theorem dX12_reasons_115 : decode cX12_reasons 115 = .ok (.return_, 1) := by decide +kernel
theorem dX12_reasons_116 : decode cX12_reasons 116 = .ok (.aload_n 0, 1) := by decide +kernel
theorem dX12_reasons_117 : decode cX12_reasons 117 = .ok (.aload_n 0, 1) := by decide +kernel
theorem dX12_reasons_118 : decode cX12_reasons 118 = .ok (.getfield 367, 3) := by decide +kernel
theorem dX12_reasons_121 : decode cX12_reasons 121 = .ok (.iconst 1, 1) := by decide +kernel
theorem dX12_reasons_122 : decode cX12_reasons 122 = .ok (.iload_n 1, 1) := by decide +kernel
theorem dX12_reasons_123 : decode cX12_reasons 123 = .ok (.ishl, 1) := by decide +kernel
theorem dX12_reasons_124 : decode cX12_reasons 124 = .ok (.ior, 1) := by decide +kernel
theorem dX12_reasons_125 : decode cX12_reasons 125 = .ok (.invokevirtual 376, 3) := by decide +kernel
theorem dX12_reasons_128 : decode cX12_reasons 128 = .ok (.ifCond .ne 85, 3) := by decide +kernel
theorem dX12_reasons_131 : decode cX12_reasons 131 = .ok (.aload_n 0, 1) := by decide +kernel
theorem dX12_reasons_132 : decode cX12_reasons 132 = .ok (.getfield 164, 3) := by decide +kernel
theorem dX12_reasons_135 : decode cX12_reasons 135 = .ok (.iload_n 1, 1) := by decide +kernel
theorem dX12_reasons_136 : decode cX12_reasons 136 = .ok (.iconst 3, 1) := by decide +kernel
theorem dX12_reasons_137 : decode cX12_reasons 137 = .ok (.iastore, 1) := by decide +kernel
theorem dX12_reasons_138 : decode cX12_reasons 138 = .ok (.iconst 0, 1) := by decide +kernel
theorem dX12_reasons_139 : decode cX12_reasons 139 = .ok (.istore_n 2, 1) := by decide +kernel
theorem dX12_reasons_140 : decode cX12_reasons 140 = .ok (.iload_n 2, 1) := by decide +kernel
theorem dX12_reasons_141 : decode cX12_reasons 141 = .ok (.aload_n 0, 1) := by decide +kernel
theorem dX12_reasons_142 : decode cX12_reasons 142 = .ok (.getfield 364, 3) := by decide +kernel
theorem dX12_reasons_145 : decode cX12_reasons 145 = .ok (.if_icmp .ge 67, 3) := by decide +kernel
theorem dX12_reasons_148 : decode cX12_reasons 148 = .ok (.aload_n 0, 1) := by decide +kernel
theorem dX12_reasons_149 : decode cX12_reasons 149 = .ok (.getfield 367, 3) := by decide +kernel
theorem dX12_reasons_152 : decode cX12_reasons 152 = .ok (.iload_n 2, 1) := by decide +kernel
theorem dX12_reasons_153 : decode cX12_reasons 153 = .ok (.ishr, 1) := by decide +kernel
theorem dX12_reasons_154 : decode cX12_reasons 154 = .ok (.iconst 1, 1) := by decide +kernel
theorem dX12_reasons_155 : decode cX12_reasons 155 = .ok (.iand, 1) := by decide +kernel
theorem dX12_reasons_156 : decode cX12_reasons 156 = .ok (.iconst 1, 1) := by decide +kernel
theorem dX12_reasons_157 : decode cX12_reasons 157 = .ok (.if_icmp .ne 49, 3) := by decide +kernel
theorem dX12_reasons_160 : decode cX12_reasons 160 = .ok (.aload_n 0, 1) := by decide +kernel
theorem dX12_reasons_161 : decode cX12_reasons 161 = .ok (.iload_n 1, 1) := by decide +kernel
theorem dX12_reasons_162 : decode cX12_reasons 162 = .ok (.iload_n 2, 1) := by decide +kernel
theorem dX12_reasons_163 : decode cX12_reasons 163 = .ok (.invokevirtual 395, 3) := by decide +kernel
theorem dX12_reasons_166 : decode cX12_reasons 166 = .ok (.ifCond .eq 40, 3) := by decide +kernel
theorem dX12_reasons_169 : decode cX12_reasons 169 = .ok (.aload_n 0, 1) := by decide +kernel
theorem dX12_reasons_170 : decode cX12_reasons 170 = .ok (.getfield 167, 3) := by decide +kernel
theorem dX12_reasons_173 : decode cX12_reasons 173 = .ok (.iload_n 1, 1) := by decide +kernel
theorem dX12_reasons_174 : decode cX12_reasons 174 = .ok (.iaload, 1) := by decide +kernel
theorem dX12_reasons_175 : decode cX12_reasons 175 = .ok (.iconst (-1), 1) := by decide +kernel
theorem dX12_reasons_176 : decode cX12_reasons 176 = .ok (.if_icmp .eq 23, 3) := by decide +kernel
theorem dX12_reasons_179 : decode cX12_reasons 179 = .ok (.aload_n 0, 1) := by decide +kernel
theorem dX12_reasons_180 : decode cX12_reasons 180 = .ok (.getfield 137, 3) := by decide +kernel
theorem dX12_reasons_183 : decode cX12_reasons 183 = .ok (.iload_n 2, 1) := by decide +kernel
theorem dX12_reasons_184 : decode cX12_reasons 184 = .ok (.iaload, 1) := by decide +kernel
theorem dX12_reasons_185 : decode cX12_reasons 185 = .ok (.aload_n 0, 1) := by decide +kernel
theorem dX12_reasons_186 : decode cX12_reasons 186 = .ok (.getfield 137, 3) := by decide +kernel
theorem dX12_reasons_189 : decode cX12_reasons 189 = .ok (.aload_n 0, 1) := by decide +kernel
theorem dX12_reasons_190 : decode cX12_reasons 190 = .ok (.getfield 167, 3) := by decide +kernel
theorem dX12_reasons_193 : decode cX12_reasons 193 = .ok (.iload_n 1, 1) := by decide +kernel
theorem dX12_reasons_194 : decode cX12_reasons 194 = .ok (.iaload, 1) := by decide +kernel
theorem dX12_reasons_195 : decode cX12_reasons 195 = .ok (.iaload, 1) := by decide +kernel
theorem dX12_reasons_196 : decode cX12_reasons 196 = .ok (.if_icmp .ge 10, 3) := by decide +kernel
theorem dX12_reasons_199 : decode cX12_reasons 199 = .ok (.aload_n 0, 1) := by decide +kernel
theorem dX12_reasons_200 : decode cX12_reasons 200 = .ok (.getfield 167, 3) := by decide +kernel
theorem dX12_reasons_203 : decode cX12_reasons 203 = .ok (.iload_n 1, 1) := by decide +kernel
theorem dX12_reasons_204 : decode cX12_reasons 204 = .ok (.iload_n 2, 1) := by decide +kernel
theorem dX12_reasons_205 : decode cX12_reasons 205 = .ok (.iastore, 1) := by decide +kernel
theorem dX12_reasons_206 : decode cX12_reasons 206 = .ok (.iinc 2 1, 3) := by decide +kernel
theorem dX12_reasons_209 : decode cX12_reasons 209 = .ok (.goto (-69), 3) := by decide +kernel
theorem dX12_reasons_212 : decode cX12_reasons 212 = .ok (.return_, 1) := by decide +kernel
theorem dX12_reasons_213 : decode cX12_reasons 213 = .ok (.aload_n 0, 1) := by decide +kernel
theorem dX12_reasons_214 : decode cX12_reasons 214 = .ok (.getfield 164, 3) := by decide +kernel
theorem dX12_reasons_217 : decode cX12_reasons 217 = .ok (.iload_n 1, 1) := by decide +kernel
theorem dX12_reasons_218 : decode cX12_reasons 218 = .ok (.aload_n 0, 1) := by decide +kernel
theorem dX12_reasons_219 : decode cX12_reasons 219 = .ok (.getfield 386, 3) := by decide +kernel
theorem dX12_reasons_222 : decode cX12_reasons 222 = .ok (.aload_n 0, 1) := by decide +kernel
theorem dX12_reasons_223 : decode cX12_reasons 223 = .ok (.getfield 143, 3) := by decide +kernel
theorem dX12_reasons_226 : decode cX12_reasons 226 = .ok (.iload_n 1, 1) := by decide +kernel
theorem dX12_reasons_227 : decode cX12_reasons 227 = .ok (.iaload, 1) := by decide +kernel
theorem dX12_reasons_228 : decode cX12_reasons 228 = .ok (.iadd, 1) := by decide +kernel
theorem dX12_reasons_229 : decode cX12_reasons 229 = .ok (.aload_n 0, 1) := by decide +kernel
theorem dX12_reasons_230 : decode cX12_reasons 230 = .ok (.getfield 140, 3) := by decide +kernel
theorem dX12_reasons_233 : decode cX12_reasons 233 = .ok (.iload_n 1, 1) := by decide +kernel
theorem dX12_reasons_234 : decode cX12_reasons 234 = .ok (.iaload, 1) := by decide +kernel
theorem dX12_reasons_235 : decode cX12_reasons 235 = .ok (.isub, 1) := by decide +kernel
theorem dX12_reasons_236 : decode cX12_reasons 236 = .ok (.aload_n 0, 1) := by decide +kernel
theorem dX12_reasons_237 : decode cX12_reasons 237 = .ok (.getfield 192, 3) := by decide +kernel
theorem dX12_reasons_240 : decode cX12_reasons 240 = .ok (.if_icmp .le 7, 3) := by decide +kernel
theorem dX12_reasons_243 : decode cX12_reasons 243 = .ok (.iconst 4, 1) := by decide +kernel
theorem dX12_reasons_244 : decode cX12_reasons 244 = .ok (.goto 4, 3) := by decide +kernel
theorem dX12_reasons_247 : decode cX12_reasons 247 = .ok (.iconst 5, 1) := by decide +kernel
theorem dX12_reasons_248 : decode cX12_reasons 248 = .ok (.iastore, 1) := by decide +kernel
theorem dX12_reasons_249 : decode cX12_reasons 249 = .ok (.return_, 1) := by decide +kernel
theorem dX12_candidate_0 : decode cX12_candidate 0 = .ok (.aload_n 0, 1) := by decide +kernel
theorem dX12_candidate_1 : decode cX12_candidate 1 = .ok (.getfield 131, 3) := by decide +kernel
theorem dX12_candidate_4 : decode cX12_candidate 4 = .ok (.iconst (-1), 1) := by decide +kernel
theorem dX12_candidate_5 : decode cX12_candidate 5 = .ok (.if_icmp .eq 15, 3) := by decide +kernel
theorem dX12_candidate_8 : decode cX12_candidate 8 = .ok (.iload_n 1, 1) := by decide +kernel
theorem dX12_candidate_9 : decode cX12_candidate 9 = .ok (.ifCond .lt 11, 3) := by decide +kernel
theorem dX12_candidate_12 : decode cX12_candidate 12 = .ok (.iload_n 1, 1) := by decide +kernel
theorem dX12_candidate_13 : decode cX12_candidate 13 = .ok (.aload_n 0, 1) := by decide +kernel
theorem dX12_candidate_14 : decode cX12_candidate 14 = .ok (.getfield 364, 3) := by decide +kernel
theorem dX12_candidate_17 : decode cX12_candidate 17 = .ok (.if_icmp .lt 5, 3) := by decide +kernel
theorem dX12_candidate_20 : decode cX12_candidate 20 = .ok (.iconst (-1), 1) := by decide +kernel
theorem dX12_candidate_21 : decode cX12_candidate 21 = .ok (.ireturn, 1) := by decide +kernel
theorem dX12_candidate_22 : decode cX12_candidate 22 = .ok (.iload_n 2, 1) := by decide +kernel
theorem dX12_candidate_23 : decode cX12_candidate 23 = .ok (.tableswitch 78 0 4 #[33, 40, 49, 56, 63], 33) := by decide +kernel
theorem dX12_candidate_56 : decode cX12_candidate 56 = .ok (.aload_n 0, 1) := by decide +kernel
theorem dX12_candidate_57 : decode cX12_candidate 57 = .ok (.getfield 134, 3) := by decide +kernel
theorem dX12_candidate_60 : decode cX12_candidate 60 = .ok (.iload_n 1, 1) := by decide +kernel
theorem dX12_candidate_61 : decode cX12_candidate 61 = .ok (.iaload, 1) := by decide +kernel
theorem dX12_candidate_62 : decode cX12_candidate 62 = .ok (.ireturn, 1) := by decide +kernel
theorem dX12_candidate_63 : decode cX12_candidate 63 = .ok (.aload_n 0, 1) := by decide +kernel
theorem dX12_candidate_64 : decode cX12_candidate 64 = .ok (.getfield 367, 3) := by decide +kernel
theorem dX12_candidate_67 : decode cX12_candidate 67 = .ok (.iload_n 1, 1) := by decide +kernel
theorem dX12_candidate_68 : decode cX12_candidate 68 = .ok (.ishr, 1) := by decide +kernel
theorem dX12_candidate_69 : decode cX12_candidate 69 = .ok (.iconst 1, 1) := by decide +kernel
theorem dX12_candidate_70 : decode cX12_candidate 70 = .ok (.iand, 1) := by decide +kernel
theorem dX12_candidate_71 : decode cX12_candidate 71 = .ok (.ireturn, 1) := by decide +kernel
theorem dX12_candidate_72 : decode cX12_candidate 72 = .ok (.aload_n 0, 1) := by decide +kernel
theorem dX12_candidate_73 : decode cX12_candidate 73 = .ok (.getfield 164, 3) := by decide +kernel
theorem dX12_candidate_76 : decode cX12_candidate 76 = .ok (.iload_n 1, 1) := by decide +kernel
theorem dX12_candidate_77 : decode cX12_candidate 77 = .ok (.iaload, 1) := by decide +kernel
theorem dX12_candidate_78 : decode cX12_candidate 78 = .ok (.ireturn, 1) := by decide +kernel
theorem dX12_candidate_79 : decode cX12_candidate 79 = .ok (.aload_n 0, 1) := by decide +kernel
theorem dX12_candidate_80 : decode cX12_candidate 80 = .ok (.getfield 167, 3) := by decide +kernel
theorem dX12_candidate_83 : decode cX12_candidate 83 = .ok (.iload_n 1, 1) := by decide +kernel
theorem dX12_candidate_84 : decode cX12_candidate 84 = .ok (.iaload, 1) := by decide +kernel
theorem dX12_candidate_85 : decode cX12_candidate 85 = .ok (.ireturn, 1) := by decide +kernel
theorem dX12_candidate_86 : decode cX12_candidate 86 = .ok (.aload_n 0, 1) := by decide +kernel
theorem dX12_candidate_87 : decode cX12_candidate 87 = .ok (.getfield 158, 3) := by decide +kernel
theorem dX12_candidate_90 : decode cX12_candidate 90 = .ok (.iload_n 1, 1) := by decide +kernel
theorem dX12_candidate_91 : decode cX12_candidate 91 = .ok (.baload, 1) := by decide +kernel
theorem dX12_candidate_92 : decode cX12_candidate 92 = .ok (.ifCond .eq 7, 3) := by decide +kernel
theorem dX12_candidate_95 : decode cX12_candidate 95 = .ok (.iconst 1, 1) := by decide +kernel
theorem dX12_candidate_96 : decode cX12_candidate 96 = .ok (.goto 4, 3) := by decide +kernel
theorem dX12_candidate_99 : decode cX12_candidate 99 = .ok (.iconst 0, 1) := by decide +kernel
theorem dX12_candidate_100 : decode cX12_candidate 100 = .ok (.ireturn, 1) := by decide +kernel
theorem dX12_candidate_101 : decode cX12_candidate 101 = .ok (.iconst (-1), 1) := by decide +kernel
theorem dX12_candidate_102 : decode cX12_candidate 102 = .ok (.ireturn, 1) := by decide +kernel
theorem dX12_count_0 : decode cX12_count 0 = .ok (.iload_n 1, 1) := by decide +kernel
theorem dX12_count_1 : decode cX12_count 1 = .ok (.tableswitch 90 0 9 #[55, 60, 65, 70, 80, 90, 90, 90, 90, 85], 55) := by decide +kernel
theorem dX12_count_56 : decode cX12_count 56 = .ok (.aload_n 0, 1) := by decide +kernel
theorem dX12_count_57 : decode cX12_count 57 = .ok (.getfield 186, 3) := by decide +kernel
theorem dX12_count_60 : decode cX12_count 60 = .ok (.ireturn, 1) := by decide +kernel
theorem dX12_count_61 : decode cX12_count 61 = .ok (.aload_n 0, 1) := by decide +kernel
theorem dX12_count_62 : decode cX12_count 62 = .ok (.getfield 301, 3) := by decide +kernel
theorem dX12_count_65 : decode cX12_count 65 = .ok (.ireturn, 1) := by decide +kernel
theorem dX12_count_66 : decode cX12_count 66 = .ok (.aload_n 0, 1) := by decide +kernel
theorem dX12_count_67 : decode cX12_count 67 = .ok (.getfield 298, 3) := by decide +kernel
theorem dX12_count_70 : decode cX12_count 70 = .ok (.ireturn, 1) := by decide +kernel
theorem dX12_count_71 : decode cX12_count 71 = .ok (.aload_n 0, 1) := by decide +kernel
theorem dX12_count_72 : decode cX12_count 72 = .ok (.getfield 40, 3) := by decide +kernel
theorem dX12_count_75 : decode cX12_count 75 = .ok (.aload_n 0, 1) := by decide +kernel
theorem dX12_count_76 : decode cX12_count 76 = .ok (.getfield 263, 3) := by decide +kernel
theorem dX12_count_79 : decode cX12_count 79 = .ok (.iaload, 1) := by decide +kernel
theorem dX12_count_80 : decode cX12_count 80 = .ok (.ireturn, 1) := by decide +kernel
theorem dX12_count_81 : decode cX12_count 81 = .ok (.aload_n 0, 1) := by decide +kernel
theorem dX12_count_82 : decode cX12_count 82 = .ok (.getfield 313, 3) := by decide +kernel
theorem dX12_count_85 : decode cX12_count 85 = .ok (.ireturn, 1) := by decide +kernel
theorem dX12_count_86 : decode cX12_count 86 = .ok (.aload_n 0, 1) := by decide +kernel
theorem dX12_count_87 : decode cX12_count 87 = .ok (.getfield 195, 3) := by decide +kernel
theorem dX12_count_90 : decode cX12_count 90 = .ok (.ireturn, 1) := by decide +kernel
theorem dX12_count_91 : decode cX12_count 91 = .ok (.aload_n 0, 1) := by decide +kernel
theorem dX12_count_92 : decode cX12_count 92 = .ok (.getfield 131, 3) := by decide +kernel
theorem dX12_count_95 : decode cX12_count 95 = .ok (.iconst (-1), 1) := by decide +kernel
theorem dX12_count_96 : decode cX12_count 96 = .ok (.if_icmp .eq 14, 3) := by decide +kernel
theorem dX12_count_99 : decode cX12_count 99 = .ok (.iload_n 1, 1) := by decide +kernel
theorem dX12_count_100 : decode cX12_count 100 = .ok (.iconst 5, 1) := by decide +kernel
theorem dX12_count_101 : decode cX12_count 101 = .ok (.if_icmp .lt 9, 3) := by decide +kernel
theorem dX12_count_104 : decode cX12_count 104 = .ok (.iload_n 1, 1) := by decide +kernel
theorem dX12_count_105 : decode cX12_count 105 = .ok (.bipush 8, 2) := by decide +kernel
theorem dX12_count_107 : decode cX12_count 107 = .ok (.if_icmp .le 5, 3) := by decide +kernel
theorem dX12_count_110 : decode cX12_count 110 = .ok (.iconst (-1), 1) := by decide +kernel
theorem dX12_count_111 : decode cX12_count 111 = .ok (.ireturn, 1) := by decide +kernel
theorem dX12_count_112 : decode cX12_count 112 = .ok (.iload_n 1, 1) := by decide +kernel
theorem dX12_count_113 : decode cX12_count 113 = .ok (.iconst 5, 1) := by decide +kernel
theorem dX12_count_114 : decode cX12_count 114 = .ok (.if_icmp .ne 8, 3) := by decide +kernel
theorem dX12_count_117 : decode cX12_count 117 = .ok (.aload_n 0, 1) := by decide +kernel
theorem dX12_count_118 : decode cX12_count 118 = .ok (.getfield 364, 3) := by decide +kernel
theorem dX12_count_121 : decode cX12_count 121 = .ok (.ireturn, 1) := by decide +kernel
theorem dX12_count_122 : decode cX12_count 122 = .ok (.iload_n 1, 1) := by decide +kernel
theorem dX12_count_123 : decode cX12_count 123 = .ok (.bipush 7, 2) := by decide +kernel
theorem dX12_count_125 : decode cX12_count 125 = .ok (.if_icmp .ne 8, 3) := by decide +kernel
theorem dX12_count_128 : decode cX12_count 128 = .ok (.aload_n 0, 1) := by decide +kernel
theorem dX12_count_129 : decode cX12_count 129 = .ok (.getfield 386, 3) := by decide +kernel
theorem dX12_count_132 : decode cX12_count 132 = .ok (.ireturn, 1) := by decide +kernel
theorem dX12_count_133 : decode cX12_count 133 = .ok (.iload_n 1, 1) := by decide +kernel
theorem dX12_count_134 : decode cX12_count 134 = .ok (.bipush 8, 2) := by decide +kernel
theorem dX12_count_136 : decode cX12_count 136 = .ok (.if_icmp .ne 8, 3) := by decide +kernel
theorem dX12_count_139 : decode cX12_count 139 = .ok (.aload_n 0, 1) := by decide +kernel
theorem dX12_count_140 : decode cX12_count 140 = .ok (.getfield 131, 3) := by decide +kernel
theorem dX12_count_143 : decode cX12_count 143 = .ok (.ireturn, 1) := by decide +kernel
theorem dX12_count_144 : decode cX12_count 144 = .ok (.iconst 0, 1) := by decide +kernel
theorem dX12_count_145 : decode cX12_count 145 = .ok (.istore_n 2, 1) := by decide +kernel
theorem dX12_count_146 : decode cX12_count 146 = .ok (.iconst 0, 1) := by decide +kernel
theorem dX12_count_147 : decode cX12_count 147 = .ok (.istore_n 3, 1) := by decide +kernel
theorem dX12_count_148 : decode cX12_count 148 = .ok (.iload_n 3, 1) := by decide +kernel
theorem dX12_count_149 : decode cX12_count 149 = .ok (.aload_n 0, 1) := by decide +kernel
theorem dX12_count_150 : decode cX12_count 150 = .ok (.getfield 364, 3) := by decide +kernel
theorem dX12_count_153 : decode cX12_count 153 = .ok (.if_icmp .ge 20, 3) := by decide +kernel
theorem dX12_count_156 : decode cX12_count 156 = .ok (.iload_n 2, 1) := by decide +kernel
theorem dX12_count_157 : decode cX12_count 157 = .ok (.aload_n 0, 1) := by decide +kernel
theorem dX12_count_158 : decode cX12_count 158 = .ok (.getfield 367, 3) := by decide +kernel
theorem dX12_count_161 : decode cX12_count 161 = .ok (.iload_n 3, 1) := by decide +kernel
theorem dX12_count_162 : decode cX12_count 162 = .ok (.ishr, 1) := by decide +kernel
theorem dX12_count_163 : decode cX12_count 163 = .ok (.iconst 1, 1) := by decide +kernel
theorem dX12_count_164 : decode cX12_count 164 = .ok (.iand, 1) := by decide +kernel
theorem dX12_count_165 : decode cX12_count 165 = .ok (.iadd, 1) := by decide +kernel
theorem dX12_count_166 : decode cX12_count 166 = .ok (.istore_n 2, 1) := by decide +kernel
theorem dX12_count_167 : decode cX12_count 167 = .ok (.iinc 3 1, 3) := by decide +kernel
theorem dX12_count_170 : decode cX12_count 170 = .ok (.goto (-22), 3) := by decide +kernel
theorem dX12_count_173 : decode cX12_count 173 = .ok (.iload_n 2, 1) := by decide +kernel
theorem dX12_count_174 : decode cX12_count 174 = .ok (.ireturn, 1) := by decide +kernel
theorem dL_law_0 : decode cL_law 0 = .ok (.new 7, 3) := by decide +kernel
theorem dL_law_3 : decode cL_law 3 = .ok (.dup, 1) := by decide +kernel
theorem dL_law_4 : decode cL_law 4 = .ok (.invokespecial 9, 3) := by decide +kernel
theorem dL_law_7 : decode cL_law 7 = .ok (.astore_n 1, 1) := by decide +kernel
theorem dL_law_8 : decode cL_law 8 = .ok (.new 10, 3) := by decide +kernel
theorem dL_law_11 : decode cL_law 11 = .ok (.dup, 1) := by decide +kernel
theorem dL_law_12 : decode cL_law 12 = .ok (.invokespecial 12, 3) := by decide +kernel
theorem dL_law_15 : decode cL_law 15 = .ok (.astore_n 2, 1) := by decide +kernel
theorem dL_law_16 : decode cL_law 16 = .ok (.iconst 0, 1) := by decide +kernel
theorem dL_law_17 : decode cL_law 17 = .ok (.istore_n 3, 1) := by decide +kernel
theorem dL_law_18 : decode cL_law 18 = .ok (.iload_n 3, 1) := by decide +kernel
theorem dL_law_19 : decode cL_law 19 = .ok (.aload_n 0, 1) := by decide +kernel
theorem dL_law_20 : decode cL_law 20 = .ok (.arraylength, 1) := by decide +kernel
theorem dL_law_21 : decode cL_law 21 = .ok (.bipush 8, 2) := by decide +kernel
theorem dL_law_23 : decode cL_law 23 = .ok (.isub, 1) := by decide +kernel
theorem dL_law_24 : decode cL_law 24 = .ok (.if_icmp .gt 766, 3) := by decide +kernel
theorem dL_law_27 : decode cL_law 27 = .ok (.aload_n 0, 1) := by decide +kernel
theorem dL_law_28 : decode cL_law 28 = .ok (.iload_n 3, 1) := by decide +kernel
theorem dL_law_29 : decode cL_law 29 = .ok (.iaload, 1) := by decide +kernel
theorem dL_law_30 : decode cL_law 30 = .ok (.bipush 31, 2) := by decide +kernel
theorem dL_law_32 : decode cL_law 32 = .ok (.iand, 1) := by decide +kernel
theorem dL_law_33 : decode cL_law 33 = .ok (.tableswitch 751 0 17 #[87, 150, 173, 186, 199, 222, 245, 348, 391, 444, 467, 510, 563, 606, 629, 672, 695, 728], 87) := by decide +kernel
theorem dL_law_120 : decode cL_law 120 = .ok (.aload_n 1, 1) := by decide +kernel
theorem dL_law_121 : decode cL_law 121 = .ok (.aload_n 0, 1) := by decide +kernel
theorem dL_law_122 : decode cL_law 122 = .ok (.iload_n 3, 1) := by decide +kernel
theorem dL_law_123 : decode cL_law 123 = .ok (.iconst 1, 1) := by decide +kernel
theorem dL_law_124 : decode cL_law 124 = .ok (.iadd, 1) := by decide +kernel
theorem dL_law_125 : decode cL_law 125 = .ok (.iaload, 1) := by decide +kernel
theorem dL_law_126 : decode cL_law 126 = .ok (.aload_n 0, 1) := by decide +kernel
theorem dL_law_127 : decode cL_law 127 = .ok (.iload_n 3, 1) := by decide +kernel
theorem dL_law_128 : decode cL_law 128 = .ok (.iconst 2, 1) := by decide +kernel
theorem dL_law_129 : decode cL_law 129 = .ok (.iadd, 1) := by decide +kernel
theorem dL_law_130 : decode cL_law 130 = .ok (.iaload, 1) := by decide +kernel
theorem dL_law_131 : decode cL_law 131 = .ok (.aload_n 0, 1) := by decide +kernel
theorem dL_law_132 : decode cL_law 132 = .ok (.iload_n 3, 1) := by decide +kernel
theorem dL_law_133 : decode cL_law 133 = .ok (.iconst 3, 1) := by decide +kernel
theorem dL_law_134 : decode cL_law 134 = .ok (.iadd, 1) := by decide +kernel
theorem dL_law_135 : decode cL_law 135 = .ok (.iaload, 1) := by decide +kernel
theorem dL_law_136 : decode cL_law 136 = .ok (.aload_n 0, 1) := by decide +kernel
theorem dL_law_137 : decode cL_law 137 = .ok (.iload_n 3, 1) := by decide +kernel
theorem dL_law_138 : decode cL_law 138 = .ok (.iconst 4, 1) := by decide +kernel
theorem dL_law_139 : decode cL_law 139 = .ok (.iadd, 1) := by decide +kernel
theorem dL_law_140 : decode cL_law 140 = .ok (.iaload, 1) := by decide +kernel
theorem dL_law_141 : decode cL_law 141 = .ok (.aload_n 0, 1) := by decide +kernel
theorem dL_law_142 : decode cL_law 142 = .ok (.iload_n 3, 1) := by decide +kernel
theorem dL_law_143 : decode cL_law 143 = .ok (.iconst 5, 1) := by decide +kernel
theorem dL_law_144 : decode cL_law 144 = .ok (.iadd, 1) := by decide +kernel
theorem dL_law_145 : decode cL_law 145 = .ok (.iaload, 1) := by decide +kernel
theorem dL_law_146 : decode cL_law 146 = .ok (.invokevirtual 13, 3) := by decide +kernel
theorem dL_law_149 : decode cL_law 149 = .ok (.aload_n 2, 1) := by decide +kernel
theorem dL_law_150 : decode cL_law 150 = .ok (.aload_n 0, 1) := by decide +kernel
theorem dL_law_151 : decode cL_law 151 = .ok (.iload_n 3, 1) := by decide +kernel
theorem dL_law_152 : decode cL_law 152 = .ok (.iconst 1, 1) := by decide +kernel
theorem dL_law_153 : decode cL_law 153 = .ok (.iadd, 1) := by decide +kernel
theorem dL_law_154 : decode cL_law 154 = .ok (.iaload, 1) := by decide +kernel
theorem dL_law_155 : decode cL_law 155 = .ok (.aload_n 0, 1) := by decide +kernel
theorem dL_law_156 : decode cL_law 156 = .ok (.iload_n 3, 1) := by decide +kernel
theorem dL_law_157 : decode cL_law 157 = .ok (.iconst 2, 1) := by decide +kernel
theorem dL_law_158 : decode cL_law 158 = .ok (.iadd, 1) := by decide +kernel
theorem dL_law_159 : decode cL_law 159 = .ok (.iaload, 1) := by decide +kernel
theorem dL_law_160 : decode cL_law 160 = .ok (.aload_n 0, 1) := by decide +kernel
theorem dL_law_161 : decode cL_law 161 = .ok (.iload_n 3, 1) := by decide +kernel
theorem dL_law_162 : decode cL_law 162 = .ok (.iconst 3, 1) := by decide +kernel
theorem dL_law_163 : decode cL_law 163 = .ok (.iadd, 1) := by decide +kernel
theorem dL_law_164 : decode cL_law 164 = .ok (.iaload, 1) := by decide +kernel
theorem dL_law_165 : decode cL_law 165 = .ok (.aload_n 0, 1) := by decide +kernel
theorem dL_law_166 : decode cL_law 166 = .ok (.iload_n 3, 1) := by decide +kernel
theorem dL_law_167 : decode cL_law 167 = .ok (.iconst 4, 1) := by decide +kernel
theorem dL_law_168 : decode cL_law 168 = .ok (.iadd, 1) := by decide +kernel
theorem dL_law_169 : decode cL_law 169 = .ok (.iaload, 1) := by decide +kernel
theorem dL_law_170 : decode cL_law 170 = .ok (.aload_n 0, 1) := by decide +kernel
theorem dL_law_171 : decode cL_law 171 = .ok (.iload_n 3, 1) := by decide +kernel
theorem dL_law_172 : decode cL_law 172 = .ok (.iconst 5, 1) := by decide +kernel
theorem dL_law_173 : decode cL_law 173 = .ok (.iadd, 1) := by decide +kernel
theorem dL_law_174 : decode cL_law 174 = .ok (.iaload, 1) := by decide +kernel
theorem dL_law_175 : decode cL_law 175 = .ok (.invokevirtual 17, 3) := by decide +kernel
theorem dL_law_178 : decode cL_law 178 = .ok (.if_icmp .eq 606, 3) := by decide +kernel
theorem dL_law_181 : decode cL_law 181 = .ok (.iconst 0, 1) := by decide +kernel
theorem dL_law_182 : decode cL_law 182 = .ok (.ireturn, 1) := by decide +kernel
theorem dL_law_183 : decode cL_law 183 = .ok (.aload_n 1, 1) := by decide +kernel
theorem dL_law_184 : decode cL_law 184 = .ok (.aload_n 0, 1) := by decide +kernel
theorem dL_law_185 : decode cL_law 185 = .ok (.iload_n 3, 1) := by decide +kernel
theorem dL_law_186 : decode cL_law 186 = .ok (.iconst 1, 1) := by decide +kernel
theorem dL_law_187 : decode cL_law 187 = .ok (.iadd, 1) := by decide +kernel
theorem dL_law_188 : decode cL_law 188 = .ok (.iaload, 1) := by decide +kernel
theorem dL_law_189 : decode cL_law 189 = .ok (.invokevirtual 18, 3) := by decide +kernel
theorem dL_law_192 : decode cL_law 192 = .ok (.aload_n 2, 1) := by decide +kernel
theorem dL_law_193 : decode cL_law 193 = .ok (.aload_n 0, 1) := by decide +kernel
theorem dL_law_194 : decode cL_law 194 = .ok (.iload_n 3, 1) := by decide +kernel
theorem dL_law_195 : decode cL_law 195 = .ok (.iconst 1, 1) := by decide +kernel
theorem dL_law_196 : decode cL_law 196 = .ok (.iadd, 1) := by decide +kernel
theorem dL_law_197 : decode cL_law 197 = .ok (.iaload, 1) := by decide +kernel
theorem dL_law_198 : decode cL_law 198 = .ok (.invokevirtual 22, 3) := by decide +kernel
theorem dL_law_201 : decode cL_law 201 = .ok (.if_icmp .eq 583, 3) := by decide +kernel
theorem dL_law_204 : decode cL_law 204 = .ok (.iconst 0, 1) := by decide +kernel
theorem dL_law_205 : decode cL_law 205 = .ok (.ireturn, 1) := by decide +kernel
theorem dL_law_206 : decode cL_law 206 = .ok (.aload_n 1, 1) := by decide +kernel
theorem dL_law_207 : decode cL_law 207 = .ok (.invokevirtual 23, 3) := by decide +kernel
theorem dL_law_210 : decode cL_law 210 = .ok (.aload_n 2, 1) := by decide +kernel
theorem dL_law_211 : decode cL_law 211 = .ok (.invokevirtual 27, 3) := by decide +kernel
theorem dL_law_214 : decode cL_law 214 = .ok (.if_icmp .eq 570, 3) := by decide +kernel
theorem dL_law_217 : decode cL_law 217 = .ok (.iconst 0, 1) := by decide +kernel
theorem dL_law_218 : decode cL_law 218 = .ok (.ireturn, 1) := by decide +kernel
theorem dL_law_219 : decode cL_law 219 = .ok (.aload_n 1, 1) := by decide +kernel
theorem dL_law_220 : decode cL_law 220 = .ok (.invokevirtual 28, 3) := by decide +kernel
theorem dL_law_223 : decode cL_law 223 = .ok (.aload_n 2, 1) := by decide +kernel
theorem dL_law_224 : decode cL_law 224 = .ok (.invokevirtual 31, 3) := by decide +kernel
theorem dL_law_227 : decode cL_law 227 = .ok (.if_icmp .eq 557, 3) := by decide +kernel
theorem dL_law_230 : decode cL_law 230 = .ok (.iconst 0, 1) := by decide +kernel
theorem dL_law_231 : decode cL_law 231 = .ok (.ireturn, 1) := by decide +kernel
theorem dL_law_232 : decode cL_law 232 = .ok (.aload_n 1, 1) := by decide +kernel
theorem dL_law_233 : decode cL_law 233 = .ok (.aload_n 0, 1) := by decide +kernel
theorem dL_law_234 : decode cL_law 234 = .ok (.iload_n 3, 1) := by decide +kernel
theorem dL_law_235 : decode cL_law 235 = .ok (.iconst 1, 1) := by decide +kernel
theorem dL_law_236 : decode cL_law 236 = .ok (.iadd, 1) := by decide +kernel
theorem dL_law_237 : decode cL_law 237 = .ok (.iaload, 1) := by decide +kernel
theorem dL_law_238 : decode cL_law 238 = .ok (.invokevirtual 32, 3) := by decide +kernel
theorem dL_law_241 : decode cL_law 241 = .ok (.aload_n 2, 1) := by decide +kernel
theorem dL_law_242 : decode cL_law 242 = .ok (.aload_n 0, 1) := by decide +kernel
theorem dL_law_243 : decode cL_law 243 = .ok (.iload_n 3, 1) := by decide +kernel
theorem dL_law_244 : decode cL_law 244 = .ok (.iconst 1, 1) := by decide +kernel
theorem dL_law_245 : decode cL_law 245 = .ok (.iadd, 1) := by decide +kernel
theorem dL_law_246 : decode cL_law 246 = .ok (.iaload, 1) := by decide +kernel
theorem dL_law_247 : decode cL_law 247 = .ok (.invokevirtual 36, 3) := by decide +kernel
theorem dL_law_250 : decode cL_law 250 = .ok (.if_icmp .eq 534, 3) := by decide +kernel
theorem dL_law_253 : decode cL_law 253 = .ok (.iconst 0, 1) := by decide +kernel
theorem dL_law_254 : decode cL_law 254 = .ok (.ireturn, 1) := by decide +kernel
theorem dL_law_255 : decode cL_law 255 = .ok (.aload_n 1, 1) := by decide +kernel
theorem dL_law_256 : decode cL_law 256 = .ok (.aload_n 0, 1) := by decide +kernel
theorem dL_law_257 : decode cL_law 257 = .ok (.iload_n 3, 1) := by decide +kernel
theorem dL_law_258 : decode cL_law 258 = .ok (.iconst 1, 1) := by decide +kernel
theorem dL_law_259 : decode cL_law 259 = .ok (.iadd, 1) := by decide +kernel
theorem dL_law_260 : decode cL_law 260 = .ok (.iaload, 1) := by decide +kernel
theorem dL_law_261 : decode cL_law 261 = .ok (.invokevirtual 37, 3) := by decide +kernel
theorem dL_law_264 : decode cL_law 264 = .ok (.aload_n 2, 1) := by decide +kernel
theorem dL_law_265 : decode cL_law 265 = .ok (.aload_n 0, 1) := by decide +kernel
theorem dL_law_266 : decode cL_law 266 = .ok (.iload_n 3, 1) := by decide +kernel
theorem dL_law_267 : decode cL_law 267 = .ok (.iconst 1, 1) := by decide +kernel
theorem dL_law_268 : decode cL_law 268 = .ok (.iadd, 1) := by decide +kernel
theorem dL_law_269 : decode cL_law 269 = .ok (.iaload, 1) := by decide +kernel
theorem dL_law_270 : decode cL_law 270 = .ok (.invokevirtual 40, 3) := by decide +kernel
theorem dL_law_273 : decode cL_law 273 = .ok (.if_icmp .eq 511, 3) := by decide +kernel
theorem dL_law_276 : decode cL_law 276 = .ok (.iconst 0, 1) := by decide +kernel
theorem dL_law_277 : decode cL_law 277 = .ok (.ireturn, 1) := by decide +kernel
theorem dL_law_278 : decode cL_law 278 = .ok (.aload_n 1, 1) := by decide +kernel
theorem dL_law_279 : decode cL_law 279 = .ok (.aload_n 0, 1) := by decide +kernel
theorem dL_law_280 : decode cL_law 280 = .ok (.iload_n 3, 1) := by decide +kernel
theorem dL_law_281 : decode cL_law 281 = .ok (.iconst 1, 1) := by decide +kernel
theorem dL_law_282 : decode cL_law 282 = .ok (.iadd, 1) := by decide +kernel
theorem dL_law_283 : decode cL_law 283 = .ok (.iaload, 1) := by decide +kernel
theorem dL_law_284 : decode cL_law 284 = .ok (.aload_n 0, 1) := by decide +kernel
theorem dL_law_285 : decode cL_law 285 = .ok (.iload_n 3, 1) := by decide +kernel
theorem dL_law_286 : decode cL_law 286 = .ok (.iconst 2, 1) := by decide +kernel
theorem dL_law_287 : decode cL_law 287 = .ok (.iadd, 1) := by decide +kernel
theorem dL_law_288 : decode cL_law 288 = .ok (.iaload, 1) := by decide +kernel
theorem dL_law_289 : decode cL_law 289 = .ok (.aload_n 0, 1) := by decide +kernel
theorem dL_law_290 : decode cL_law 290 = .ok (.iload_n 3, 1) := by decide +kernel
theorem dL_law_291 : decode cL_law 291 = .ok (.iconst 3, 1) := by decide +kernel
theorem dL_law_292 : decode cL_law 292 = .ok (.iadd, 1) := by decide +kernel
theorem dL_law_293 : decode cL_law 293 = .ok (.iaload, 1) := by decide +kernel
theorem dL_law_294 : decode cL_law 294 = .ok (.aload_n 0, 1) := by decide +kernel
theorem dL_law_295 : decode cL_law 295 = .ok (.iload_n 3, 1) := by decide +kernel
theorem dL_law_296 : decode cL_law 296 = .ok (.iconst 4, 1) := by decide +kernel
theorem dL_law_297 : decode cL_law 297 = .ok (.iadd, 1) := by decide +kernel
theorem dL_law_298 : decode cL_law 298 = .ok (.iaload, 1) := by decide +kernel
theorem dL_law_299 : decode cL_law 299 = .ok (.aload_n 0, 1) := by decide +kernel
theorem dL_law_300 : decode cL_law 300 = .ok (.iload_n 3, 1) := by decide +kernel
theorem dL_law_301 : decode cL_law 301 = .ok (.iconst 5, 1) := by decide +kernel
theorem dL_law_302 : decode cL_law 302 = .ok (.iadd, 1) := by decide +kernel
theorem dL_law_303 : decode cL_law 303 = .ok (.iaload, 1) := by decide +kernel
theorem dL_law_304 : decode cL_law 304 = .ok (.aload_n 0, 1) := by decide +kernel
theorem dL_law_305 : decode cL_law 305 = .ok (.iload_n 3, 1) := by decide +kernel
theorem dL_law_306 : decode cL_law 306 = .ok (.bipush 6, 2) := by decide +kernel
theorem dL_law_308 : decode cL_law 308 = .ok (.iadd, 1) := by decide +kernel
theorem dL_law_309 : decode cL_law 309 = .ok (.iaload, 1) := by decide +kernel
theorem dL_law_310 : decode cL_law 310 = .ok (.aload_n 0, 1) := by decide +kernel
theorem dL_law_311 : decode cL_law 311 = .ok (.iload_n 3, 1) := by decide +kernel
theorem dL_law_312 : decode cL_law 312 = .ok (.bipush 7, 2) := by decide +kernel
theorem dL_law_314 : decode cL_law 314 = .ok (.iadd, 1) := by decide +kernel
theorem dL_law_315 : decode cL_law 315 = .ok (.iaload, 1) := by decide +kernel
theorem dL_law_316 : decode cL_law 316 = .ok (.ifCond .eq 7, 3) := by decide +kernel
theorem dL_law_319 : decode cL_law 319 = .ok (.iconst 1, 1) := by decide +kernel
theorem dL_law_320 : decode cL_law 320 = .ok (.goto 4, 3) := by decide +kernel
theorem dL_law_323 : decode cL_law 323 = .ok (.iconst 0, 1) := by decide +kernel
theorem dL_law_324 : decode cL_law 324 = .ok (.invokevirtual 41, 3) := by decide +kernel
theorem dL_law_327 : decode cL_law 327 = .ok (.aload_n 2, 1) := by decide +kernel
theorem dL_law_328 : decode cL_law 328 = .ok (.aload_n 0, 1) := by decide +kernel
theorem dL_law_329 : decode cL_law 329 = .ok (.iload_n 3, 1) := by decide +kernel
theorem dL_law_330 : decode cL_law 330 = .ok (.iconst 1, 1) := by decide +kernel
theorem dL_law_331 : decode cL_law 331 = .ok (.iadd, 1) := by decide +kernel
theorem dL_law_332 : decode cL_law 332 = .ok (.iaload, 1) := by decide +kernel
theorem dL_law_333 : decode cL_law 333 = .ok (.aload_n 0, 1) := by decide +kernel
theorem dL_law_334 : decode cL_law 334 = .ok (.iload_n 3, 1) := by decide +kernel
theorem dL_law_335 : decode cL_law 335 = .ok (.iconst 2, 1) := by decide +kernel
theorem dL_law_336 : decode cL_law 336 = .ok (.iadd, 1) := by decide +kernel
theorem dL_law_337 : decode cL_law 337 = .ok (.iaload, 1) := by decide +kernel
theorem dL_law_338 : decode cL_law 338 = .ok (.aload_n 0, 1) := by decide +kernel
theorem dL_law_339 : decode cL_law 339 = .ok (.iload_n 3, 1) := by decide +kernel
theorem dL_law_340 : decode cL_law 340 = .ok (.iconst 3, 1) := by decide +kernel
theorem dL_law_341 : decode cL_law 341 = .ok (.iadd, 1) := by decide +kernel
theorem dL_law_342 : decode cL_law 342 = .ok (.iaload, 1) := by decide +kernel
theorem dL_law_343 : decode cL_law 343 = .ok (.aload_n 0, 1) := by decide +kernel
theorem dL_law_344 : decode cL_law 344 = .ok (.iload_n 3, 1) := by decide +kernel
theorem dL_law_345 : decode cL_law 345 = .ok (.iconst 4, 1) := by decide +kernel
theorem dL_law_346 : decode cL_law 346 = .ok (.iadd, 1) := by decide +kernel
theorem dL_law_347 : decode cL_law 347 = .ok (.iaload, 1) := by decide +kernel
theorem dL_law_348 : decode cL_law 348 = .ok (.aload_n 0, 1) := by decide +kernel
theorem dL_law_349 : decode cL_law 349 = .ok (.iload_n 3, 1) := by decide +kernel
theorem dL_law_350 : decode cL_law 350 = .ok (.iconst 5, 1) := by decide +kernel
theorem dL_law_351 : decode cL_law 351 = .ok (.iadd, 1) := by decide +kernel
theorem dL_law_352 : decode cL_law 352 = .ok (.iaload, 1) := by decide +kernel
theorem dL_law_353 : decode cL_law 353 = .ok (.aload_n 0, 1) := by decide +kernel
theorem dL_law_354 : decode cL_law 354 = .ok (.iload_n 3, 1) := by decide +kernel
theorem dL_law_355 : decode cL_law 355 = .ok (.bipush 6, 2) := by decide +kernel
theorem dL_law_357 : decode cL_law 357 = .ok (.iadd, 1) := by decide +kernel
theorem dL_law_358 : decode cL_law 358 = .ok (.iaload, 1) := by decide +kernel
theorem dL_law_359 : decode cL_law 359 = .ok (.aload_n 0, 1) := by decide +kernel
theorem dL_law_360 : decode cL_law 360 = .ok (.iload_n 3, 1) := by decide +kernel
theorem dL_law_361 : decode cL_law 361 = .ok (.bipush 7, 2) := by decide +kernel
theorem dL_law_363 : decode cL_law 363 = .ok (.iadd, 1) := by decide +kernel
theorem dL_law_364 : decode cL_law 364 = .ok (.iaload, 1) := by decide +kernel
theorem dL_law_365 : decode cL_law 365 = .ok (.ifCond .eq 7, 3) := by decide +kernel
theorem dL_law_368 : decode cL_law 368 = .ok (.iconst 1, 1) := by decide +kernel
theorem dL_law_369 : decode cL_law 369 = .ok (.goto 4, 3) := by decide +kernel
theorem dL_law_372 : decode cL_law 372 = .ok (.iconst 0, 1) := by decide +kernel
theorem dL_law_373 : decode cL_law 373 = .ok (.invokevirtual 45, 3) := by decide +kernel
theorem dL_law_376 : decode cL_law 376 = .ok (.if_icmp .eq 408, 3) := by decide +kernel
theorem dL_law_379 : decode cL_law 379 = .ok (.iconst 0, 1) := by decide +kernel
theorem dL_law_380 : decode cL_law 380 = .ok (.ireturn, 1) := by decide +kernel
theorem dL_law_381 : decode cL_law 381 = .ok (.aload_n 1, 1) := by decide +kernel
theorem dL_law_382 : decode cL_law 382 = .ok (.aload_n 0, 1) := by decide +kernel
theorem dL_law_383 : decode cL_law 383 = .ok (.iload_n 3, 1) := by decide +kernel
theorem dL_law_384 : decode cL_law 384 = .ok (.iconst 1, 1) := by decide +kernel
theorem dL_law_385 : decode cL_law 385 = .ok (.iadd, 1) := by decide +kernel
theorem dL_law_386 : decode cL_law 386 = .ok (.iaload, 1) := by decide +kernel
theorem dL_law_387 : decode cL_law 387 = .ok (.aload_n 0, 1) := by decide +kernel
theorem dL_law_388 : decode cL_law 388 = .ok (.iload_n 3, 1) := by decide +kernel
theorem dL_law_389 : decode cL_law 389 = .ok (.iconst 2, 1) := by decide +kernel
theorem dL_law_390 : decode cL_law 390 = .ok (.iadd, 1) := by decide +kernel
theorem dL_law_391 : decode cL_law 391 = .ok (.iaload, 1) := by decide +kernel
theorem dL_law_392 : decode cL_law 392 = .ok (.aload_n 0, 1) := by decide +kernel
theorem dL_law_393 : decode cL_law 393 = .ok (.iload_n 3, 1) := by decide +kernel
theorem dL_law_394 : decode cL_law 394 = .ok (.iconst 3, 1) := by decide +kernel
theorem dL_law_395 : decode cL_law 395 = .ok (.iadd, 1) := by decide +kernel
theorem dL_law_396 : decode cL_law 396 = .ok (.iaload, 1) := by decide +kernel
theorem dL_law_397 : decode cL_law 397 = .ok (.invokevirtual 46, 3) := by decide +kernel
theorem dL_law_400 : decode cL_law 400 = .ok (.aload_n 2, 1) := by decide +kernel
theorem dL_law_401 : decode cL_law 401 = .ok (.aload_n 0, 1) := by decide +kernel
theorem dL_law_402 : decode cL_law 402 = .ok (.iload_n 3, 1) := by decide +kernel
theorem dL_law_403 : decode cL_law 403 = .ok (.iconst 1, 1) := by decide +kernel
theorem dL_law_404 : decode cL_law 404 = .ok (.iadd, 1) := by decide +kernel
theorem dL_law_405 : decode cL_law 405 = .ok (.iaload, 1) := by decide +kernel
theorem dL_law_406 : decode cL_law 406 = .ok (.aload_n 0, 1) := by decide +kernel
theorem dL_law_407 : decode cL_law 407 = .ok (.iload_n 3, 1) := by decide +kernel
theorem dL_law_408 : decode cL_law 408 = .ok (.iconst 2, 1) := by decide +kernel
theorem dL_law_409 : decode cL_law 409 = .ok (.iadd, 1) := by decide +kernel
theorem dL_law_410 : decode cL_law 410 = .ok (.iaload, 1) := by decide +kernel
theorem dL_law_411 : decode cL_law 411 = .ok (.aload_n 0, 1) := by decide +kernel
theorem dL_law_412 : decode cL_law 412 = .ok (.iload_n 3, 1) := by decide +kernel
theorem dL_law_413 : decode cL_law 413 = .ok (.iconst 3, 1) := by decide +kernel
theorem dL_law_414 : decode cL_law 414 = .ok (.iadd, 1) := by decide +kernel
theorem dL_law_415 : decode cL_law 415 = .ok (.iaload, 1) := by decide +kernel
theorem dL_law_416 : decode cL_law 416 = .ok (.invokevirtual 50, 3) := by decide +kernel
theorem dL_law_419 : decode cL_law 419 = .ok (.if_icmp .eq 365, 3) := by decide +kernel
theorem dL_law_422 : decode cL_law 422 = .ok (.iconst 0, 1) := by decide +kernel
theorem dL_law_423 : decode cL_law 423 = .ok (.ireturn, 1) := by decide +kernel
theorem dL_law_424 : decode cL_law 424 = .ok (.aload_n 1, 1) := by decide +kernel
theorem dL_law_425 : decode cL_law 425 = .ok (.aload_n 0, 1) := by decide +kernel
theorem dL_law_426 : decode cL_law 426 = .ok (.iload_n 3, 1) := by decide +kernel
theorem dL_law_427 : decode cL_law 427 = .ok (.iconst 1, 1) := by decide +kernel
theorem dL_law_428 : decode cL_law 428 = .ok (.iadd, 1) := by decide +kernel
theorem dL_law_429 : decode cL_law 429 = .ok (.iaload, 1) := by decide +kernel
theorem dL_law_430 : decode cL_law 430 = .ok (.aload_n 0, 1) := by decide +kernel
theorem dL_law_431 : decode cL_law 431 = .ok (.iload_n 3, 1) := by decide +kernel
theorem dL_law_432 : decode cL_law 432 = .ok (.iconst 2, 1) := by decide +kernel
theorem dL_law_433 : decode cL_law 433 = .ok (.iadd, 1) := by decide +kernel
theorem dL_law_434 : decode cL_law 434 = .ok (.iaload, 1) := by decide +kernel
theorem dL_law_435 : decode cL_law 435 = .ok (.aload_n 0, 1) := by decide +kernel
