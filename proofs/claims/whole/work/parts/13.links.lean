theorem sub_1 : ∀ w ∈ tables_1_1, w ∈ lw_tbl := fun w h => List.mem_append_right _ (List.mem_append_left _ h)
theorem sub_2 : ∀ w ∈ tables_1_2, w ∈ lw_tbl := fun w h => List.mem_append_right _ (List.mem_append_right _ (List.mem_append_left _ h))
theorem sub_3 : ∀ w ∈ tables_1_3, w ∈ lw_tbl := fun w h => List.mem_append_right _ (List.mem_append_right _ (List.mem_append_right _ (List.mem_append_left _ h)))
theorem sub_4 : ∀ w ∈ tables_1_4, w ∈ lw_tbl := fun w h => List.mem_append_right _ (List.mem_append_right _ (List.mem_append_right _ (List.mem_append_right _ (List.mem_append_left _ h))))
theorem sub_5 : ∀ w ∈ tables_1_5, w ∈ lw_tbl := fun w h => List.mem_append_right _ (List.mem_append_right _ (List.mem_append_right _ (List.mem_append_right _ (List.mem_append_right _ (List.mem_append_left _ h)))))
theorem sub_6 : ∀ w ∈ tables_1_6, w ∈ lw_tbl := fun w h => List.mem_append_right _ (List.mem_append_right _ (List.mem_append_right _ (List.mem_append_right _ (List.mem_append_right _ (List.mem_append_right _ (List.mem_append_left _ h))))))
theorem sub_7 : ∀ w ∈ tables_1_7, w ∈ lw_tbl := fun w h => List.mem_append_right _ (List.mem_append_right _ (List.mem_append_right _ (List.mem_append_right _ (List.mem_append_right _ (List.mem_append_right _ (List.mem_append_right _ (h)))))))
theorem psub_1 : ∀ q ∈ lw_privs_1, Cond.selects q.1.cls q.1 q.1 ∈ lw_tbl := fun q h => List.mem_append_left _ (List.mem_map.mpr ⟨q, List.mem_append_left _ h, rfl⟩)
theorem psub_2 : ∀ q ∈ lw_privs_2, Cond.selects q.1.cls q.1 q.1 ∈ lw_tbl := fun q h => List.mem_append_left _ (List.mem_map.mpr ⟨q, List.mem_append_right _ (List.mem_append_left _ h), rfl⟩)
theorem psub_3 : ∀ q ∈ lw_privs_3, Cond.selects q.1.cls q.1 q.1 ∈ lw_tbl := fun q h => List.mem_append_left _ (List.mem_map.mpr ⟨q, List.mem_append_right _ (List.mem_append_right _ (List.mem_append_left _ h)), rfl⟩)
theorem psub_4 : ∀ q ∈ lw_privs_4, Cond.selects q.1.cls q.1 q.1 ∈ lw_tbl := fun q h => List.mem_append_left _ (List.mem_map.mpr ⟨q, List.mem_append_right _ (List.mem_append_right _ (List.mem_append_right _ (List.mem_append_left _ h))), rfl⟩)
theorem psub_5 : ∀ q ∈ lw_privs_5, Cond.selects q.1.cls q.1 q.1 ∈ lw_tbl := fun q h => List.mem_append_left _ (List.mem_map.mpr ⟨q, List.mem_append_right _ (List.mem_append_right _ (List.mem_append_right _ (List.mem_append_right _ (h)))), rfl⟩)
theorem kt_1 : Cond.initialized "GuideDesk" ∈ TB := TB_of (sub_1 _ (List.mem_of_getElem? (i := 1) rfl)) rfl
theorem kt_2 : Cond.initialized "GuideDesk$Ledger" ∈ TB := TB_of (sub_1 _ (List.mem_of_getElem? (i := 2) rfl)) rfl
theorem kt_3 : Cond.initialized "GuideDesk$Day" ∈ TB := TB_of (sub_1 _ (List.mem_of_getElem? (i := 3) rfl)) rfl
theorem kt_4 : Cond.initialized "GuideDesk$Tape" ∈ TB := TB_of (sub_1 _ (List.mem_of_getElem? (i := 4) rfl)) rfl
theorem kt_5 : Cond.initialized "GuideDesk$WishReader" ∈ TB := TB_of (sub_1 _ (List.mem_of_getElem? (i := 5) rfl)) rfl
theorem kt_6 : Cond.initialized "GuideDesk$Recorder" ∈ TB := TB_of (sub_1 _ (List.mem_of_getElem? (i := 6) rfl)) rfl
theorem kt_7 : Cond.initialized "GuideDesk$Wishes" ∈ TB := TB_of (sub_1 _ (List.mem_of_getElem? (i := 7) rfl)) rfl
theorem kt_8 : Cond.initialized "GuideDesk$Plan" ∈ TB := TB_of (sub_1 _ (List.mem_of_getElem? (i := 8) rfl)) rfl
theorem kt_9 : Cond.initialized "GuideDeskModel" ∈ TB := TB_of (sub_1 _ (List.mem_of_getElem? (i := 9) rfl)) rfl
theorem kt_14 : Cond.initialized "java/lang/Math" ∈ TB := TB_of (sub_1 _ (List.mem_of_getElem? (i := 14) rfl)) rfl
theorem kt_15 : Cond.initialized "GuideDesk$Source" ∈ TB := TB_of (sub_1 _ (List.mem_of_getElem? (i := 15) rfl)) rfl
theorem kt_16 : Cond.initialized "GuideDesk$Fact" ∈ TB := TB_of (sub_1 _ (List.mem_of_getElem? (i := 16) rfl)) rfl
theorem kt_17 : Cond.initialized "java/util/Arrays" ∈ TB := TB_of (sub_1 _ (List.mem_of_getElem? (i := 17) rfl)) rfl
theorem kt_19 : Cond.initialized "GuideDesk$Showing" ∈ TB := TB_of (sub_1 _ (List.mem_of_getElem? (i := 19) rfl)) rfl
theorem kt_20 : Cond.initialized "GuideDesk$Candidate" ∈ TB := TB_of (sub_1 _ (List.mem_of_getElem? (i := 20) rfl)) rfl
theorem kt_21 : Cond.initialized "java/lang/Integer" ∈ TB := TB_of (sub_1 _ (List.mem_of_getElem? (i := 21) rfl)) rfl
theorem kt_26 : Cond.code ({ cls := "GuideDesk", name := "<init>", desc := "()V" } : Jvm.MethodName) prog_1_method_1_code (1 : Nat) (Option.none : Option Jvm.ClassFile.FieldType) ∈ TB := TB_of (sub_1 _ (List.mem_of_getElem? (i := 26) rfl)) rfl
theorem kt_27 : Cond.methodLink "GuideDesk" (3 : Nat) ({ cls := "java/lang/Object", name := "<init>", desc := "()V" } : Jvm.MethodName) ∈ TB := TB_of (sub_1 _ (List.mem_of_getElem? (i := 27) rfl)) rfl
theorem kt_28 : Cond.instanceMethod ({ cls := "java/lang/Object", name := "<init>", desc := "()V" } : Jvm.MethodName) ∈ TB := TB_of (sub_1 _ (List.mem_of_getElem? (i := 28) rfl)) rfl
theorem kt_29 : Cond.code ({ cls := "java/lang/Object", name := "<init>", desc := "()V" } : Jvm.MethodName) object_method_1_code (1 : Nat) (Option.none : Option Jvm.ClassFile.FieldType) ∈ TB := TB_of (sub_1 _ (List.mem_of_getElem? (i := 29) rfl)) rfl
theorem kt_30 : Cond.classLink "GuideDesk" (9 : Nat) "GuideDesk$Ledger" ∈ TB := TB_of (sub_1 _ (List.mem_of_getElem? (i := 30) rfl)) rfl
theorem kt_31 : Cond.instantiable "GuideDesk$Ledger" (6 : Nat) ∈ TB := TB_of (sub_1 _ (List.mem_of_getElem? (i := 31) rfl)) rfl
theorem kt_33 : Cond.instanceMethod ({ cls := "GuideDesk$Ledger", name := "<init>", desc := "()V" } : Jvm.MethodName) ∈ TB := TB_of (sub_1 _ (List.mem_of_getElem? (i := 33) rfl)) rfl
theorem kt_34 : Cond.code ({ cls := "GuideDesk$Ledger", name := "<init>", desc := "()V" } : Jvm.MethodName) prog_5_method_1_code (1 : Nat) (Option.none : Option Jvm.ClassFile.FieldType) ∈ TB := TB_of (sub_1 _ (List.mem_of_getElem? (i := 34) rfl)) rfl
theorem kt_35 : Cond.methodLink "GuideDesk$Ledger" (3 : Nat) ({ cls := "java/lang/Object", name := "<init>", desc := "()V" } : Jvm.MethodName) ∈ TB := TB_of (sub_1 _ (List.mem_of_getElem? (i := 35) rfl)) rfl
theorem kt_36 : Cond.classLink "GuideDesk$Ledger" (21 : Nat) "GuideDesk$Source" ∈ TB := TB_of (sub_1 _ (List.mem_of_getElem? (i := 36) rfl)) rfl
theorem kt_38 : Cond.classLink "GuideDesk$Ledger" (30 : Nat) "GuideDesk$Fact" ∈ TB := TB_of (sub_1 _ (List.mem_of_getElem? (i := 38) rfl)) rfl
theorem kt_40 : Cond.fieldLink "GuideDesk$Ledger" (9 : Nat) "GuideDesk$Ledger" "channels" "I" ∈ TB := TB_of (sub_1 _ (List.mem_of_getElem? (i := 40) rfl)) rfl
theorem kt_41 : Cond.fieldLink "GuideDesk$Day" (39 : Nat) "GuideDesk$Ledger" "channels" "I" ∈ TB := TB_of (sub_1 _ (List.mem_of_getElem? (i := 41) rfl)) rfl
theorem kt_42 : Cond.fieldLink "GuideDesk" (85 : Nat) "GuideDesk$Ledger" "channels" "I" ∈ TB := TB_of (sub_1 _ (List.mem_of_getElem? (i := 42) rfl)) rfl
theorem kt_43 : Cond.fieldLink "GuideDesk$Ledger" (15 : Nat) "GuideDesk$Ledger" "sourceCount" "I" ∈ TB := TB_of (sub_1 _ (List.mem_of_getElem? (i := 43) rfl)) rfl
theorem kt_44 : Cond.fieldLink "GuideDesk$Day" (77 : Nat) "GuideDesk$Ledger" "sourceCount" "I" ∈ TB := TB_of (sub_1 _ (List.mem_of_getElem? (i := 44) rfl)) rfl
theorem kt_45 : Cond.fieldLink "GuideDesk" (222 : Nat) "GuideDesk$Ledger" "sourceCount" "I" ∈ TB := TB_of (sub_1 _ (List.mem_of_getElem? (i := 45) rfl)) rfl
theorem kt_46 : Cond.fieldLink "GuideDesk$Ledger" (18 : Nat) "GuideDesk$Ledger" "told" "I" ∈ TB := TB_of (sub_1 _ (List.mem_of_getElem? (i := 46) rfl)) rfl
theorem kt_47 : Cond.fieldLink "GuideDesk" (82 : Nat) "GuideDesk$Ledger" "told" "I" ∈ TB := TB_of (sub_1 _ (List.mem_of_getElem? (i := 47) rfl)) rfl
theorem kt_48 : Cond.fieldLink "GuideDesk$Ledger" (23 : Nat) "GuideDesk$Ledger" "sources" "[LGuideDesk$Source;" ∈ TB := TB_of (sub_1 _ (List.mem_of_getElem? (i := 48) rfl)) rfl
theorem kt_49 : Cond.fieldLink "GuideDesk$Ledger" (27 : Nat) "GuideDesk$Ledger" "ranked" "[LGuideDesk$Source;" ∈ TB := TB_of (sub_1 _ (List.mem_of_getElem? (i := 49) rfl)) rfl
theorem kt_50 : Cond.fieldLink "GuideDesk$Ledger" (32 : Nat) "GuideDesk$Ledger" "facts" "[LGuideDesk$Fact;" ∈ TB := TB_of (sub_1 _ (List.mem_of_getElem? (i := 50) rfl)) rfl
theorem kt_64 : Cond.classLink "GuideDesk" (16 : Nat) "GuideDesk$Day" ∈ TB := TB_of (sub_1 _ (List.mem_of_getElem? (i := 64) rfl)) rfl
theorem kt_65 : Cond.instantiable "GuideDesk$Day" (7 : Nat) ∈ TB := TB_of (sub_1 _ (List.mem_of_getElem? (i := 65) rfl)) rfl
theorem kt_67 : Cond.instanceMethod ({ cls := "GuideDesk$Day", name := "<init>", desc := "()V" } : Jvm.MethodName) ∈ TB := TB_of (sub_1 _ (List.mem_of_getElem? (i := 67) rfl)) rfl
theorem kt_68 : Cond.code ({ cls := "GuideDesk$Day", name := "<init>", desc := "()V" } : Jvm.MethodName) prog_3_method_1_code (1 : Nat) (Option.none : Option Jvm.ClassFile.FieldType) ∈ TB := TB_of (sub_1 _ (List.mem_of_getElem? (i := 68) rfl)) rfl
theorem kt_69 : Cond.methodLink "GuideDesk$Day" (3 : Nat) ({ cls := "java/lang/Object", name := "<init>", desc := "()V" } : Jvm.MethodName) ∈ TB := TB_of (sub_1 _ (List.mem_of_getElem? (i := 69) rfl)) rfl
theorem kt_72 : Cond.classLink "GuideDesk$Day" (30 : Nat) "GuideDesk$Showing" ∈ TB := TB_of (sub_1 _ (List.mem_of_getElem? (i := 72) rfl)) rfl
theorem kt_74 : Cond.fieldLink "GuideDesk$Day" (9 : Nat) "GuideDesk$Day" "size" "I" ∈ TB := TB_of (sub_1 _ (List.mem_of_getElem? (i := 74) rfl)) rfl
theorem kt_75 : Cond.fieldLink "GuideDesk$Plan" (36 : Nat) "GuideDesk$Day" "size" "I" ∈ TB := TB_of (sub_1 _ (List.mem_of_getElem? (i := 75) rfl)) rfl
theorem kt_76 : Cond.fieldLink "GuideDesk" (173 : Nat) "GuideDesk$Day" "size" "I" ∈ TB := TB_of (sub_1 _ (List.mem_of_getElem? (i := 76) rfl)) rfl
theorem kt_77 : Cond.fieldLink "GuideDesk$Day" (15 : Nat) "GuideDesk$Day" "knownBy" "I" ∈ TB := TB_of (sub_1 _ (List.mem_of_getElem? (i := 77) rfl)) rfl
theorem kt_78 : Cond.fieldLink "GuideDesk$Plan" (33 : Nat) "GuideDesk$Day" "knownBy" "I" ∈ TB := TB_of (sub_1 _ (List.mem_of_getElem? (i := 78) rfl)) rfl
theorem kt_79 : Cond.fieldLink "GuideDesk$Day" (18 : Nat) "GuideDesk$Day" "width" "I" ∈ TB := TB_of (sub_1 _ (List.mem_of_getElem? (i := 79) rfl)) rfl
theorem kt_80 : Cond.fieldLink "GuideDesk$Day" (23 : Nat) "GuideDesk$Day" "rows" "[[I" ∈ TB := TB_of (sub_1 _ (List.mem_of_getElem? (i := 80) rfl)) rfl
theorem kt_81 : Cond.fieldLink "GuideDesk$Day" (26 : Nat) "GuideDesk$Day" "stood" "[I" ∈ TB := TB_of (sub_1 _ (List.mem_of_getElem? (i := 81) rfl)) rfl
theorem kt_82 : Cond.fieldLink "GuideDesk$Day" (32 : Nat) "GuideDesk$Day" "showings" "[LGuideDesk$Showing;" ∈ TB := TB_of (sub_1 _ (List.mem_of_getElem? (i := 82) rfl)) rfl
theorem kt_83 : Cond.fieldLink "GuideDesk$Day" (36 : Nat) "GuideDesk$Day" "leastByMark" "[I" ∈ TB := TB_of (sub_1 _ (List.mem_of_getElem? (i := 83) rfl)) rfl
theorem kt_99 : Cond.arrayClass Jvm.ClassFile.FieldType.int ∈ TB := TB_of (sub_1 _ (List.mem_of_getElem? (i := 99) rfl)) rfl
theorem kt_100 : Cond.classLink "GuideDesk" (23 : Nat) "GuideDesk$Tape" ∈ TB := TB_of (sub_1 _ (List.mem_of_getElem? (i := 100) rfl)) rfl
theorem kt_101 : Cond.instantiable "GuideDesk$Tape" (6 : Nat) ∈ TB := TB_of (sub_1 _ (List.mem_of_getElem? (i := 101) rfl)) rfl
theorem kt_103 : Cond.instanceMethod ({ cls := "GuideDesk$Tape", name := "<init>", desc := "()V" } : Jvm.MethodName) ∈ TB := TB_of (sub_1 _ (List.mem_of_getElem? (i := 103) rfl)) rfl
theorem kt_104 : Cond.code ({ cls := "GuideDesk$Tape", name := "<init>", desc := "()V" } : Jvm.MethodName) prog_10_method_1_code (1 : Nat) (Option.none : Option Jvm.ClassFile.FieldType) ∈ TB := TB_of (sub_1 _ (List.mem_of_getElem? (i := 104) rfl)) rfl
theorem kt_105 : Cond.methodLink "GuideDesk$Tape" (3 : Nat) ({ cls := "java/lang/Object", name := "<init>", desc := "()V" } : Jvm.MethodName) ∈ TB := TB_of (sub_1 _ (List.mem_of_getElem? (i := 105) rfl)) rfl
theorem kt_106 : Cond.fieldLink "GuideDesk$Tape" (9 : Nat) "GuideDesk$Tape" "size" "I" ∈ TB := TB_of (sub_1 _ (List.mem_of_getElem? (i := 106) rfl)) rfl
theorem kt_107 : Cond.fieldLink "GuideDesk" (64 : Nat) "GuideDesk$Tape" "size" "I" ∈ TB := TB_of (sub_1 _ (List.mem_of_getElem? (i := 107) rfl)) rfl
theorem kt_108 : Cond.fieldLink "GuideDesk$WishReader" (65 : Nat) "GuideDesk$Tape" "size" "I" ∈ TB := TB_of (sub_1 _ (List.mem_of_getElem? (i := 108) rfl)) rfl
theorem kt_109 : Cond.fieldLink "GuideDesk$Tape" (15 : Nat) "GuideDesk$Tape" "kind" "I" ∈ TB := TB_of (sub_1 _ (List.mem_of_getElem? (i := 109) rfl)) rfl
theorem kt_110 : Cond.fieldLink "GuideDesk$WishReader" (72 : Nat) "GuideDesk$Tape" "kind" "I" ∈ TB := TB_of (sub_1 _ (List.mem_of_getElem? (i := 110) rfl)) rfl
theorem kt_111 : Cond.fieldLink "GuideDesk$Tape" (18 : Nat) "GuideDesk$Tape" "number" "I" ∈ TB := TB_of (sub_1 _ (List.mem_of_getElem? (i := 111) rfl)) rfl
theorem kt_112 : Cond.fieldLink "GuideDesk$WishReader" (118 : Nat) "GuideDesk$Tape" "number" "I" ∈ TB := TB_of (sub_1 _ (List.mem_of_getElem? (i := 112) rfl)) rfl
theorem kt_113 : Cond.fieldLink "GuideDesk$Tape" (21 : Nat) "GuideDesk$Tape" "begin" "I" ∈ TB := TB_of (sub_1 _ (List.mem_of_getElem? (i := 113) rfl)) rfl
theorem kt_114 : Cond.fieldLink "GuideDesk$WishReader" (79 : Nat) "GuideDesk$Tape" "begin" "I" ∈ TB := TB_of (sub_1 _ (List.mem_of_getElem? (i := 114) rfl)) rfl
theorem kt_115 : Cond.fieldLink "GuideDesk$Tape" (24 : Nat) "GuideDesk$Tape" "end" "I" ∈ TB := TB_of (sub_1 _ (List.mem_of_getElem? (i := 115) rfl)) rfl
theorem kt_116 : Cond.fieldLink "GuideDesk$Tape" (27 : Nat) "GuideDesk$Tape" "bytes" "[B" ∈ TB := TB_of (sub_1 _ (List.mem_of_getElem? (i := 116) rfl)) rfl
theorem kt_130 : Cond.arrayClass Jvm.ClassFile.FieldType.byte ∈ TB := TB_of (sub_1 _ (List.mem_of_getElem? (i := 130) rfl)) rfl
theorem kt_131 : Cond.classLink "GuideDesk" (30 : Nat) "GuideDesk$WishReader" ∈ TB := TB_of (sub_1 _ (List.mem_of_getElem? (i := 131) rfl)) rfl
theorem kt_132 : Cond.instantiable "GuideDesk$WishReader" (10 : Nat) ∈ TB := TB_of (sub_1 _ (List.mem_of_getElem? (i := 132) rfl)) rfl
theorem kt_134 : Cond.instanceMethod ({ cls := "GuideDesk$WishReader", name := "<init>", desc := "()V" } : Jvm.MethodName) ∈ TB := TB_of (sub_1 _ (List.mem_of_getElem? (i := 134) rfl)) rfl
theorem kt_135 : Cond.code ({ cls := "GuideDesk$WishReader", name := "<init>", desc := "()V" } : Jvm.MethodName) prog_11_method_1_code (1 : Nat) (Option.none : Option Jvm.ClassFile.FieldType) ∈ TB := TB_of (sub_1 _ (List.mem_of_getElem? (i := 135) rfl)) rfl
theorem kt_136 : Cond.methodLink "GuideDesk$WishReader" (3 : Nat) ({ cls := "java/lang/Object", name := "<init>", desc := "()V" } : Jvm.MethodName) ∈ TB := TB_of (sub_1 _ (List.mem_of_getElem? (i := 136) rfl)) rfl
theorem kt_137 : Cond.fieldLink "GuideDesk$WishReader" (9 : Nat) "GuideDesk$WishReader" "fault" "I" ∈ TB := TB_of (sub_1 _ (List.mem_of_getElem? (i := 137) rfl)) rfl
theorem kt_138 : Cond.fieldLink "GuideDesk" (76 : Nat) "GuideDesk$WishReader" "fault" "I" ∈ TB := TB_of (sub_1 _ (List.mem_of_getElem? (i := 138) rfl)) rfl
theorem kt_139 : Cond.fieldLink "GuideDesk$WishReader" (15 : Nat) "GuideDesk$WishReader" "faultPlace" "I" ∈ TB := TB_of (sub_1 _ (List.mem_of_getElem? (i := 139) rfl)) rfl
theorem kt_140 : Cond.fieldLink "GuideDesk" (79 : Nat) "GuideDesk$WishReader" "faultPlace" "I" ∈ TB := TB_of (sub_1 _ (List.mem_of_getElem? (i := 140) rfl)) rfl
theorem kt_141 : Cond.fieldLink "GuideDesk$WishReader" (18 : Nat) "GuideDesk$WishReader" "wrongPlace" "I" ∈ TB := TB_of (sub_1 _ (List.mem_of_getElem? (i := 141) rfl)) rfl
theorem kt_142 : Cond.fieldLink "GuideDesk$WishReader" (21 : Nat) "GuideDesk$WishReader" "state" "I" ∈ TB := TB_of (sub_1 _ (List.mem_of_getElem? (i := 142) rfl)) rfl
theorem kt_143 : Cond.fieldLink "GuideDesk$WishReader" (24 : Nat) "GuideDesk$WishReader" "tokens" "I" ∈ TB := TB_of (sub_1 _ (List.mem_of_getElem? (i := 143) rfl)) rfl
theorem kt_144 : Cond.fieldLink "GuideDesk$WishReader" (27 : Nat) "GuideDesk$WishReader" "depth" "I" ∈ TB := TB_of (sub_1 _ (List.mem_of_getElem? (i := 144) rfl)) rfl
theorem kt_145 : Cond.fieldLink "GuideDesk$WishReader" (30 : Nat) "GuideDesk$WishReader" "isCompared" "Z" ∈ TB := TB_of (sub_1 _ (List.mem_of_getElem? (i := 145) rfl)) rfl
theorem kt_146 : Cond.fieldLink "GuideDesk$WishReader" (34 : Nat) "GuideDesk$WishReader" "amount" "I" ∈ TB := TB_of (sub_1 _ (List.mem_of_getElem? (i := 146) rfl)) rfl
theorem kt_147 : Cond.fieldLink "GuideDesk$WishReader" (37 : Nat) "GuideDesk$WishReader" "waitingCount" "I" ∈ TB := TB_of (sub_1 _ (List.mem_of_getElem? (i := 147) rfl)) rfl
theorem kt_148 : Cond.fieldLink "GuideDesk$WishReader" (40 : Nat) "GuideDesk$WishReader" "waiting" "[I" ∈ TB := TB_of (sub_1 _ (List.mem_of_getElem? (i := 148) rfl)) rfl
theorem kt_170 : Cond.classLink "GuideDesk" (37 : Nat) "GuideDesk$Recorder" ∈ TB := TB_of (sub_1 _ (List.mem_of_getElem? (i := 170) rfl)) rfl
theorem kt_171 : Cond.instantiable "GuideDesk$Recorder" (13 : Nat) ∈ TB := TB_of (sub_1 _ (List.mem_of_getElem? (i := 171) rfl)) rfl
theorem kt_173 : Cond.instanceMethod ({ cls := "GuideDesk$Recorder", name := "<init>", desc := "()V" } : Jvm.MethodName) ∈ TB := TB_of (sub_1 _ (List.mem_of_getElem? (i := 173) rfl)) rfl
theorem kt_174 : Cond.code ({ cls := "GuideDesk$Recorder", name := "<init>", desc := "()V" } : Jvm.MethodName) prog_7_method_1_code (1 : Nat) (Option.none : Option Jvm.ClassFile.FieldType) ∈ TB := TB_of (sub_1 _ (List.mem_of_getElem? (i := 174) rfl)) rfl
theorem kt_175 : Cond.methodLink "GuideDesk$Recorder" (3 : Nat) ({ cls := "java/lang/Object", name := "<init>", desc := "()V" } : Jvm.MethodName) ∈ TB := TB_of (sub_1 _ (List.mem_of_getElem? (i := 175) rfl)) rfl
theorem kt_176 : Cond.fieldLink "GuideDesk$Recorder" (9 : Nat) "GuideDesk$Recorder" "tuners" "I" ∈ TB := TB_of (sub_1 _ (List.mem_of_getElem? (i := 176) rfl)) rfl
theorem kt_177 : Cond.fieldLink "GuideDesk$Plan" (121 : Nat) "GuideDesk$Recorder" "tuners" "I" ∈ TB := TB_of (sub_1 _ (List.mem_of_getElem? (i := 177) rfl)) rfl
theorem kt_178 : Cond.fieldLink "GuideDesk" (109 : Nat) "GuideDesk$Recorder" "tuners" "I" ∈ TB := TB_of (sub_1 _ (List.mem_of_getElem? (i := 178) rfl)) rfl
theorem kt_179 : Cond.fieldLink "GuideDesk$Recorder" (15 : Nat) "GuideDesk$Recorder" "lead" "I" ∈ TB := TB_of (sub_1 _ (List.mem_of_getElem? (i := 179) rfl)) rfl
theorem kt_180 : Cond.fieldLink "GuideDesk$Candidate" (43 : Nat) "GuideDesk$Recorder" "lead" "I" ∈ TB := TB_of (sub_1 _ (List.mem_of_getElem? (i := 180) rfl)) rfl
theorem kt_181 : Cond.fieldLink "GuideDesk" (112 : Nat) "GuideDesk$Recorder" "lead" "I" ∈ TB := TB_of (sub_1 _ (List.mem_of_getElem? (i := 181) rfl)) rfl
theorem kt_182 : Cond.fieldLink "GuideDesk$Recorder" (18 : Nat) "GuideDesk$Recorder" "tail" "I" ∈ TB := TB_of (sub_1 _ (List.mem_of_getElem? (i := 182) rfl)) rfl
theorem kt_183 : Cond.fieldLink "GuideDesk$Candidate" (60 : Nat) "GuideDesk$Recorder" "tail" "I" ∈ TB := TB_of (sub_1 _ (List.mem_of_getElem? (i := 183) rfl)) rfl
theorem kt_184 : Cond.fieldLink "GuideDesk" (115 : Nat) "GuideDesk$Recorder" "tail" "I" ∈ TB := TB_of (sub_1 _ (List.mem_of_getElem? (i := 184) rfl)) rfl
theorem kt_185 : Cond.fieldLink "GuideDesk$Recorder" (21 : Nat) "GuideDesk$Recorder" "room" "I" ∈ TB := TB_of (sub_1 _ (List.mem_of_getElem? (i := 185) rfl)) rfl
theorem kt_186 : Cond.fieldLink "GuideDesk$Plan" (129 : Nat) "GuideDesk$Recorder" "room" "I" ∈ TB := TB_of (sub_1 _ (List.mem_of_getElem? (i := 186) rfl)) rfl
theorem kt_187 : Cond.fieldLink "GuideDesk" (118 : Nat) "GuideDesk$Recorder" "room" "I" ∈ TB := TB_of (sub_1 _ (List.mem_of_getElem? (i := 187) rfl)) rfl
theorem kt_188 : Cond.fieldLink "GuideDesk$Recorder" (24 : Nat) "GuideDesk$Recorder" "now" "I" ∈ TB := TB_of (sub_1 _ (List.mem_of_getElem? (i := 188) rfl)) rfl
theorem kt_189 : Cond.fieldLink "GuideDesk" (121 : Nat) "GuideDesk$Recorder" "now" "I" ∈ TB := TB_of (sub_1 _ (List.mem_of_getElem? (i := 189) rfl)) rfl
theorem kt_190 : Cond.fieldLink "GuideDesk$Recorder" (27 : Nat) "GuideDesk$Recorder" "chosen" "I" ∈ TB := TB_of (sub_1 _ (List.mem_of_getElem? (i := 190) rfl)) rfl
theorem kt_191 : Cond.fieldLink "GuideDesk$Recorder" (30 : Nat) "GuideDesk$Recorder" "underWay" "I" ∈ TB := TB_of (sub_1 _ (List.mem_of_getElem? (i := 191) rfl)) rfl
theorem kt_192 : Cond.fieldLink "GuideDesk$Recorder" (33 : Nat) "GuideDesk$Recorder" "weight" "I" ∈ TB := TB_of (sub_1 _ (List.mem_of_getElem? (i := 192) rfl)) rfl
theorem kt_193 : Cond.fieldLink "GuideDesk$Recorder" (36 : Nat) "GuideDesk$Recorder" "spans" "I" ∈ TB := TB_of (sub_1 _ (List.mem_of_getElem? (i := 193) rfl)) rfl
theorem kt_194 : Cond.fieldLink "GuideDesk$Recorder" (39 : Nat) "GuideDesk$Recorder" "bestChosen" "I" ∈ TB := TB_of (sub_1 _ (List.mem_of_getElem? (i := 194) rfl)) rfl
theorem kt_195 : Cond.fieldLink "GuideDesk$Recorder" (42 : Nat) "GuideDesk$Recorder" "bestUnderWay" "I" ∈ TB := TB_of (sub_1 _ (List.mem_of_getElem? (i := 195) rfl)) rfl
theorem kt_196 : Cond.fieldLink "GuideDesk$Recorder" (45 : Nat) "GuideDesk$Recorder" "bestWeight" "I" ∈ TB := TB_of (sub_1 _ (List.mem_of_getElem? (i := 196) rfl)) rfl
theorem kt_197 : Cond.fieldLink "GuideDesk$Recorder" (48 : Nat) "GuideDesk$Recorder" "bestSpans" "I" ∈ TB := TB_of (sub_1 _ (List.mem_of_getElem? (i := 197) rfl)) rfl
theorem kt_225 : Cond.classLink "GuideDesk" (44 : Nat) "GuideDesk$Wishes" ∈ TB := TB_of (sub_1 _ (List.mem_of_getElem? (i := 225) rfl)) rfl
theorem kt_226 : Cond.instantiable "GuideDesk$Wishes" (6 : Nat) ∈ TB := TB_of (sub_1 _ (List.mem_of_getElem? (i := 226) rfl)) rfl
theorem kt_228 : Cond.instanceMethod ({ cls := "GuideDesk$Wishes", name := "<init>", desc := "()V" } : Jvm.MethodName) ∈ TB := TB_of (sub_1 _ (List.mem_of_getElem? (i := 228) rfl)) rfl
theorem kt_229 : Cond.code ({ cls := "GuideDesk$Wishes", name := "<init>", desc := "()V" } : Jvm.MethodName) prog_12_method_1_code (1 : Nat) (Option.none : Option Jvm.ClassFile.FieldType) ∈ TB := TB_of (sub_1 _ (List.mem_of_getElem? (i := 229) rfl)) rfl
theorem kt_230 : Cond.methodLink "GuideDesk$Wishes" (3 : Nat) ({ cls := "java/lang/Object", name := "<init>", desc := "()V" } : Jvm.MethodName) ∈ TB := TB_of (sub_1 _ (List.mem_of_getElem? (i := 230) rfl)) rfl
theorem kt_231 : Cond.fieldLink "GuideDesk$Wishes" (9 : Nat) "GuideDesk$Wishes" "rules" "I" ∈ TB := TB_of (sub_1 _ (List.mem_of_getElem? (i := 231) rfl)) rfl
theorem kt_232 : Cond.fieldLink "GuideDesk$WishReader" (104 : Nat) "GuideDesk$Wishes" "rules" "I" ∈ TB := TB_of (sub_1 _ (List.mem_of_getElem? (i := 232) rfl)) rfl
theorem kt_233 : Cond.fieldLink "GuideDesk" (174 : Nat) "GuideDesk$Wishes" "rules" "I" ∈ TB := TB_of (sub_1 _ (List.mem_of_getElem? (i := 233) rfl)) rfl
theorem kt_234 : Cond.fieldLink "GuideDesk$Wishes" (15 : Nat) "GuideDesk$Wishes" "length" "I" ∈ TB := TB_of (sub_1 _ (List.mem_of_getElem? (i := 234) rfl)) rfl
theorem kt_235 : Cond.fieldLink "GuideDesk$Wishes" (18 : Nat) "GuideDesk$Wishes" "code" "[I" ∈ TB := TB_of (sub_1 _ (List.mem_of_getElem? (i := 235) rfl)) rfl
theorem kt_236 : Cond.fieldLink "GuideDesk$Wishes" (22 : Nat) "GuideDesk$Wishes" "ends" "[I" ∈ TB := TB_of (sub_1 _ (List.mem_of_getElem? (i := 236) rfl)) rfl
theorem kt_237 : Cond.fieldLink "GuideDesk$Wishes" (25 : Nat) "GuideDesk$Wishes" "amounts" "[I" ∈ TB := TB_of (sub_1 _ (List.mem_of_getElem? (i := 237) rfl)) rfl
theorem kt_238 : Cond.fieldLink "GuideDesk$Wishes" (28 : Nat) "GuideDesk$Wishes" "stack" "[I" ∈ TB := TB_of (sub_1 _ (List.mem_of_getElem? (i := 238) rfl)) rfl
theorem kt_252 : Cond.classLink "GuideDesk" (54 : Nat) "GuideDesk$Plan" ∈ TB := TB_of (sub_2 _ (List.mem_of_getElem? (i := 12) rfl)) rfl
theorem kt_253 : Cond.instantiable "GuideDesk$Plan" (6 : Nat) ∈ TB := TB_of (sub_2 _ (List.mem_of_getElem? (i := 13) rfl)) rfl
theorem kt_255 : Cond.instanceMethod ({ cls := "GuideDesk$Plan", name := "<init>", desc := "()V" } : Jvm.MethodName) ∈ TB := TB_of (sub_2 _ (List.mem_of_getElem? (i := 15) rfl)) rfl
theorem kt_256 : Cond.code ({ cls := "GuideDesk$Plan", name := "<init>", desc := "()V" } : Jvm.MethodName) prog_6_method_1_code (1 : Nat) (Option.none : Option Jvm.ClassFile.FieldType) ∈ TB := TB_of (sub_2 _ (List.mem_of_getElem? (i := 16) rfl)) rfl
theorem kt_257 : Cond.methodLink "GuideDesk$Plan" (3 : Nat) ({ cls := "java/lang/Object", name := "<init>", desc := "()V" } : Jvm.MethodName) ∈ TB := TB_of (sub_2 _ (List.mem_of_getElem? (i := 17) rfl)) rfl
theorem kt_258 : Cond.classLink "GuideDesk$Plan" (27 : Nat) "GuideDesk$Candidate" ∈ TB := TB_of (sub_2 _ (List.mem_of_getElem? (i := 18) rfl)) rfl
theorem kt_260 : Cond.fieldLink "GuideDesk$Plan" (9 : Nat) "GuideDesk$Plan" "size" "I" ∈ TB := TB_of (sub_2 _ (List.mem_of_getElem? (i := 20) rfl)) rfl
theorem kt_261 : Cond.fieldLink "GuideDesk" (231 : Nat) "GuideDesk$Plan" "size" "I" ∈ TB := TB_of (sub_2 _ (List.mem_of_getElem? (i := 21) rfl)) rfl
theorem kt_262 : Cond.fieldLink "GuideDesk$Plan" (15 : Nat) "GuideDesk$Plan" "knownBy" "I" ∈ TB := TB_of (sub_2 _ (List.mem_of_getElem? (i := 22) rfl)) rfl
theorem kt_263 : Cond.fieldLink "GuideDesk" (225 : Nat) "GuideDesk$Plan" "knownBy" "I" ∈ TB := TB_of (sub_2 _ (List.mem_of_getElem? (i := 23) rfl)) rfl
theorem kt_264 : Cond.fieldLink "GuideDesk$Plan" (18 : Nat) "GuideDesk$Plan" "members" "I" ∈ TB := TB_of (sub_2 _ (List.mem_of_getElem? (i := 24) rfl)) rfl
theorem kt_265 : Cond.fieldLink "GuideDesk" (232 : Nat) "GuideDesk$Plan" "members" "I" ∈ TB := TB_of (sub_2 _ (List.mem_of_getElem? (i := 25) rfl)) rfl
theorem kt_266 : Cond.fieldLink "GuideDesk$Plan" (21 : Nat) "GuideDesk$Plan" "weight" "I" ∈ TB := TB_of (sub_2 _ (List.mem_of_getElem? (i := 26) rfl)) rfl
theorem kt_267 : Cond.fieldLink "GuideDesk" (197 : Nat) "GuideDesk$Plan" "weight" "I" ∈ TB := TB_of (sub_2 _ (List.mem_of_getElem? (i := 27) rfl)) rfl
theorem kt_268 : Cond.fieldLink "GuideDesk$Plan" (24 : Nat) "GuideDesk$Plan" "spans" "I" ∈ TB := TB_of (sub_2 _ (List.mem_of_getElem? (i := 28) rfl)) rfl
theorem kt_269 : Cond.fieldLink "GuideDesk" (235 : Nat) "GuideDesk$Plan" "spans" "I" ∈ TB := TB_of (sub_2 _ (List.mem_of_getElem? (i := 29) rfl)) rfl
theorem kt_270 : Cond.fieldLink "GuideDesk$Plan" (29 : Nat) "GuideDesk$Plan" "candidates" "[LGuideDesk$Candidate;" ∈ TB := TB_of (sub_2 _ (List.mem_of_getElem? (i := 30) rfl)) rfl
theorem kt_284 : Cond.fieldLink "GuideDesk" (12 : Nat) "GuideDesk" "ledger" "LGuideDesk$Ledger;" ∈ TB := TB_of (sub_2 _ (List.mem_of_getElem? (i := 44) rfl)) rfl
theorem kt_285 : Cond.fieldLink "GuideDesk" (19 : Nat) "GuideDesk" "day" "LGuideDesk$Day;" ∈ TB := TB_of (sub_2 _ (List.mem_of_getElem? (i := 45) rfl)) rfl
theorem kt_286 : Cond.fieldLink "GuideDesk" (26 : Nat) "GuideDesk" "tape" "LGuideDesk$Tape;" ∈ TB := TB_of (sub_2 _ (List.mem_of_getElem? (i := 46) rfl)) rfl
theorem kt_287 : Cond.fieldLink "GuideDesk" (33 : Nat) "GuideDesk" "reader" "LGuideDesk$WishReader;" ∈ TB := TB_of (sub_2 _ (List.mem_of_getElem? (i := 47) rfl)) rfl
theorem kt_288 : Cond.fieldLink "GuideDesk" (40 : Nat) "GuideDesk" "settings" "LGuideDesk$Recorder;" ∈ TB := TB_of (sub_2 _ (List.mem_of_getElem? (i := 48) rfl)) rfl
theorem kt_289 : Cond.fieldLink "GuideDesk" (47 : Nat) "GuideDesk" "wishes" "LGuideDesk$Wishes;" ∈ TB := TB_of (sub_2 _ (List.mem_of_getElem? (i := 49) rfl)) rfl
theorem kt_290 : Cond.fieldLink "GuideDesk" (51 : Nat) "GuideDesk" "spareWishes" "LGuideDesk$Wishes;" ∈ TB := TB_of (sub_2 _ (List.mem_of_getElem? (i := 50) rfl)) rfl
theorem kt_291 : Cond.fieldLink "GuideDesk" (57 : Nat) "GuideDesk" "atHand" "LGuideDesk$Plan;" ∈ TB := TB_of (sub_2 _ (List.mem_of_getElem? (i := 51) rfl)) rfl
theorem kt_292 : Cond.fieldLink "GuideDesk" (61 : Nat) "GuideDesk" "sparePlan" "LGuideDesk$Plan;" ∈ TB := TB_of (sub_2 _ (List.mem_of_getElem? (i := 52) rfl)) rfl
theorem kt_315 : Cond.code ({ cls := "GuideDesk", name := "feed", desc := "(IIIII)I" } : Jvm.MethodName) prog_1_method_2_code (6 : Nat) (Option.some Jvm.ClassFile.FieldType.int) ∈ TB := TB_of (sub_2 _ (List.mem_of_getElem? (i := 75) rfl)) rfl
theorem kt_316 : Cond.methodLink "GuideDesk" (68 : Nat) ({ cls := "GuideDesk$Tape", name := "append", desc := "(I)V" } : Jvm.MethodName) ∈ TB := TB_of (sub_2 _ (List.mem_of_getElem? (i := 76) rfl)) rfl
theorem kt_317 : Cond.instanceMethod ({ cls := "GuideDesk$Tape", name := "append", desc := "(I)V" } : Jvm.MethodName) ∈ TB := TB_of (sub_2 _ (List.mem_of_getElem? (i := 77) rfl)) rfl
theorem kt_318 : Cond.selects "GuideDesk$Tape" ({ cls := "GuideDesk$Tape", name := "append", desc := "(I)V" } : Jvm.MethodName) ({ cls := "GuideDesk$Tape", name := "append", desc := "(I)V" } : Jvm.MethodName) ∈ TB := TB_of (sub_2 _ (List.mem_of_getElem? (i := 78) rfl)) rfl
theorem kt_319 : Cond.code ({ cls := "GuideDesk$Tape", name := "append", desc := "(I)V" } : Jvm.MethodName) prog_10_method_2_code (3 : Nat) (Option.none : Option Jvm.ClassFile.FieldType) ∈ TB := TB_of (sub_2 _ (List.mem_of_getElem? (i := 79) rfl)) rfl
theorem kt_323 : Cond.code ({ cls := "GuideDesk", name := "back", desc := "(I)I" } : Jvm.MethodName) prog_1_method_3_code (2 : Nat) (Option.some Jvm.ClassFile.FieldType.int) ∈ TB := TB_of (sub_2 _ (List.mem_of_getElem? (i := 83) rfl)) rfl
theorem kt_327 : Cond.code ({ cls := "GuideDesk", name := "read", desc := "()I" } : Jvm.MethodName) prog_1_method_4_code (2 : Nat) (Option.some Jvm.ClassFile.FieldType.int) ∈ TB := TB_of (sub_2 _ (List.mem_of_getElem? (i := 87) rfl)) rfl
theorem kt_328 : Cond.methodLink "GuideDesk" (72 : Nat) ({ cls := "GuideDesk$WishReader", name := "compile", desc := "(LGuideDesk$Tape;LGuideDesk$Wishes;)V" } : Jvm.MethodName) ∈ TB := TB_of (sub_2 _ (List.mem_of_getElem? (i := 88) rfl)) rfl
theorem kt_329 : Cond.instanceMethod ({ cls := "GuideDesk$WishReader", name := "compile", desc := "(LGuideDesk$Tape;LGuideDesk$Wishes;)V" } : Jvm.MethodName) ∈ TB := TB_of (sub_2 _ (List.mem_of_getElem? (i := 89) rfl)) rfl
theorem kt_330 : Cond.selects "GuideDesk$WishReader" ({ cls := "GuideDesk$WishReader", name := "compile", desc := "(LGuideDesk$Tape;LGuideDesk$Wishes;)V" } : Jvm.MethodName) ({ cls := "GuideDesk$WishReader", name := "compile", desc := "(LGuideDesk$Tape;LGuideDesk$Wishes;)V" } : Jvm.MethodName) ∈ TB := TB_of (sub_2 _ (List.mem_of_getElem? (i := 90) rfl)) rfl
theorem kt_331 : Cond.code ({ cls := "GuideDesk$WishReader", name := "compile", desc := "(LGuideDesk$Tape;LGuideDesk$Wishes;)V" } : Jvm.MethodName) prog_11_method_2_code (4 : Nat) (Option.none : Option Jvm.ClassFile.FieldType) ∈ TB := TB_of (sub_2 _ (List.mem_of_getElem? (i := 91) rfl)) rfl
theorem kt_332 : Cond.methodLink "GuideDesk$WishReader" (44 : Nat) ({ cls := "GuideDesk$WishReader", name := "startOver", desc := "()V" } : Jvm.MethodName) ∈ TB := TB_of (sub_2 _ (List.mem_of_getElem? (i := 92) rfl)) rfl
theorem kt_334 : Cond.instanceMethod ({ cls := "GuideDesk$WishReader", name := "startOver", desc := "()V" } : Jvm.MethodName) ∈ TB := TB_of (sub_2 _ (List.mem_of_getElem? (i := 94) rfl)) rfl
theorem kt_335 : Cond.code ({ cls := "GuideDesk$WishReader", name := "startOver", desc := "()V" } : Jvm.MethodName) prog_11_method_3_code (1 : Nat) (Option.none : Option Jvm.ClassFile.FieldType) ∈ TB := TB_of (sub_2 _ (List.mem_of_getElem? (i := 95) rfl)) rfl
theorem kt_336 : Cond.methodLink "GuideDesk$WishReader" (47 : Nat) ({ cls := "GuideDesk$Wishes", name := "clear", desc := "()V" } : Jvm.MethodName) ∈ TB := TB_of (sub_2 _ (List.mem_of_getElem? (i := 96) rfl)) rfl
theorem kt_337 : Cond.instanceMethod ({ cls := "GuideDesk$Wishes", name := "clear", desc := "()V" } : Jvm.MethodName) ∈ TB := TB_of (sub_2 _ (List.mem_of_getElem? (i := 97) rfl)) rfl
theorem kt_338 : Cond.selects "GuideDesk$Wishes" ({ cls := "GuideDesk$Wishes", name := "clear", desc := "()V" } : Jvm.MethodName) ({ cls := "GuideDesk$Wishes", name := "clear", desc := "()V" } : Jvm.MethodName) ∈ TB := TB_of (sub_2 _ (List.mem_of_getElem? (i := 98) rfl)) rfl
theorem kt_339 : Cond.code ({ cls := "GuideDesk$Wishes", name := "clear", desc := "()V" } : Jvm.MethodName) prog_12_method_2_code (1 : Nat) (Option.none : Option Jvm.ClassFile.FieldType) ∈ TB := TB_of (sub_2 _ (List.mem_of_getElem? (i := 99) rfl)) rfl
theorem kt_340 : Cond.methodLink "GuideDesk$WishReader" (52 : Nat) ({ cls := "GuideDesk$Tape", name := "rewind", desc := "()V" } : Jvm.MethodName) ∈ TB := TB_of (sub_2 _ (List.mem_of_getElem? (i := 100) rfl)) rfl
theorem kt_341 : Cond.instanceMethod ({ cls := "GuideDesk$Tape", name := "rewind", desc := "()V" } : Jvm.MethodName) ∈ TB := TB_of (sub_2 _ (List.mem_of_getElem? (i := 101) rfl)) rfl
theorem kt_342 : Cond.selects "GuideDesk$Tape" ({ cls := "GuideDesk$Tape", name := "rewind", desc := "()V" } : Jvm.MethodName) ({ cls := "GuideDesk$Tape", name := "rewind", desc := "()V" } : Jvm.MethodName) ∈ TB := TB_of (sub_2 _ (List.mem_of_getElem? (i := 102) rfl)) rfl
theorem kt_343 : Cond.code ({ cls := "GuideDesk$Tape", name := "rewind", desc := "()V" } : Jvm.MethodName) prog_10_method_3_code (1 : Nat) (Option.none : Option Jvm.ClassFile.FieldType) ∈ TB := TB_of (sub_2 _ (List.mem_of_getElem? (i := 103) rfl)) rfl
theorem kt_344 : Cond.methodLink "GuideDesk$WishReader" (57 : Nat) ({ cls := "GuideDesk$Tape", name := "advance", desc := "()Z" } : Jvm.MethodName) ∈ TB := TB_of (sub_2 _ (List.mem_of_getElem? (i := 104) rfl)) rfl
theorem kt_345 : Cond.instanceMethod ({ cls := "GuideDesk$Tape", name := "advance", desc := "()Z" } : Jvm.MethodName) ∈ TB := TB_of (sub_2 _ (List.mem_of_getElem? (i := 105) rfl)) rfl
theorem kt_346 : Cond.selects "GuideDesk$Tape" ({ cls := "GuideDesk$Tape", name := "advance", desc := "()Z" } : Jvm.MethodName) ({ cls := "GuideDesk$Tape", name := "advance", desc := "()Z" } : Jvm.MethodName) ∈ TB := TB_of (sub_2 _ (List.mem_of_getElem? (i := 106) rfl)) rfl
theorem kt_347 : Cond.code ({ cls := "GuideDesk$Tape", name := "advance", desc := "()Z" } : Jvm.MethodName) prog_10_method_4_code (2 : Nat) (Option.some Jvm.ClassFile.FieldType.boolean) ∈ TB := TB_of (sub_2 _ (List.mem_of_getElem? (i := 107) rfl)) rfl
theorem kt_348 : Cond.methodLink "GuideDesk$Tape" (31 : Nat) ({ cls := "GuideDesk$Tape", name := "byteAt", desc := "(I)I" } : Jvm.MethodName) ∈ TB := TB_of (sub_2 _ (List.mem_of_getElem? (i := 108) rfl)) rfl
theorem kt_350 : Cond.instanceMethod ({ cls := "GuideDesk$Tape", name := "byteAt", desc := "(I)I" } : Jvm.MethodName) ∈ TB := TB_of (sub_2 _ (List.mem_of_getElem? (i := 110) rfl)) rfl
theorem kt_351 : Cond.code ({ cls := "GuideDesk$Tape", name := "byteAt", desc := "(I)I" } : Jvm.MethodName) prog_10_method_8_code (2 : Nat) (Option.some Jvm.ClassFile.FieldType.int) ∈ TB := TB_of (sub_2 _ (List.mem_of_getElem? (i := 111) rfl)) rfl
theorem kt_352 : Cond.methodLink "GuideDesk$Tape" (35 : Nat) ({ cls := "GuideDesk$Tape", name := "isBlank", desc := "(I)Z" } : Jvm.MethodName) ∈ TB := TB_of (sub_2 _ (List.mem_of_getElem? (i := 112) rfl)) rfl
theorem kt_353 : Cond.static ({ cls := "GuideDesk$Tape", name := "isBlank", desc := "(I)Z" } : Jvm.MethodName) ∈ TB := TB_of (sub_2 _ (List.mem_of_getElem? (i := 113) rfl)) rfl
theorem kt_354 : Cond.code ({ cls := "GuideDesk$Tape", name := "isBlank", desc := "(I)Z" } : Jvm.MethodName) prog_10_method_9_code (1 : Nat) (Option.some Jvm.ClassFile.FieldType.boolean) ∈ TB := TB_of (sub_2 _ (List.mem_of_getElem? (i := 114) rfl)) rfl
theorem kt_355 : Cond.methodLink "GuideDesk$Tape" (39 : Nat) ({ cls := "GuideDesk$Tape", name := "isLetter", desc := "(I)Z" } : Jvm.MethodName) ∈ TB := TB_of (sub_2 _ (List.mem_of_getElem? (i := 115) rfl)) rfl
theorem kt_356 : Cond.static ({ cls := "GuideDesk$Tape", name := "isLetter", desc := "(I)Z" } : Jvm.MethodName) ∈ TB := TB_of (sub_2 _ (List.mem_of_getElem? (i := 116) rfl)) rfl
theorem kt_357 : Cond.code ({ cls := "GuideDesk$Tape", name := "isLetter", desc := "(I)Z" } : Jvm.MethodName) prog_10_method_10_code (1 : Nat) (Option.some Jvm.ClassFile.FieldType.boolean) ∈ TB := TB_of (sub_2 _ (List.mem_of_getElem? (i := 117) rfl)) rfl
theorem kt_358 : Cond.methodLink "GuideDesk$Tape" (42 : Nat) ({ cls := "GuideDesk$Tape", name := "scanWord", desc := "()V" } : Jvm.MethodName) ∈ TB := TB_of (sub_2 _ (List.mem_of_getElem? (i := 118) rfl)) rfl
theorem kt_360 : Cond.instanceMethod ({ cls := "GuideDesk$Tape", name := "scanWord", desc := "()V" } : Jvm.MethodName) ∈ TB := TB_of (sub_2 _ (List.mem_of_getElem? (i := 120) rfl)) rfl
theorem kt_361 : Cond.code ({ cls := "GuideDesk$Tape", name := "scanWord", desc := "()V" } : Jvm.MethodName) prog_10_method_5_code (1 : Nat) (Option.none : Option Jvm.ClassFile.FieldType) ∈ TB := TB_of (sub_2 _ (List.mem_of_getElem? (i := 121) rfl)) rfl
theorem kt_362 : Cond.methodLink "GuideDesk$Tape" (55 : Nat) ({ cls := "GuideDesk$Tape", name := "kindOfWord", desc := "()I" } : Jvm.MethodName) ∈ TB := TB_of (sub_2 _ (List.mem_of_getElem? (i := 122) rfl)) rfl
theorem kt_364 : Cond.instanceMethod ({ cls := "GuideDesk$Tape", name := "kindOfWord", desc := "()I" } : Jvm.MethodName) ∈ TB := TB_of (sub_2 _ (List.mem_of_getElem? (i := 124) rfl)) rfl
theorem kt_365 : Cond.code ({ cls := "GuideDesk$Tape", name := "kindOfWord", desc := "()I" } : Jvm.MethodName) prog_10_method_14_code (1 : Nat) (Option.some Jvm.ClassFile.FieldType.int) ∈ TB := TB_of (sub_2 _ (List.mem_of_getElem? (i := 125) rfl)) rfl
theorem kt_432 : Cond.methodLink "GuideDesk$Tape" (45 : Nat) ({ cls := "GuideDesk$Tape", name := "isDigit", desc := "(I)Z" } : Jvm.MethodName) ∈ TB := TB_of (sub_2 _ (List.mem_of_getElem? (i := 192) rfl)) rfl
theorem kt_433 : Cond.static ({ cls := "GuideDesk$Tape", name := "isDigit", desc := "(I)Z" } : Jvm.MethodName) ∈ TB := TB_of (sub_2 _ (List.mem_of_getElem? (i := 193) rfl)) rfl
theorem kt_434 : Cond.code ({ cls := "GuideDesk$Tape", name := "isDigit", desc := "(I)Z" } : Jvm.MethodName) prog_10_method_11_code (1 : Nat) (Option.some Jvm.ClassFile.FieldType.boolean) ∈ TB := TB_of (sub_2 _ (List.mem_of_getElem? (i := 194) rfl)) rfl
theorem kt_435 : Cond.methodLink "GuideDesk$Tape" (48 : Nat) ({ cls := "GuideDesk$Tape", name := "scanInt", desc := "()V" } : Jvm.MethodName) ∈ TB := TB_of (sub_2 _ (List.mem_of_getElem? (i := 195) rfl)) rfl
theorem kt_437 : Cond.instanceMethod ({ cls := "GuideDesk$Tape", name := "scanInt", desc := "()V" } : Jvm.MethodName) ∈ TB := TB_of (sub_2 _ (List.mem_of_getElem? (i := 197) rfl)) rfl
theorem kt_438 : Cond.code ({ cls := "GuideDesk$Tape", name := "scanInt", desc := "()V" } : Jvm.MethodName) prog_10_method_6_code (1 : Nat) (Option.none : Option Jvm.ClassFile.FieldType) ∈ TB := TB_of (sub_2 _ (List.mem_of_getElem? (i := 198) rfl)) rfl
theorem kt_439 : Cond.methodLink "GuideDesk$Tape" (51 : Nat) ({ cls := "GuideDesk$Tape", name := "scanSign", desc := "(I)V" } : Jvm.MethodName) ∈ TB := TB_of (sub_2 _ (List.mem_of_getElem? (i := 199) rfl)) rfl
theorem kt_441 : Cond.instanceMethod ({ cls := "GuideDesk$Tape", name := "scanSign", desc := "(I)V" } : Jvm.MethodName) ∈ TB := TB_of (sub_2 _ (List.mem_of_getElem? (i := 201) rfl)) rfl
theorem kt_442 : Cond.code ({ cls := "GuideDesk$Tape", name := "scanSign", desc := "(I)V" } : Jvm.MethodName) prog_10_method_7_code (3 : Nat) (Option.none : Option Jvm.ClassFile.FieldType) ∈ TB := TB_of (sub_2 _ (List.mem_of_getElem? (i := 202) rfl)) rfl
theorem kt_443 : Cond.methodLink "GuideDesk$Tape" (59 : Nat) ({ cls := "GuideDesk$Tape", name := "kindOfPair", desc := "(I)I" } : Jvm.MethodName) ∈ TB := TB_of (sub_2 _ (List.mem_of_getElem? (i := 203) rfl)) rfl
theorem kt_444 : Cond.static ({ cls := "GuideDesk$Tape", name := "kindOfPair", desc := "(I)I" } : Jvm.MethodName) ∈ TB := TB_of (sub_2 _ (List.mem_of_getElem? (i := 204) rfl)) rfl
theorem kt_445 : Cond.code ({ cls := "GuideDesk$Tape", name := "kindOfPair", desc := "(I)I" } : Jvm.MethodName) prog_10_method_12_code (1 : Nat) (Option.some Jvm.ClassFile.FieldType.int) ∈ TB := TB_of (sub_2 _ (List.mem_of_getElem? (i := 205) rfl)) rfl
theorem kt_446 : Cond.methodLink "GuideDesk$Tape" (62 : Nat) ({ cls := "GuideDesk$Tape", name := "kindOfSign", desc := "(I)I" } : Jvm.MethodName) ∈ TB := TB_of (sub_2 _ (List.mem_of_getElem? (i := 206) rfl)) rfl
theorem kt_447 : Cond.static ({ cls := "GuideDesk$Tape", name := "kindOfSign", desc := "(I)I" } : Jvm.MethodName) ∈ TB := TB_of (sub_2 _ (List.mem_of_getElem? (i := 207) rfl)) rfl
theorem kt_448 : Cond.code ({ cls := "GuideDesk$Tape", name := "kindOfSign", desc := "(I)I" } : Jvm.MethodName) prog_10_method_13_code (1 : Nat) (Option.some Jvm.ClassFile.FieldType.int) ∈ TB := TB_of (sub_2 _ (List.mem_of_getElem? (i := 208) rfl)) rfl
theorem kt_449 : Cond.methodLink "GuideDesk$WishReader" (61 : Nat) ({ cls := "GuideDesk$WishReader", name := "accept", desc := "(LGuideDesk$Tape;LGuideDesk$Wishes;)V" } : Jvm.MethodName) ∈ TB := TB_of (sub_2 _ (List.mem_of_getElem? (i := 209) rfl)) rfl
theorem kt_451 : Cond.instanceMethod ({ cls := "GuideDesk$WishReader", name := "accept", desc := "(LGuideDesk$Tape;LGuideDesk$Wishes;)V" } : Jvm.MethodName) ∈ TB := TB_of (sub_2 _ (List.mem_of_getElem? (i := 211) rfl)) rfl
theorem kt_452 : Cond.code ({ cls := "GuideDesk$WishReader", name := "accept", desc := "(LGuideDesk$Tape;LGuideDesk$Wishes;)V" } : Jvm.MethodName) prog_11_method_5_code (3 : Nat) (Option.none : Option Jvm.ClassFile.FieldType) ∈ TB := TB_of (sub_2 _ (List.mem_of_getElem? (i := 212) rfl)) rfl
theorem kt_453 : Cond.methodLink "GuideDesk$WishReader" (75 : Nat) ({ cls := "GuideDesk$WishReader", name := "goesOnWith", desc := "(I)Z" } : Jvm.MethodName) ∈ TB := TB_of (sub_2 _ (List.mem_of_getElem? (i := 213) rfl)) rfl
theorem kt_455 : Cond.instanceMethod ({ cls := "GuideDesk$WishReader", name := "goesOnWith", desc := "(I)Z" } : Jvm.MethodName) ∈ TB := TB_of (sub_2 _ (List.mem_of_getElem? (i := 215) rfl)) rfl
theorem kt_456 : Cond.code ({ cls := "GuideDesk$WishReader", name := "goesOnWith", desc := "(I)Z" } : Jvm.MethodName) prog_11_method_6_code (2 : Nat) (Option.some Jvm.ClassFile.FieldType.boolean) ∈ TB := TB_of (sub_2 _ (List.mem_of_getElem? (i := 216) rfl)) rfl
theorem kt_457 : Cond.methodLink "GuideDesk$WishReader" (89 : Nat) ({ cls := "GuideDesk$WishReader", name := "beginsOperand", desc := "(I)Z" } : Jvm.MethodName) ∈ TB := TB_of (sub_2 _ (List.mem_of_getElem? (i := 217) rfl)) rfl
theorem kt_458 : Cond.static ({ cls := "GuideDesk$WishReader", name := "beginsOperand", desc := "(I)Z" } : Jvm.MethodName) ∈ TB := TB_of (sub_2 _ (List.mem_of_getElem? (i := 218) rfl)) rfl
theorem kt_459 : Cond.code ({ cls := "GuideDesk$WishReader", name := "beginsOperand", desc := "(I)Z" } : Jvm.MethodName) prog_11_method_7_code (1 : Nat) (Option.some Jvm.ClassFile.FieldType.boolean) ∈ TB := TB_of (sub_2 _ (List.mem_of_getElem? (i := 219) rfl)) rfl
theorem kt_460 : Cond.methodLink "GuideDesk$WishReader" (92 : Nat) ({ cls := "GuideDesk$WishReader", name := "followsLiteral", desc := "(I)Z" } : Jvm.MethodName) ∈ TB := TB_of (sub_2 _ (List.mem_of_getElem? (i := 220) rfl)) rfl
theorem kt_461 : Cond.static ({ cls := "GuideDesk$WishReader", name := "followsLiteral", desc := "(I)Z" } : Jvm.MethodName) ∈ TB := TB_of (sub_2 _ (List.mem_of_getElem? (i := 221) rfl)) rfl
theorem kt_462 : Cond.code ({ cls := "GuideDesk$WishReader", name := "followsLiteral", desc := "(I)Z" } : Jvm.MethodName) prog_11_method_8_code (1 : Nat) (Option.some Jvm.ClassFile.FieldType.boolean) ∈ TB := TB_of (sub_2 _ (List.mem_of_getElem? (i := 222) rfl)) rfl
theorem kt_463 : Cond.methodLink "GuideDesk$WishReader" (95 : Nat) ({ cls := "GuideDesk$WishReader", name := "followsOperand", desc := "(I)Z" } : Jvm.MethodName) ∈ TB := TB_of (sub_2 _ (List.mem_of_getElem? (i := 223) rfl)) rfl
theorem kt_465 : Cond.instanceMethod ({ cls := "GuideDesk$WishReader", name := "followsOperand", desc := "(I)Z" } : Jvm.MethodName) ∈ TB := TB_of (sub_2 _ (List.mem_of_getElem? (i := 225) rfl)) rfl
theorem kt_466 : Cond.code ({ cls := "GuideDesk$WishReader", name := "followsOperand", desc := "(I)Z" } : Jvm.MethodName) prog_11_method_9_code (2 : Nat) (Option.some Jvm.ClassFile.FieldType.boolean) ∈ TB := TB_of (sub_2 _ (List.mem_of_getElem? (i := 226) rfl)) rfl
theorem kt_467 : Cond.methodLink "GuideDesk$WishReader" (98 : Nat) ({ cls := "GuideDesk$WishReader", name := "isArithmetic", desc := "(I)Z" } : Jvm.MethodName) ∈ TB := TB_of (sub_2 _ (List.mem_of_getElem? (i := 227) rfl)) rfl
theorem kt_468 : Cond.static ({ cls := "GuideDesk$WishReader", name := "isArithmetic", desc := "(I)Z" } : Jvm.MethodName) ∈ TB := TB_of (sub_2 _ (List.mem_of_getElem? (i := 228) rfl)) rfl
theorem kt_469 : Cond.code ({ cls := "GuideDesk$WishReader", name := "isArithmetic", desc := "(I)Z" } : Jvm.MethodName) prog_11_method_10_code (1 : Nat) (Option.some Jvm.ClassFile.FieldType.boolean) ∈ TB := TB_of (sub_2 _ (List.mem_of_getElem? (i := 229) rfl)) rfl
theorem kt_470 : Cond.methodLink "GuideDesk$WishReader" (101 : Nat) ({ cls := "GuideDesk$WishReader", name := "isComparison", desc := "(I)Z" } : Jvm.MethodName) ∈ TB := TB_of (sub_2 _ (List.mem_of_getElem? (i := 230) rfl)) rfl
theorem kt_471 : Cond.static ({ cls := "GuideDesk$WishReader", name := "isComparison", desc := "(I)Z" } : Jvm.MethodName) ∈ TB := TB_of (sub_2 _ (List.mem_of_getElem? (i := 231) rfl)) rfl
theorem kt_472 : Cond.code ({ cls := "GuideDesk$WishReader", name := "isComparison", desc := "(I)Z" } : Jvm.MethodName) prog_11_method_11_code (1 : Nat) (Option.some Jvm.ClassFile.FieldType.boolean) ∈ TB := TB_of (sub_2 _ (List.mem_of_getElem? (i := 232) rfl)) rfl
theorem kt_473 : Cond.methodLink "GuideDesk$WishReader" (68 : Nat) ({ cls := "GuideDesk$WishReader", name := "fail", desc := "(II)V" } : Jvm.MethodName) ∈ TB := TB_of (sub_2 _ (List.mem_of_getElem? (i := 233) rfl)) rfl
theorem kt_475 : Cond.instanceMethod ({ cls := "GuideDesk$WishReader", name := "fail", desc := "(II)V" } : Jvm.MethodName) ∈ TB := TB_of (sub_2 _ (List.mem_of_getElem? (i := 235) rfl)) rfl
theorem kt_476 : Cond.code ({ cls := "GuideDesk$WishReader", name := "fail", desc := "(II)V" } : Jvm.MethodName) prog_11_method_4_code (3 : Nat) (Option.none : Option Jvm.ClassFile.FieldType) ∈ TB := TB_of (sub_2 _ (List.mem_of_getElem? (i := 236) rfl)) rfl
theorem kt_477 : Cond.methodLink "GuideDesk$WishReader" (82 : Nat) ({ cls := "GuideDesk$WishReader", name := "isTooMuch", desc := "(ILGuideDesk$Wishes;)Z" } : Jvm.MethodName) ∈ TB := TB_of (sub_2 _ (List.mem_of_getElem? (i := 237) rfl)) rfl
theorem kt_479 : Cond.instanceMethod ({ cls := "GuideDesk$WishReader", name := "isTooMuch", desc := "(ILGuideDesk$Wishes;)Z" } : Jvm.MethodName) ∈ TB := TB_of (sub_2 _ (List.mem_of_getElem? (i := 239) rfl)) rfl
theorem kt_480 : Cond.code ({ cls := "GuideDesk$WishReader", name := "isTooMuch", desc := "(ILGuideDesk$Wishes;)Z" } : Jvm.MethodName) prog_11_method_12_code (3 : Nat) (Option.some Jvm.ClassFile.FieldType.boolean) ∈ TB := TB_of (sub_3 _ (List.mem_of_getElem? (i := 0) rfl)) rfl
theorem kt_481 : Cond.methodLink "GuideDesk$WishReader" (86 : Nat) ({ cls := "GuideDesk$WishReader", name := "take", desc := "(LGuideDesk$Tape;LGuideDesk$Wishes;)V" } : Jvm.MethodName) ∈ TB := TB_of (sub_3 _ (List.mem_of_getElem? (i := 1) rfl)) rfl
theorem kt_483 : Cond.instanceMethod ({ cls := "GuideDesk$WishReader", name := "take", desc := "(LGuideDesk$Tape;LGuideDesk$Wishes;)V" } : Jvm.MethodName) ∈ TB := TB_of (sub_3 _ (List.mem_of_getElem? (i := 3) rfl)) rfl
theorem kt_484 : Cond.code ({ cls := "GuideDesk$WishReader", name := "take", desc := "(LGuideDesk$Tape;LGuideDesk$Wishes;)V" } : Jvm.MethodName) prog_11_method_13_code (3 : Nat) (Option.none : Option Jvm.ClassFile.FieldType) ∈ TB := TB_of (sub_3 _ (List.mem_of_getElem? (i := 4) rfl)) rfl
theorem kt_485 : Cond.methodLink "GuideDesk$WishReader" (107 : Nat) ({ cls := "GuideDesk$WishReader", name := "takeAmount", desc := "(LGuideDesk$Tape;)V" } : Jvm.MethodName) ∈ TB := TB_of (sub_3 _ (List.mem_of_getElem? (i := 5) rfl)) rfl
theorem kt_487 : Cond.instanceMethod ({ cls := "GuideDesk$WishReader", name := "takeAmount", desc := "(LGuideDesk$Tape;)V" } : Jvm.MethodName) ∈ TB := TB_of (sub_3 _ (List.mem_of_getElem? (i := 7) rfl)) rfl
theorem kt_488 : Cond.code ({ cls := "GuideDesk$WishReader", name := "takeAmount", desc := "(LGuideDesk$Tape;)V" } : Jvm.MethodName) prog_11_method_14_code (2 : Nat) (Option.none : Option Jvm.ClassFile.FieldType) ∈ TB := TB_of (sub_3 _ (List.mem_of_getElem? (i := 8) rfl)) rfl
theorem kt_489 : Cond.methodLink "GuideDesk$WishReader" (111 : Nat) ({ cls := "GuideDesk$WishReader", name := "takeOperand", desc := "(LGuideDesk$Tape;LGuideDesk$Wishes;)V" } : Jvm.MethodName) ∈ TB := TB_of (sub_3 _ (List.mem_of_getElem? (i := 9) rfl)) rfl
theorem kt_491 : Cond.instanceMethod ({ cls := "GuideDesk$WishReader", name := "takeOperand", desc := "(LGuideDesk$Tape;LGuideDesk$Wishes;)V" } : Jvm.MethodName) ∈ TB := TB_of (sub_3 _ (List.mem_of_getElem? (i := 11) rfl)) rfl
theorem kt_492 : Cond.code ({ cls := "GuideDesk$WishReader", name := "takeOperand", desc := "(LGuideDesk$Tape;LGuideDesk$Wishes;)V" } : Jvm.MethodName) prog_11_method_15_code (3 : Nat) (Option.none : Option Jvm.ClassFile.FieldType) ∈ TB := TB_of (sub_3 _ (List.mem_of_getElem? (i := 12) rfl)) rfl
theorem kt_493 : Cond.methodLink "GuideDesk$WishReader" (121 : Nat) ({ cls := "GuideDesk$WishReader", name := "putOff", desc := "(I)V" } : Jvm.MethodName) ∈ TB := TB_of (sub_3 _ (List.mem_of_getElem? (i := 13) rfl)) rfl
theorem kt_495 : Cond.instanceMethod ({ cls := "GuideDesk$WishReader", name := "putOff", desc := "(I)V" } : Jvm.MethodName) ∈ TB := TB_of (sub_3 _ (List.mem_of_getElem? (i := 15) rfl)) rfl
theorem kt_496 : Cond.code ({ cls := "GuideDesk$WishReader", name := "putOff", desc := "(I)V" } : Jvm.MethodName) prog_11_method_17_code (2 : Nat) (Option.none : Option Jvm.ClassFile.FieldType) ∈ TB := TB_of (sub_3 _ (List.mem_of_getElem? (i := 16) rfl)) rfl
theorem kt_497 : Cond.methodLink "GuideDesk$WishReader" (125 : Nat) ({ cls := "GuideDesk$Wishes", name := "write", desc := "(I)V" } : Jvm.MethodName) ∈ TB := TB_of (sub_3 _ (List.mem_of_getElem? (i := 17) rfl)) rfl
theorem kt_498 : Cond.instanceMethod ({ cls := "GuideDesk$Wishes", name := "write", desc := "(I)V" } : Jvm.MethodName) ∈ TB := TB_of (sub_3 _ (List.mem_of_getElem? (i := 18) rfl)) rfl
theorem kt_499 : Cond.selects "GuideDesk$Wishes" ({ cls := "GuideDesk$Wishes", name := "write", desc := "(I)V" } : Jvm.MethodName) ({ cls := "GuideDesk$Wishes", name := "write", desc := "(I)V" } : Jvm.MethodName) ∈ TB := TB_of (sub_3 _ (List.mem_of_getElem? (i := 19) rfl)) rfl
theorem kt_500 : Cond.code ({ cls := "GuideDesk$Wishes", name := "write", desc := "(I)V" } : Jvm.MethodName) prog_12_method_3_code (2 : Nat) (Option.none : Option Jvm.ClassFile.FieldType) ∈ TB := TB_of (sub_3 _ (List.mem_of_getElem? (i := 20) rfl)) rfl
theorem kt_501 : Cond.methodLink "GuideDesk$WishReader" (114 : Nat) ({ cls := "GuideDesk$WishReader", name := "takeOperator", desc := "(ILGuideDesk$Wishes;)V" } : Jvm.MethodName) ∈ TB := TB_of (sub_3 _ (List.mem_of_getElem? (i := 21) rfl)) rfl
theorem kt_503 : Cond.instanceMethod ({ cls := "GuideDesk$WishReader", name := "takeOperator", desc := "(ILGuideDesk$Wishes;)V" } : Jvm.MethodName) ∈ TB := TB_of (sub_3 _ (List.mem_of_getElem? (i := 23) rfl)) rfl
theorem kt_504 : Cond.code ({ cls := "GuideDesk$WishReader", name := "takeOperator", desc := "(ILGuideDesk$Wishes;)V" } : Jvm.MethodName) prog_11_method_16_code (3 : Nat) (Option.none : Option Jvm.ClassFile.FieldType) ∈ TB := TB_of (sub_3 _ (List.mem_of_getElem? (i := 24) rfl)) rfl
theorem kt_505 : Cond.methodLink "GuideDesk$WishReader" (128 : Nat) ({ cls := "GuideDesk$WishReader", name := "writeTighter", desc := "(ILGuideDesk$Wishes;)V" } : Jvm.MethodName) ∈ TB := TB_of (sub_3 _ (List.mem_of_getElem? (i := 25) rfl)) rfl
theorem kt_507 : Cond.instanceMethod ({ cls := "GuideDesk$WishReader", name := "writeTighter", desc := "(ILGuideDesk$Wishes;)V" } : Jvm.MethodName) ∈ TB := TB_of (sub_3 _ (List.mem_of_getElem? (i := 27) rfl)) rfl
theorem kt_508 : Cond.code ({ cls := "GuideDesk$WishReader", name := "writeTighter", desc := "(ILGuideDesk$Wishes;)V" } : Jvm.MethodName) prog_11_method_18_code (3 : Nat) (Option.none : Option Jvm.ClassFile.FieldType) ∈ TB := TB_of (sub_3 _ (List.mem_of_getElem? (i := 28) rfl)) rfl
theorem kt_509 : Cond.methodLink "GuideDesk$WishReader" (140 : Nat) ({ cls := "GuideDesk$WishReader", name := "tightness", desc := "(I)I" } : Jvm.MethodName) ∈ TB := TB_of (sub_3 _ (List.mem_of_getElem? (i := 29) rfl)) rfl
theorem kt_510 : Cond.static ({ cls := "GuideDesk$WishReader", name := "tightness", desc := "(I)I" } : Jvm.MethodName) ∈ TB := TB_of (sub_3 _ (List.mem_of_getElem? (i := 30) rfl)) rfl
theorem kt_511 : Cond.code ({ cls := "GuideDesk$WishReader", name := "tightness", desc := "(I)I" } : Jvm.MethodName) prog_11_method_19_code (1 : Nat) (Option.some Jvm.ClassFile.FieldType.int) ∈ TB := TB_of (sub_3 _ (List.mem_of_getElem? (i := 31) rfl)) rfl
theorem kt_512 : Cond.methodLink "GuideDesk$WishReader" (131 : Nat) ({ cls := "java/lang/Math", name := "max", desc := "(II)I" } : Jvm.MethodName) ∈ TB := TB_of (sub_3 _ (List.mem_of_getElem? (i := 32) rfl)) rfl
theorem kt_513 : Cond.static ({ cls := "java/lang/Math", name := "max", desc := "(II)I" } : Jvm.MethodName) ∈ TB := TB_of (sub_3 _ (List.mem_of_getElem? (i := 33) rfl)) rfl
theorem kt_514 : Cond.code ({ cls := "java/lang/Math", name := "max", desc := "(II)I" } : Jvm.MethodName) prog_16_method_65_code (2 : Nat) (Option.some Jvm.ClassFile.FieldType.int) ∈ TB := TB_of (sub_3 _ (List.mem_of_getElem? (i := 34) rfl)) rfl
theorem kt_515 : Cond.methodLink "GuideDesk$WishReader" (137 : Nat) ({ cls := "GuideDesk$Wishes", name := "endRule", desc := "(I)V" } : Jvm.MethodName) ∈ TB := TB_of (sub_3 _ (List.mem_of_getElem? (i := 35) rfl)) rfl
theorem kt_516 : Cond.instanceMethod ({ cls := "GuideDesk$Wishes", name := "endRule", desc := "(I)V" } : Jvm.MethodName) ∈ TB := TB_of (sub_3 _ (List.mem_of_getElem? (i := 36) rfl)) rfl
theorem kt_517 : Cond.selects "GuideDesk$Wishes" ({ cls := "GuideDesk$Wishes", name := "endRule", desc := "(I)V" } : Jvm.MethodName) ({ cls := "GuideDesk$Wishes", name := "endRule", desc := "(I)V" } : Jvm.MethodName) ∈ TB := TB_of (sub_3 _ (List.mem_of_getElem? (i := 37) rfl)) rfl
theorem kt_518 : Cond.code ({ cls := "GuideDesk$Wishes", name := "endRule", desc := "(I)V" } : Jvm.MethodName) prog_12_method_4_code (2 : Nat) (Option.none : Option Jvm.ClassFile.FieldType) ∈ TB := TB_of (sub_3 _ (List.mem_of_getElem? (i := 38) rfl)) rfl
theorem kt_522 : Cond.code ({ cls := "GuideDesk", name := "place", desc := "()I" } : Jvm.MethodName) prog_1_method_5_code (1 : Nat) (Option.some Jvm.ClassFile.FieldType.int) ∈ TB := TB_of (sub_3 _ (List.mem_of_getElem? (i := 42) rfl)) rfl
theorem kt_526 : Cond.code ({ cls := "GuideDesk", name := "channels", desc := "(I)Z" } : Jvm.MethodName) prog_1_method_6_code (2 : Nat) (Option.some Jvm.ClassFile.FieldType.boolean) ∈ TB := TB_of (sub_3 _ (List.mem_of_getElem? (i := 46) rfl)) rfl
theorem kt_530 : Cond.code ({ cls := "GuideDesk", name := "source", desc := "(I)I" } : Jvm.MethodName) prog_1_method_7_code (2 : Nat) (Option.some Jvm.ClassFile.FieldType.int) ∈ TB := TB_of (sub_3 _ (List.mem_of_getElem? (i := 50) rfl)) rfl
theorem kt_531 : Cond.methodLink "GuideDesk" (88 : Nat) ({ cls := "GuideDesk$Ledger", name := "addSource", desc := "(I)I" } : Jvm.MethodName) ∈ TB := TB_of (sub_3 _ (List.mem_of_getElem? (i := 51) rfl)) rfl
theorem kt_532 : Cond.instanceMethod ({ cls := "GuideDesk$Ledger", name := "addSource", desc := "(I)I" } : Jvm.MethodName) ∈ TB := TB_of (sub_3 _ (List.mem_of_getElem? (i := 52) rfl)) rfl
theorem kt_533 : Cond.selects "GuideDesk$Ledger" ({ cls := "GuideDesk$Ledger", name := "addSource", desc := "(I)I" } : Jvm.MethodName) ({ cls := "GuideDesk$Ledger", name := "addSource", desc := "(I)I" } : Jvm.MethodName) ∈ TB := TB_of (sub_3 _ (List.mem_of_getElem? (i := 53) rfl)) rfl
theorem kt_534 : Cond.code ({ cls := "GuideDesk$Ledger", name := "addSource", desc := "(I)I" } : Jvm.MethodName) prog_5_method_7_code (4 : Nat) (Option.some Jvm.ClassFile.FieldType.int) ∈ TB := TB_of (sub_3 _ (List.mem_of_getElem? (i := 54) rfl)) rfl
theorem kt_535 : Cond.instantiable "GuideDesk$Source" (2 : Nat) ∈ TB := TB_of (sub_3 _ (List.mem_of_getElem? (i := 55) rfl)) rfl
theorem kt_536 : Cond.methodLink "GuideDesk$Ledger" (36 : Nat) ({ cls := "GuideDesk$Source", name := "<init>", desc := "(II)V" } : Jvm.MethodName) ∈ TB := TB_of (sub_3 _ (List.mem_of_getElem? (i := 56) rfl)) rfl
theorem kt_537 : Cond.instanceMethod ({ cls := "GuideDesk$Source", name := "<init>", desc := "(II)V" } : Jvm.MethodName) ∈ TB := TB_of (sub_3 _ (List.mem_of_getElem? (i := 57) rfl)) rfl
theorem kt_538 : Cond.code ({ cls := "GuideDesk$Source", name := "<init>", desc := "(II)V" } : Jvm.MethodName) prog_9_method_1_code (3 : Nat) (Option.none : Option Jvm.ClassFile.FieldType) ∈ TB := TB_of (sub_3 _ (List.mem_of_getElem? (i := 58) rfl)) rfl
theorem kt_539 : Cond.methodLink "GuideDesk$Source" (1 : Nat) ({ cls := "java/lang/Object", name := "<init>", desc := "()V" } : Jvm.MethodName) ∈ TB := TB_of (sub_3 _ (List.mem_of_getElem? (i := 59) rfl)) rfl
theorem kt_540 : Cond.fieldLink "GuideDesk$Source" (7 : Nat) "GuideDesk$Source" "number" "I" ∈ TB := TB_of (sub_3 _ (List.mem_of_getElem? (i := 60) rfl)) rfl
theorem kt_541 : Cond.fieldLink "GuideDesk$Fact" (33 : Nat) "GuideDesk$Source" "number" "I" ∈ TB := TB_of (sub_3 _ (List.mem_of_getElem? (i := 61) rfl)) rfl
theorem kt_542 : Cond.fieldLink "GuideDesk$Ledger" (43 : Nat) "GuideDesk$Source" "number" "I" ∈ TB := TB_of (sub_3 _ (List.mem_of_getElem? (i := 62) rfl)) rfl
theorem kt_543 : Cond.fieldLink "GuideDesk$Source" (13 : Nat) "GuideDesk$Source" "trust" "I" ∈ TB := TB_of (sub_3 _ (List.mem_of_getElem? (i := 63) rfl)) rfl
theorem kt_544 : Cond.fieldLink "GuideDesk$Fact" (38 : Nat) "GuideDesk$Source" "trust" "I" ∈ TB := TB_of (sub_3 _ (List.mem_of_getElem? (i := 64) rfl)) rfl
theorem kt_550 : Cond.methodLink "GuideDesk$Ledger" (39 : Nat) ({ cls := "GuideDesk$Source", name := "outranks", desc := "(LGuideDesk$Source;)Z" } : Jvm.MethodName) ∈ TB := TB_of (sub_3 _ (List.mem_of_getElem? (i := 70) rfl)) rfl
theorem kt_551 : Cond.instanceMethod ({ cls := "GuideDesk$Source", name := "outranks", desc := "(LGuideDesk$Source;)Z" } : Jvm.MethodName) ∈ TB := TB_of (sub_3 _ (List.mem_of_getElem? (i := 71) rfl)) rfl
theorem kt_552 : Cond.selects "GuideDesk$Source" ({ cls := "GuideDesk$Source", name := "outranks", desc := "(LGuideDesk$Source;)Z" } : Jvm.MethodName) ({ cls := "GuideDesk$Source", name := "outranks", desc := "(LGuideDesk$Source;)Z" } : Jvm.MethodName) ∈ TB := TB_of (sub_3 _ (List.mem_of_getElem? (i := 72) rfl)) rfl
theorem kt_553 : Cond.code ({ cls := "GuideDesk$Source", name := "outranks", desc := "(LGuideDesk$Source;)Z" } : Jvm.MethodName) prog_9_method_2_code (2 : Nat) (Option.some Jvm.ClassFile.FieldType.boolean) ∈ TB := TB_of (sub_3 _ (List.mem_of_getElem? (i := 73) rfl)) rfl
theorem kt_557 : Cond.code ({ cls := "GuideDesk", name := "notice", desc := "(IIIIIIZ)I" } : Jvm.MethodName) prog_1_method_8_code (9 : Nat) (Option.some Jvm.ClassFile.FieldType.int) ∈ TB := TB_of (sub_3 _ (List.mem_of_getElem? (i := 77) rfl)) rfl
theorem kt_558 : Cond.methodLink "GuideDesk" (92 : Nat) ({ cls := "GuideDesk$Ledger", name := "sourceAt", desc := "(I)LGuideDesk$Source;" } : Jvm.MethodName) ∈ TB := TB_of (sub_3 _ (List.mem_of_getElem? (i := 78) rfl)) rfl
theorem kt_559 : Cond.instanceMethod ({ cls := "GuideDesk$Ledger", name := "sourceAt", desc := "(I)LGuideDesk$Source;" } : Jvm.MethodName) ∈ TB := TB_of (sub_3 _ (List.mem_of_getElem? (i := 79) rfl)) rfl
theorem kt_560 : Cond.selects "GuideDesk$Ledger" ({ cls := "GuideDesk$Ledger", name := "sourceAt", desc := "(I)LGuideDesk$Source;" } : Jvm.MethodName) ({ cls := "GuideDesk$Ledger", name := "sourceAt", desc := "(I)LGuideDesk$Source;" } : Jvm.MethodName) ∈ TB := TB_of (sub_3 _ (List.mem_of_getElem? (i := 80) rfl)) rfl
theorem kt_561 : Cond.code ({ cls := "GuideDesk$Ledger", name := "sourceAt", desc := "(I)LGuideDesk$Source;" } : Jvm.MethodName) prog_5_method_4_code (2 : Nat) (Option.some (Jvm.ClassFile.FieldType.object "GuideDesk$Source")) ∈ TB := TB_of (sub_3 _ (List.mem_of_getElem? (i := 81) rfl)) rfl
theorem kt_562 : Cond.methodLink "GuideDesk" (96 : Nat) ({ cls := "GuideDesk$Ledger", name := "hasChannel", desc := "(I)Z" } : Jvm.MethodName) ∈ TB := TB_of (sub_3 _ (List.mem_of_getElem? (i := 82) rfl)) rfl
theorem kt_563 : Cond.instanceMethod ({ cls := "GuideDesk$Ledger", name := "hasChannel", desc := "(I)Z" } : Jvm.MethodName) ∈ TB := TB_of (sub_3 _ (List.mem_of_getElem? (i := 83) rfl)) rfl
theorem kt_564 : Cond.selects "GuideDesk$Ledger" ({ cls := "GuideDesk$Ledger", name := "hasChannel", desc := "(I)Z" } : Jvm.MethodName) ({ cls := "GuideDesk$Ledger", name := "hasChannel", desc := "(I)Z" } : Jvm.MethodName) ∈ TB := TB_of (sub_3 _ (List.mem_of_getElem? (i := 84) rfl)) rfl
theorem kt_565 : Cond.code ({ cls := "GuideDesk$Ledger", name := "hasChannel", desc := "(I)Z" } : Jvm.MethodName) prog_5_method_2_code (2 : Nat) (Option.some Jvm.ClassFile.FieldType.boolean) ∈ TB := TB_of (sub_3 _ (List.mem_of_getElem? (i := 85) rfl)) rfl
theorem kt_566 : Cond.classLink "GuideDesk" (100 : Nat) "GuideDesk$Fact" ∈ TB := TB_of (sub_3 _ (List.mem_of_getElem? (i := 86) rfl)) rfl
theorem kt_567 : Cond.instantiable "GuideDesk$Fact" (7 : Nat) ∈ TB := TB_of (sub_3 _ (List.mem_of_getElem? (i := 87) rfl)) rfl
theorem kt_568 : Cond.methodLink "GuideDesk" (102 : Nat) ({ cls := "GuideDesk$Fact", name := "<init>", desc := "(LGuideDesk$Source;IIIIIZ)V" } : Jvm.MethodName) ∈ TB := TB_of (sub_3 _ (List.mem_of_getElem? (i := 88) rfl)) rfl
theorem kt_569 : Cond.instanceMethod ({ cls := "GuideDesk$Fact", name := "<init>", desc := "(LGuideDesk$Source;IIIIIZ)V" } : Jvm.MethodName) ∈ TB := TB_of (sub_3 _ (List.mem_of_getElem? (i := 89) rfl)) rfl
theorem kt_570 : Cond.code ({ cls := "GuideDesk$Fact", name := "<init>", desc := "(LGuideDesk$Source;IIIIIZ)V" } : Jvm.MethodName) prog_4_method_1_code (8 : Nat) (Option.none : Option Jvm.ClassFile.FieldType) ∈ TB := TB_of (sub_3 _ (List.mem_of_getElem? (i := 90) rfl)) rfl
theorem kt_571 : Cond.methodLink "GuideDesk$Fact" (1 : Nat) ({ cls := "java/lang/Object", name := "<init>", desc := "()V" } : Jvm.MethodName) ∈ TB := TB_of (sub_3 _ (List.mem_of_getElem? (i := 91) rfl)) rfl
theorem kt_572 : Cond.fieldLink "GuideDesk$Fact" (7 : Nat) "GuideDesk$Fact" "source" "LGuideDesk$Source;" ∈ TB := TB_of (sub_3 _ (List.mem_of_getElem? (i := 92) rfl)) rfl
theorem kt_573 : Cond.fieldLink "GuideDesk$Fact" (13 : Nat) "GuideDesk$Fact" "channel" "I" ∈ TB := TB_of (sub_3 _ (List.mem_of_getElem? (i := 93) rfl)) rfl
theorem kt_574 : Cond.fieldLink "GuideDesk$Showing" (22 : Nat) "GuideDesk$Fact" "channel" "I" ∈ TB := TB_of (sub_3 _ (List.mem_of_getElem? (i := 94) rfl)) rfl
theorem kt_575 : Cond.fieldLink "GuideDesk$Day" (94 : Nat) "GuideDesk$Fact" "channel" "I" ∈ TB := TB_of (sub_3 _ (List.mem_of_getElem? (i := 95) rfl)) rfl
theorem kt_576 : Cond.fieldLink "GuideDesk$Fact" (17 : Nat) "GuideDesk$Fact" "from" "I" ∈ TB := TB_of (sub_3 _ (List.mem_of_getElem? (i := 96) rfl)) rfl
theorem kt_577 : Cond.fieldLink "GuideDesk$Day" (107 : Nat) "GuideDesk$Fact" "from" "I" ∈ TB := TB_of (sub_3 _ (List.mem_of_getElem? (i := 97) rfl)) rfl
theorem kt_578 : Cond.fieldLink "GuideDesk$Fact" (20 : Nat) "GuideDesk$Fact" "until" "I" ∈ TB := TB_of (sub_3 _ (List.mem_of_getElem? (i := 98) rfl)) rfl
theorem kt_579 : Cond.fieldLink "GuideDesk$Day" (104 : Nat) "GuideDesk$Fact" "until" "I" ∈ TB := TB_of (sub_3 _ (List.mem_of_getElem? (i := 99) rfl)) rfl
theorem kt_580 : Cond.fieldLink "GuideDesk$Fact" (23 : Nat) "GuideDesk$Fact" "title" "I" ∈ TB := TB_of (sub_3 _ (List.mem_of_getElem? (i := 100) rfl)) rfl
theorem kt_581 : Cond.fieldLink "GuideDesk$Showing" (28 : Nat) "GuideDesk$Fact" "title" "I" ∈ TB := TB_of (sub_3 _ (List.mem_of_getElem? (i := 101) rfl)) rfl
theorem kt_582 : Cond.fieldLink "GuideDesk$Day" (97 : Nat) "GuideDesk$Fact" "title" "I" ∈ TB := TB_of (sub_3 _ (List.mem_of_getElem? (i := 102) rfl)) rfl
theorem kt_583 : Cond.fieldLink "GuideDesk$Fact" (26 : Nat) "GuideDesk$Fact" "episode" "I" ∈ TB := TB_of (sub_3 _ (List.mem_of_getElem? (i := 103) rfl)) rfl
theorem kt_584 : Cond.fieldLink "GuideDesk$Showing" (32 : Nat) "GuideDesk$Fact" "episode" "I" ∈ TB := TB_of (sub_3 _ (List.mem_of_getElem? (i := 104) rfl)) rfl
theorem kt_585 : Cond.fieldLink "GuideDesk$Fact" (29 : Nat) "GuideDesk$Fact" "live" "Z" ∈ TB := TB_of (sub_3 _ (List.mem_of_getElem? (i := 105) rfl)) rfl
theorem kt_586 : Cond.fieldLink "GuideDesk$Showing" (42 : Nat) "GuideDesk$Fact" "live" "Z" ∈ TB := TB_of (sub_3 _ (List.mem_of_getElem? (i := 106) rfl)) rfl
theorem kt_587 : Cond.fieldLink "GuideDesk$Day" (121 : Nat) "GuideDesk$Fact" "live" "Z" ∈ TB := TB_of (sub_3 _ (List.mem_of_getElem? (i := 107) rfl)) rfl
theorem kt_603 : Cond.methodLink "GuideDesk" (105 : Nat) ({ cls := "GuideDesk$Ledger", name := "tell", desc := "(LGuideDesk$Fact;)I" } : Jvm.MethodName) ∈ TB := TB_of (sub_3 _ (List.mem_of_getElem? (i := 123) rfl)) rfl
theorem kt_604 : Cond.instanceMethod ({ cls := "GuideDesk$Ledger", name := "tell", desc := "(LGuideDesk$Fact;)I" } : Jvm.MethodName) ∈ TB := TB_of (sub_3 _ (List.mem_of_getElem? (i := 124) rfl)) rfl
theorem kt_605 : Cond.selects "GuideDesk$Ledger" ({ cls := "GuideDesk$Ledger", name := "tell", desc := "(LGuideDesk$Fact;)I" } : Jvm.MethodName) ({ cls := "GuideDesk$Ledger", name := "tell", desc := "(LGuideDesk$Fact;)I" } : Jvm.MethodName) ∈ TB := TB_of (sub_3 _ (List.mem_of_getElem? (i := 125) rfl)) rfl
theorem kt_606 : Cond.code ({ cls := "GuideDesk$Ledger", name := "tell", desc := "(LGuideDesk$Fact;)I" } : Jvm.MethodName) prog_5_method_8_code (2 : Nat) (Option.some Jvm.ClassFile.FieldType.int) ∈ TB := TB_of (sub_3 _ (List.mem_of_getElem? (i := 126) rfl)) rfl
theorem kt_610 : Cond.code ({ cls := "GuideDesk", name := "over", desc := "(III)I" } : Jvm.MethodName) prog_1_method_9_code (4 : Nat) (Option.some Jvm.ClassFile.FieldType.int) ∈ TB := TB_of (sub_3 _ (List.mem_of_getElem? (i := 130) rfl)) rfl
theorem kt_614 : Cond.code ({ cls := "GuideDesk", name := "recorder", desc := "(IIII)Z" } : Jvm.MethodName) prog_1_method_10_code (5 : Nat) (Option.some Jvm.ClassFile.FieldType.boolean) ∈ TB := TB_of (sub_3 _ (List.mem_of_getElem? (i := 134) rfl)) rfl
theorem kt_618 : Cond.code ({ cls := "GuideDesk", name := "clock", desc := "(I)Z" } : Jvm.MethodName) prog_1_method_11_code (2 : Nat) (Option.some Jvm.ClassFile.FieldType.boolean) ∈ TB := TB_of (sub_3 _ (List.mem_of_getElem? (i := 138) rfl)) rfl
theorem kt_622 : Cond.code ({ cls := "GuideDesk", name := "sent", desc := "(III)I" } : Jvm.MethodName) prog_1_method_12_code (4 : Nat) (Option.some Jvm.ClassFile.FieldType.int) ∈ TB := TB_of (sub_3 _ (List.mem_of_getElem? (i := 142) rfl)) rfl
theorem kt_623 : Cond.methodLink "GuideDesk" (124 : Nat) ({ cls := "GuideDesk$Ledger", name := "isKnown", desc := "(I)Z" } : Jvm.MethodName) ∈ TB := TB_of (sub_3 _ (List.mem_of_getElem? (i := 143) rfl)) rfl
theorem kt_624 : Cond.instanceMethod ({ cls := "GuideDesk$Ledger", name := "isKnown", desc := "(I)Z" } : Jvm.MethodName) ∈ TB := TB_of (sub_3 _ (List.mem_of_getElem? (i := 144) rfl)) rfl
theorem kt_625 : Cond.selects "GuideDesk$Ledger" ({ cls := "GuideDesk$Ledger", name := "isKnown", desc := "(I)Z" } : Jvm.MethodName) ({ cls := "GuideDesk$Ledger", name := "isKnown", desc := "(I)Z" } : Jvm.MethodName) ∈ TB := TB_of (sub_3 _ (List.mem_of_getElem? (i := 145) rfl)) rfl
theorem kt_626 : Cond.code ({ cls := "GuideDesk$Ledger", name := "isKnown", desc := "(I)Z" } : Jvm.MethodName) prog_5_method_3_code (2 : Nat) (Option.some Jvm.ClassFile.FieldType.boolean) ∈ TB := TB_of (sub_3 _ (List.mem_of_getElem? (i := 146) rfl)) rfl
theorem kt_627 : Cond.methodLink "GuideDesk" (127 : Nat) ({ cls := "GuideDesk$Day", name := "survey", desc := "(LGuideDesk$Ledger;I)V" } : Jvm.MethodName) ∈ TB := TB_of (sub_3 _ (List.mem_of_getElem? (i := 147) rfl)) rfl
theorem kt_628 : Cond.instanceMethod ({ cls := "GuideDesk$Day", name := "survey", desc := "(LGuideDesk$Ledger;I)V" } : Jvm.MethodName) ∈ TB := TB_of (sub_3 _ (List.mem_of_getElem? (i := 148) rfl)) rfl
theorem kt_629 : Cond.selects "GuideDesk$Day" ({ cls := "GuideDesk$Day", name := "survey", desc := "(LGuideDesk$Ledger;I)V" } : Jvm.MethodName) ({ cls := "GuideDesk$Day", name := "survey", desc := "(LGuideDesk$Ledger;I)V" } : Jvm.MethodName) ∈ TB := TB_of (sub_3 _ (List.mem_of_getElem? (i := 149) rfl)) rfl
theorem kt_630 : Cond.code ({ cls := "GuideDesk$Day", name := "survey", desc := "(LGuideDesk$Ledger;I)V" } : Jvm.MethodName) prog_3_method_2_code (4 : Nat) (Option.none : Option Jvm.ClassFile.FieldType) ∈ TB := TB_of (sub_3 _ (List.mem_of_getElem? (i := 150) rfl)) rfl
theorem kt_631 : Cond.methodLink "GuideDesk$Day" (44 : Nat) ({ cls := "java/lang/Math", name := "min", desc := "(II)I" } : Jvm.MethodName) ∈ TB := TB_of (sub_3 _ (List.mem_of_getElem? (i := 151) rfl)) rfl
theorem kt_632 : Cond.static ({ cls := "java/lang/Math", name := "min", desc := "(II)I" } : Jvm.MethodName) ∈ TB := TB_of (sub_3 _ (List.mem_of_getElem? (i := 152) rfl)) rfl
theorem kt_633 : Cond.code ({ cls := "java/lang/Math", name := "min", desc := "(II)I" } : Jvm.MethodName) prog_16_method_69_code (2 : Nat) (Option.some Jvm.ClassFile.FieldType.int) ∈ TB := TB_of (sub_3 _ (List.mem_of_getElem? (i := 153) rfl)) rfl
theorem kt_634 : Cond.methodLink "GuideDesk$Day" (50 : Nat) ({ cls := "java/util/Arrays", name := "fill", desc := "([II)V" } : Jvm.MethodName) ∈ TB := TB_of (sub_3 _ (List.mem_of_getElem? (i := 154) rfl)) rfl
theorem kt_635 : Cond.static ({ cls := "java/util/Arrays", name := "fill", desc := "([II)V" } : Jvm.MethodName) ∈ TB := TB_of (sub_3 _ (List.mem_of_getElem? (i := 155) rfl)) rfl
theorem kt_636 : Cond.code ({ cls := "java/util/Arrays", name := "fill", desc := "([II)V" } : Jvm.MethodName) prog_21_method_103_code (4 : Nat) (Option.none : Option Jvm.ClassFile.FieldType) ∈ TB := TB_of (sub_3 _ (List.mem_of_getElem? (i := 156) rfl)) rfl
theorem kt_637 : Cond.methodLink "GuideDesk$Day" (56 : Nat) ({ cls := "GuideDesk$Day", name := "layNotices", desc := "(LGuideDesk$Ledger;)V" } : Jvm.MethodName) ∈ TB := TB_of (sub_3 _ (List.mem_of_getElem? (i := 157) rfl)) rfl
theorem kt_639 : Cond.instanceMethod ({ cls := "GuideDesk$Day", name := "layNotices", desc := "(LGuideDesk$Ledger;)V" } : Jvm.MethodName) ∈ TB := TB_of (sub_3 _ (List.mem_of_getElem? (i := 159) rfl)) rfl
theorem kt_640 : Cond.code ({ cls := "GuideDesk$Day", name := "layNotices", desc := "(LGuideDesk$Ledger;)V" } : Jvm.MethodName) prog_3_method_6_code (6 : Nat) (Option.none : Option Jvm.ClassFile.FieldType) ∈ TB := TB_of (sub_3 _ (List.mem_of_getElem? (i := 160) rfl)) rfl
theorem kt_641 : Cond.methodLink "GuideDesk$Day" (80 : Nat) ({ cls := "GuideDesk$Ledger", name := "rankedAt", desc := "(I)LGuideDesk$Source;" } : Jvm.MethodName) ∈ TB := TB_of (sub_3 _ (List.mem_of_getElem? (i := 161) rfl)) rfl
theorem kt_642 : Cond.instanceMethod ({ cls := "GuideDesk$Ledger", name := "rankedAt", desc := "(I)LGuideDesk$Source;" } : Jvm.MethodName) ∈ TB := TB_of (sub_3 _ (List.mem_of_getElem? (i := 162) rfl)) rfl
theorem kt_643 : Cond.selects "GuideDesk$Ledger" ({ cls := "GuideDesk$Ledger", name := "rankedAt", desc := "(I)LGuideDesk$Source;" } : Jvm.MethodName) ({ cls := "GuideDesk$Ledger", name := "rankedAt", desc := "(I)LGuideDesk$Source;" } : Jvm.MethodName) ∈ TB := TB_of (sub_3 _ (List.mem_of_getElem? (i := 163) rfl)) rfl
theorem kt_644 : Cond.code ({ cls := "GuideDesk$Ledger", name := "rankedAt", desc := "(I)LGuideDesk$Source;" } : Jvm.MethodName) prog_5_method_5_code (2 : Nat) (Option.some (Jvm.ClassFile.FieldType.object "GuideDesk$Source")) ∈ TB := TB_of (sub_3 _ (List.mem_of_getElem? (i := 164) rfl)) rfl
theorem kt_645 : Cond.methodLink "GuideDesk$Day" (84 : Nat) ({ cls := "GuideDesk$Ledger", name := "factAt", desc := "(I)LGuideDesk$Fact;" } : Jvm.MethodName) ∈ TB := TB_of (sub_3 _ (List.mem_of_getElem? (i := 165) rfl)) rfl
theorem kt_646 : Cond.instanceMethod ({ cls := "GuideDesk$Ledger", name := "factAt", desc := "(I)LGuideDesk$Fact;" } : Jvm.MethodName) ∈ TB := TB_of (sub_3 _ (List.mem_of_getElem? (i := 166) rfl)) rfl
theorem kt_647 : Cond.selects "GuideDesk$Ledger" ({ cls := "GuideDesk$Ledger", name := "factAt", desc := "(I)LGuideDesk$Fact;" } : Jvm.MethodName) ({ cls := "GuideDesk$Ledger", name := "factAt", desc := "(I)LGuideDesk$Fact;" } : Jvm.MethodName) ∈ TB := TB_of (sub_3 _ (List.mem_of_getElem? (i := 167) rfl)) rfl
theorem kt_648 : Cond.code ({ cls := "GuideDesk$Ledger", name := "factAt", desc := "(I)LGuideDesk$Fact;" } : Jvm.MethodName) prog_5_method_6_code (2 : Nat) (Option.some (Jvm.ClassFile.FieldType.object "GuideDesk$Fact")) ∈ TB := TB_of (sub_3 _ (List.mem_of_getElem? (i := 168) rfl)) rfl
theorem kt_649 : Cond.methodLink "GuideDesk$Day" (88 : Nat) ({ cls := "GuideDesk$Fact", name := "isWordOf", desc := "(LGuideDesk$Source;)Z" } : Jvm.MethodName) ∈ TB := TB_of (sub_3 _ (List.mem_of_getElem? (i := 169) rfl)) rfl
theorem kt_650 : Cond.instanceMethod ({ cls := "GuideDesk$Fact", name := "isWordOf", desc := "(LGuideDesk$Source;)Z" } : Jvm.MethodName) ∈ TB := TB_of (sub_3 _ (List.mem_of_getElem? (i := 170) rfl)) rfl
theorem kt_651 : Cond.selects "GuideDesk$Fact" ({ cls := "GuideDesk$Fact", name := "isWordOf", desc := "(LGuideDesk$Source;)Z" } : Jvm.MethodName) ({ cls := "GuideDesk$Fact", name := "isWordOf", desc := "(LGuideDesk$Source;)Z" } : Jvm.MethodName) ∈ TB := TB_of (sub_3 _ (List.mem_of_getElem? (i := 171) rfl)) rfl
theorem kt_652 : Cond.code ({ cls := "GuideDesk$Fact", name := "isWordOf", desc := "(LGuideDesk$Source;)Z" } : Jvm.MethodName) prog_4_method_3_code (2 : Nat) (Option.some Jvm.ClassFile.FieldType.boolean) ∈ TB := TB_of (sub_3 _ (List.mem_of_getElem? (i := 172) rfl)) rfl
theorem kt_653 : Cond.methodLink "GuideDesk$Day" (100 : Nat) ({ cls := "GuideDesk$Day", name := "layNotice", desc := "([ILGuideDesk$Fact;I)V" } : Jvm.MethodName) ∈ TB := TB_of (sub_3 _ (List.mem_of_getElem? (i := 173) rfl)) rfl
theorem kt_654 : Cond.static ({ cls := "GuideDesk$Day", name := "layNotice", desc := "([ILGuideDesk$Fact;I)V" } : Jvm.MethodName) ∈ TB := TB_of (sub_3 _ (List.mem_of_getElem? (i := 174) rfl)) rfl
theorem kt_655 : Cond.code ({ cls := "GuideDesk$Day", name := "layNotice", desc := "([ILGuideDesk$Fact;I)V" } : Jvm.MethodName) prog_3_method_7_code (5 : Nat) (Option.none : Option Jvm.ClassFile.FieldType) ∈ TB := TB_of (sub_3 _ (List.mem_of_getElem? (i := 175) rfl)) rfl
theorem kt_656 : Cond.methodLink "GuideDesk$Day" (110 : Nat) ({ cls := "java/lang/Math", name := "max", desc := "(II)I" } : Jvm.MethodName) ∈ TB := TB_of (sub_3 _ (List.mem_of_getElem? (i := 176) rfl)) rfl
theorem kt_657 : Cond.methodLink "GuideDesk$Day" (60 : Nat) ({ cls := "GuideDesk$Day", name := "pushByOvers", desc := "(LGuideDesk$Ledger;)V" } : Jvm.MethodName) ∈ TB := TB_of (sub_3 _ (List.mem_of_getElem? (i := 177) rfl)) rfl
theorem kt_659 : Cond.instanceMethod ({ cls := "GuideDesk$Day", name := "pushByOvers", desc := "(LGuideDesk$Ledger;)V" } : Jvm.MethodName) ∈ TB := TB_of (sub_3 _ (List.mem_of_getElem? (i := 179) rfl)) rfl
theorem kt_660 : Cond.code ({ cls := "GuideDesk$Day", name := "pushByOvers", desc := "(LGuideDesk$Ledger;)V" } : Jvm.MethodName) prog_3_method_8_code (4 : Nat) (Option.none : Option Jvm.ClassFile.FieldType) ∈ TB := TB_of (sub_3 _ (List.mem_of_getElem? (i := 180) rfl)) rfl
theorem kt_661 : Cond.methodLink "GuideDesk$Day" (113 : Nat) ({ cls := "GuideDesk$Fact", name := "isNotice", desc := "()Z" } : Jvm.MethodName) ∈ TB := TB_of (sub_3 _ (List.mem_of_getElem? (i := 181) rfl)) rfl
theorem kt_662 : Cond.instanceMethod ({ cls := "GuideDesk$Fact", name := "isNotice", desc := "()Z" } : Jvm.MethodName) ∈ TB := TB_of (sub_3 _ (List.mem_of_getElem? (i := 182) rfl)) rfl
theorem kt_663 : Cond.selects "GuideDesk$Fact" ({ cls := "GuideDesk$Fact", name := "isNotice", desc := "()Z" } : Jvm.MethodName) ({ cls := "GuideDesk$Fact", name := "isNotice", desc := "()Z" } : Jvm.MethodName) ∈ TB := TB_of (sub_3 _ (List.mem_of_getElem? (i := 183) rfl)) rfl
theorem kt_664 : Cond.code ({ cls := "GuideDesk$Fact", name := "isNotice", desc := "()Z" } : Jvm.MethodName) prog_4_method_2_code (1 : Nat) (Option.some Jvm.ClassFile.FieldType.boolean) ∈ TB := TB_of (sub_3 _ (List.mem_of_getElem? (i := 184) rfl)) rfl
theorem kt_665 : Cond.methodLink "GuideDesk$Day" (117 : Nat) ({ cls := "GuideDesk$Day", name := "pushByOver", desc := "(LGuideDesk$Ledger;[ILGuideDesk$Fact;)V" } : Jvm.MethodName) ∈ TB := TB_of (sub_3 _ (List.mem_of_getElem? (i := 185) rfl)) rfl
theorem kt_667 : Cond.instanceMethod ({ cls := "GuideDesk$Day", name := "pushByOver", desc := "(LGuideDesk$Ledger;[ILGuideDesk$Fact;)V" } : Jvm.MethodName) ∈ TB := TB_of (sub_3 _ (List.mem_of_getElem? (i := 187) rfl)) rfl
theorem kt_668 : Cond.code ({ cls := "GuideDesk$Day", name := "pushByOver", desc := "(LGuideDesk$Ledger;[ILGuideDesk$Fact;)V" } : Jvm.MethodName) prog_3_method_9_code (10 : Nat) (Option.none : Option Jvm.ClassFile.FieldType) ∈ TB := TB_of (sub_3 _ (List.mem_of_getElem? (i := 188) rfl)) rfl
theorem kt_672 : Cond.methodLink "GuideDesk$Day" (63 : Nat) ({ cls := "GuideDesk$Day", name := "collectShowings", desc := "(LGuideDesk$Ledger;)V" } : Jvm.MethodName) ∈ TB := TB_of (sub_3 _ (List.mem_of_getElem? (i := 192) rfl)) rfl
theorem kt_674 : Cond.instanceMethod ({ cls := "GuideDesk$Day", name := "collectShowings", desc := "(LGuideDesk$Ledger;)V" } : Jvm.MethodName) ∈ TB := TB_of (sub_3 _ (List.mem_of_getElem? (i := 194) rfl)) rfl
theorem kt_675 : Cond.code ({ cls := "GuideDesk$Day", name := "collectShowings", desc := "(LGuideDesk$Ledger;)V" } : Jvm.MethodName) prog_3_method_10_code (5 : Nat) (Option.none : Option Jvm.ClassFile.FieldType) ∈ TB := TB_of (sub_3 _ (List.mem_of_getElem? (i := 195) rfl)) rfl
theorem kt_676 : Cond.methodLink "GuideDesk$Day" (131 : Nat) ({ cls := "GuideDesk$Day", name := "endOfRun", desc := "([II)I" } : Jvm.MethodName) ∈ TB := TB_of (sub_3 _ (List.mem_of_getElem? (i := 196) rfl)) rfl
theorem kt_677 : Cond.static ({ cls := "GuideDesk$Day", name := "endOfRun", desc := "([II)I" } : Jvm.MethodName) ∈ TB := TB_of (sub_3 _ (List.mem_of_getElem? (i := 197) rfl)) rfl
theorem kt_678 : Cond.code ({ cls := "GuideDesk$Day", name := "endOfRun", desc := "([II)I" } : Jvm.MethodName) prog_3_method_11_code (3 : Nat) (Option.some Jvm.ClassFile.FieldType.int) ∈ TB := TB_of (sub_3 _ (List.mem_of_getElem? (i := 198) rfl)) rfl
theorem kt_679 : Cond.methodLink "GuideDesk$Day" (135 : Nat) ({ cls := "GuideDesk$Day", name := "addShowing", desc := "(ILGuideDesk$Fact;II)V" } : Jvm.MethodName) ∈ TB := TB_of (sub_3 _ (List.mem_of_getElem? (i := 199) rfl)) rfl
theorem kt_681 : Cond.instanceMethod ({ cls := "GuideDesk$Day", name := "addShowing", desc := "(ILGuideDesk$Fact;II)V" } : Jvm.MethodName) ∈ TB := TB_of (sub_3 _ (List.mem_of_getElem? (i := 201) rfl)) rfl
theorem kt_682 : Cond.code ({ cls := "GuideDesk$Day", name := "addShowing", desc := "(ILGuideDesk$Fact;II)V" } : Jvm.MethodName) prog_3_method_12_code (6 : Nat) (Option.none : Option Jvm.ClassFile.FieldType) ∈ TB := TB_of (sub_3 _ (List.mem_of_getElem? (i := 202) rfl)) rfl
theorem kt_683 : Cond.instantiable "GuideDesk$Showing" (10 : Nat) ∈ TB := TB_of (sub_3 _ (List.mem_of_getElem? (i := 203) rfl)) rfl
theorem kt_685 : Cond.instanceMethod ({ cls := "GuideDesk$Showing", name := "<init>", desc := "()V" } : Jvm.MethodName) ∈ TB := TB_of (sub_3 _ (List.mem_of_getElem? (i := 205) rfl)) rfl
theorem kt_686 : Cond.code ({ cls := "GuideDesk$Showing", name := "<init>", desc := "()V" } : Jvm.MethodName) prog_8_method_1_code (1 : Nat) (Option.none : Option Jvm.ClassFile.FieldType) ∈ TB := TB_of (sub_3 _ (List.mem_of_getElem? (i := 206) rfl)) rfl
theorem kt_687 : Cond.methodLink "GuideDesk$Showing" (1 : Nat) ({ cls := "java/lang/Object", name := "<init>", desc := "()V" } : Jvm.MethodName) ∈ TB := TB_of (sub_3 _ (List.mem_of_getElem? (i := 207) rfl)) rfl
theorem kt_688 : Cond.fieldLink "GuideDesk$Showing" (7 : Nat) "GuideDesk$Showing" "number" "I" ∈ TB := TB_of (sub_3 _ (List.mem_of_getElem? (i := 208) rfl)) rfl
theorem kt_689 : Cond.fieldLink "GuideDesk$Candidate" (9 : Nat) "GuideDesk$Showing" "number" "I" ∈ TB := TB_of (sub_3 _ (List.mem_of_getElem? (i := 209) rfl)) rfl
theorem kt_690 : Cond.fieldLink "GuideDesk$Day" (70 : Nat) "GuideDesk$Showing" "number" "I" ∈ TB := TB_of (sub_3 _ (List.mem_of_getElem? (i := 210) rfl)) rfl
theorem kt_691 : Cond.fieldLink "GuideDesk$Wishes" (79 : Nat) "GuideDesk$Showing" "number" "I" ∈ TB := TB_of (sub_3 _ (List.mem_of_getElem? (i := 211) rfl)) rfl
theorem kt_692 : Cond.fieldLink "GuideDesk$Showing" (13 : Nat) "GuideDesk$Showing" "fact" "I" ∈ TB := TB_of (sub_3 _ (List.mem_of_getElem? (i := 212) rfl)) rfl
theorem kt_693 : Cond.fieldLink "GuideDesk" (143 : Nat) "GuideDesk$Showing" "fact" "I" ∈ TB := TB_of (sub_3 _ (List.mem_of_getElem? (i := 213) rfl)) rfl
theorem kt_694 : Cond.fieldLink "GuideDesk$Candidate" (20 : Nat) "GuideDesk$Showing" "channel" "I" ∈ TB := TB_of (sub_3 _ (List.mem_of_getElem? (i := 214) rfl)) rfl
theorem kt_695 : Cond.fieldLink "GuideDesk$Showing" (27 : Nat) "GuideDesk$Showing" "channel" "I" ∈ TB := TB_of (sub_3 _ (List.mem_of_getElem? (i := 215) rfl)) rfl
theorem kt_696 : Cond.fieldLink "GuideDesk$Wishes" (60 : Nat) "GuideDesk$Showing" "channel" "I" ∈ TB := TB_of (sub_3 _ (List.mem_of_getElem? (i := 216) rfl)) rfl
theorem kt_697 : Cond.fieldLink "GuideDesk" (148 : Nat) "GuideDesk$Showing" "channel" "I" ∈ TB := TB_of (sub_3 _ (List.mem_of_getElem? (i := 217) rfl)) rfl
theorem kt_698 : Cond.fieldLink "GuideDesk$Showing" (16 : Nat) "GuideDesk$Showing" "from" "I" ∈ TB := TB_of (sub_3 _ (List.mem_of_getElem? (i := 218) rfl)) rfl
theorem kt_699 : Cond.fieldLink "GuideDesk$Candidate" (32 : Nat) "GuideDesk$Showing" "from" "I" ∈ TB := TB_of (sub_3 _ (List.mem_of_getElem? (i := 219) rfl)) rfl
theorem kt_700 : Cond.fieldLink "GuideDesk$Wishes" (63 : Nat) "GuideDesk$Showing" "from" "I" ∈ TB := TB_of (sub_3 _ (List.mem_of_getElem? (i := 220) rfl)) rfl
theorem kt_701 : Cond.fieldLink "GuideDesk" (151 : Nat) "GuideDesk$Showing" "from" "I" ∈ TB := TB_of (sub_3 _ (List.mem_of_getElem? (i := 221) rfl)) rfl
theorem kt_702 : Cond.fieldLink "GuideDesk$Showing" (19 : Nat) "GuideDesk$Showing" "until" "I" ∈ TB := TB_of (sub_3 _ (List.mem_of_getElem? (i := 222) rfl)) rfl
theorem kt_703 : Cond.fieldLink "GuideDesk$Candidate" (57 : Nat) "GuideDesk$Showing" "until" "I" ∈ TB := TB_of (sub_3 _ (List.mem_of_getElem? (i := 223) rfl)) rfl
theorem kt_704 : Cond.fieldLink "GuideDesk$Wishes" (66 : Nat) "GuideDesk$Showing" "until" "I" ∈ TB := TB_of (sub_3 _ (List.mem_of_getElem? (i := 224) rfl)) rfl
theorem kt_705 : Cond.fieldLink "GuideDesk" (154 : Nat) "GuideDesk$Showing" "until" "I" ∈ TB := TB_of (sub_3 _ (List.mem_of_getElem? (i := 225) rfl)) rfl
theorem kt_706 : Cond.fieldLink "GuideDesk$Candidate" (24 : Nat) "GuideDesk$Showing" "title" "I" ∈ TB := TB_of (sub_3 _ (List.mem_of_getElem? (i := 226) rfl)) rfl
theorem kt_707 : Cond.fieldLink "GuideDesk$Showing" (31 : Nat) "GuideDesk$Showing" "title" "I" ∈ TB := TB_of (sub_3 _ (List.mem_of_getElem? (i := 227) rfl)) rfl
theorem kt_708 : Cond.fieldLink "GuideDesk$Wishes" (52 : Nat) "GuideDesk$Showing" "title" "I" ∈ TB := TB_of (sub_3 _ (List.mem_of_getElem? (i := 228) rfl)) rfl
theorem kt_709 : Cond.fieldLink "GuideDesk$Day" (150 : Nat) "GuideDesk$Showing" "title" "I" ∈ TB := TB_of (sub_3 _ (List.mem_of_getElem? (i := 229) rfl)) rfl
theorem kt_710 : Cond.fieldLink "GuideDesk" (157 : Nat) "GuideDesk$Showing" "title" "I" ∈ TB := TB_of (sub_3 _ (List.mem_of_getElem? (i := 230) rfl)) rfl
theorem kt_711 : Cond.fieldLink "GuideDesk$Candidate" (28 : Nat) "GuideDesk$Showing" "episode" "I" ∈ TB := TB_of (sub_3 _ (List.mem_of_getElem? (i := 231) rfl)) rfl
theorem kt_712 : Cond.fieldLink "GuideDesk$Showing" (35 : Nat) "GuideDesk$Showing" "episode" "I" ∈ TB := TB_of (sub_3 _ (List.mem_of_getElem? (i := 232) rfl)) rfl
theorem kt_713 : Cond.fieldLink "GuideDesk$Wishes" (57 : Nat) "GuideDesk$Showing" "episode" "I" ∈ TB := TB_of (sub_3 _ (List.mem_of_getElem? (i := 233) rfl)) rfl
theorem kt_714 : Cond.fieldLink "GuideDesk$Day" (151 : Nat) "GuideDesk$Showing" "episode" "I" ∈ TB := TB_of (sub_3 _ (List.mem_of_getElem? (i := 234) rfl)) rfl
theorem kt_715 : Cond.fieldLink "GuideDesk" (160 : Nat) "GuideDesk$Showing" "episode" "I" ∈ TB := TB_of (sub_3 _ (List.mem_of_getElem? (i := 235) rfl)) rfl
theorem kt_716 : Cond.fieldLink "GuideDesk$Showing" (40 : Nat) "GuideDesk$Showing" "trust" "I" ∈ TB := TB_of (sub_3 _ (List.mem_of_getElem? (i := 236) rfl)) rfl
theorem kt_717 : Cond.fieldLink "GuideDesk$Wishes" (69 : Nat) "GuideDesk$Showing" "trust" "I" ∈ TB := TB_of (sub_3 _ (List.mem_of_getElem? (i := 237) rfl)) rfl
theorem kt_718 : Cond.fieldLink "GuideDesk$Showing" (46 : Nat) "GuideDesk$Showing" "live" "Z" ∈ TB := TB_of (sub_3 _ (List.mem_of_getElem? (i := 238) rfl)) rfl
theorem kt_719 : Cond.fieldLink "GuideDesk$Wishes" (72 : Nat) "GuideDesk$Showing" "live" "Z" ∈ TB := TB_of (sub_3 _ (List.mem_of_getElem? (i := 239) rfl)) rfl
theorem kt_720 : Cond.fieldLink "GuideDesk$Candidate" (36 : Nat) "GuideDesk$Showing" "leastOne" "I" ∈ TB := TB_of (sub_4 _ (List.mem_of_getElem? (i := 0) rfl)) rfl
theorem kt_721 : Cond.fieldLink "GuideDesk$Wishes" (76 : Nat) "GuideDesk$Showing" "leastOne" "I" ∈ TB := TB_of (sub_4 _ (List.mem_of_getElem? (i := 1) rfl)) rfl
theorem kt_722 : Cond.fieldLink "GuideDesk$Day" (147 : Nat) "GuideDesk$Showing" "leastOne" "I" ∈ TB := TB_of (sub_4 _ (List.mem_of_getElem? (i := 2) rfl)) rfl
theorem kt_723 : Cond.fieldLink "GuideDesk" (167 : Nat) "GuideDesk$Showing" "leastOne" "I" ∈ TB := TB_of (sub_4 _ (List.mem_of_getElem? (i := 3) rfl)) rfl
theorem kt_745 : Cond.methodLink "GuideDesk$Day" (140 : Nat) ({ cls := "GuideDesk$Showing", name := "fill", desc := "(IILGuideDesk$Fact;II)V" } : Jvm.MethodName) ∈ TB := TB_of (sub_4 _ (List.mem_of_getElem? (i := 25) rfl)) rfl
theorem kt_746 : Cond.instanceMethod ({ cls := "GuideDesk$Showing", name := "fill", desc := "(IILGuideDesk$Fact;II)V" } : Jvm.MethodName) ∈ TB := TB_of (sub_4 _ (List.mem_of_getElem? (i := 26) rfl)) rfl
theorem kt_747 : Cond.selects "GuideDesk$Showing" ({ cls := "GuideDesk$Showing", name := "fill", desc := "(IILGuideDesk$Fact;II)V" } : Jvm.MethodName) ({ cls := "GuideDesk$Showing", name := "fill", desc := "(IILGuideDesk$Fact;II)V" } : Jvm.MethodName) ∈ TB := TB_of (sub_4 _ (List.mem_of_getElem? (i := 27) rfl)) rfl
theorem kt_748 : Cond.code ({ cls := "GuideDesk$Showing", name := "fill", desc := "(IILGuideDesk$Fact;II)V" } : Jvm.MethodName) prog_8_method_2_code (6 : Nat) (Option.none : Option Jvm.ClassFile.FieldType) ∈ TB := TB_of (sub_4 _ (List.mem_of_getElem? (i := 28) rfl)) rfl
theorem kt_749 : Cond.methodLink "GuideDesk$Showing" (36 : Nat) ({ cls := "GuideDesk$Fact", name := "trust", desc := "()I" } : Jvm.MethodName) ∈ TB := TB_of (sub_4 _ (List.mem_of_getElem? (i := 29) rfl)) rfl
theorem kt_750 : Cond.instanceMethod ({ cls := "GuideDesk$Fact", name := "trust", desc := "()I" } : Jvm.MethodName) ∈ TB := TB_of (sub_4 _ (List.mem_of_getElem? (i := 30) rfl)) rfl
theorem kt_751 : Cond.selects "GuideDesk$Fact" ({ cls := "GuideDesk$Fact", name := "trust", desc := "()I" } : Jvm.MethodName) ({ cls := "GuideDesk$Fact", name := "trust", desc := "()I" } : Jvm.MethodName) ∈ TB := TB_of (sub_4 _ (List.mem_of_getElem? (i := 31) rfl)) rfl
theorem kt_752 : Cond.code ({ cls := "GuideDesk$Fact", name := "trust", desc := "()I" } : Jvm.MethodName) prog_4_method_5_code (1 : Nat) (Option.some Jvm.ClassFile.FieldType.int) ∈ TB := TB_of (sub_4 _ (List.mem_of_getElem? (i := 32) rfl)) rfl
theorem kt_753 : Cond.methodLink "GuideDesk$Day" (143 : Nat) ({ cls := "GuideDesk$Day", name := "leastOneOf", desc := "(LGuideDesk$Showing;)I" } : Jvm.MethodName) ∈ TB := TB_of (sub_4 _ (List.mem_of_getElem? (i := 33) rfl)) rfl
theorem kt_755 : Cond.instanceMethod ({ cls := "GuideDesk$Day", name := "leastOneOf", desc := "(LGuideDesk$Showing;)I" } : Jvm.MethodName) ∈ TB := TB_of (sub_4 _ (List.mem_of_getElem? (i := 35) rfl)) rfl
theorem kt_756 : Cond.code ({ cls := "GuideDesk$Day", name := "leastOneOf", desc := "(LGuideDesk$Showing;)I" } : Jvm.MethodName) prog_3_method_13_code (3 : Nat) (Option.some Jvm.ClassFile.FieldType.int) ∈ TB := TB_of (sub_4 _ (List.mem_of_getElem? (i := 36) rfl)) rfl
theorem kt_757 : Cond.methodLink "GuideDesk" (131 : Nat) ({ cls := "GuideDesk$Day", name := "factAt", desc := "(II)I" } : Jvm.MethodName) ∈ TB := TB_of (sub_4 _ (List.mem_of_getElem? (i := 37) rfl)) rfl
theorem kt_758 : Cond.instanceMethod ({ cls := "GuideDesk$Day", name := "factAt", desc := "(II)I" } : Jvm.MethodName) ∈ TB := TB_of (sub_4 _ (List.mem_of_getElem? (i := 38) rfl)) rfl
theorem kt_759 : Cond.selects "GuideDesk$Day" ({ cls := "GuideDesk$Day", name := "factAt", desc := "(II)I" } : Jvm.MethodName) ({ cls := "GuideDesk$Day", name := "factAt", desc := "(II)I" } : Jvm.MethodName) ∈ TB := TB_of (sub_4 _ (List.mem_of_getElem? (i := 39) rfl)) rfl
theorem kt_760 : Cond.code ({ cls := "GuideDesk$Day", name := "factAt", desc := "(II)I" } : Jvm.MethodName) prog_3_method_3_code (3 : Nat) (Option.some Jvm.ClassFile.FieldType.int) ∈ TB := TB_of (sub_4 _ (List.mem_of_getElem? (i := 40) rfl)) rfl
theorem kt_764 : Cond.code ({ cls := "GuideDesk", name := "says", desc := "(IIII)I" } : Jvm.MethodName) prog_1_method_13_code (6 : Nat) (Option.some Jvm.ClassFile.FieldType.int) ∈ TB := TB_of (sub_4 _ (List.mem_of_getElem? (i := 44) rfl)) rfl
theorem kt_765 : Cond.methodLink "GuideDesk" (135 : Nat) ({ cls := "GuideDesk$Ledger", name := "latestWord", desc := "(LGuideDesk$Source;III)I" } : Jvm.MethodName) ∈ TB := TB_of (sub_4 _ (List.mem_of_getElem? (i := 45) rfl)) rfl
theorem kt_766 : Cond.instanceMethod ({ cls := "GuideDesk$Ledger", name := "latestWord", desc := "(LGuideDesk$Source;III)I" } : Jvm.MethodName) ∈ TB := TB_of (sub_4 _ (List.mem_of_getElem? (i := 46) rfl)) rfl
theorem kt_767 : Cond.selects "GuideDesk$Ledger" ({ cls := "GuideDesk$Ledger", name := "latestWord", desc := "(LGuideDesk$Source;III)I" } : Jvm.MethodName) ({ cls := "GuideDesk$Ledger", name := "latestWord", desc := "(LGuideDesk$Source;III)I" } : Jvm.MethodName) ∈ TB := TB_of (sub_4 _ (List.mem_of_getElem? (i := 47) rfl)) rfl
theorem kt_768 : Cond.code ({ cls := "GuideDesk$Ledger", name := "latestWord", desc := "(LGuideDesk$Source;III)I" } : Jvm.MethodName) prog_5_method_9_code (7 : Nat) (Option.some Jvm.ClassFile.FieldType.int) ∈ TB := TB_of (sub_4 _ (List.mem_of_getElem? (i := 48) rfl)) rfl
theorem kt_769 : Cond.methodLink "GuideDesk$Ledger" (46 : Nat) ({ cls := "GuideDesk$Ledger", name := "factAt", desc := "(I)LGuideDesk$Fact;" } : Jvm.MethodName) ∈ TB := TB_of (sub_4 _ (List.mem_of_getElem? (i := 49) rfl)) rfl
theorem kt_770 : Cond.methodLink "GuideDesk$Ledger" (50 : Nat) ({ cls := "GuideDesk$Fact", name := "isWordOf", desc := "(LGuideDesk$Source;)Z" } : Jvm.MethodName) ∈ TB := TB_of (sub_4 _ (List.mem_of_getElem? (i := 50) rfl)) rfl
theorem kt_771 : Cond.methodLink "GuideDesk$Ledger" (53 : Nat) ({ cls := "GuideDesk$Fact", name := "hasSlot", desc := "(II)Z" } : Jvm.MethodName) ∈ TB := TB_of (sub_4 _ (List.mem_of_getElem? (i := 51) rfl)) rfl
theorem kt_772 : Cond.instanceMethod ({ cls := "GuideDesk$Fact", name := "hasSlot", desc := "(II)Z" } : Jvm.MethodName) ∈ TB := TB_of (sub_4 _ (List.mem_of_getElem? (i := 52) rfl)) rfl
theorem kt_773 : Cond.selects "GuideDesk$Fact" ({ cls := "GuideDesk$Fact", name := "hasSlot", desc := "(II)Z" } : Jvm.MethodName) ({ cls := "GuideDesk$Fact", name := "hasSlot", desc := "(II)Z" } : Jvm.MethodName) ∈ TB := TB_of (sub_4 _ (List.mem_of_getElem? (i := 53) rfl)) rfl
theorem kt_774 : Cond.code ({ cls := "GuideDesk$Fact", name := "hasSlot", desc := "(II)Z" } : Jvm.MethodName) prog_4_method_4_code (3 : Nat) (Option.some Jvm.ClassFile.FieldType.boolean) ∈ TB := TB_of (sub_4 _ (List.mem_of_getElem? (i := 54) rfl)) rfl
theorem kt_778 : Cond.code ({ cls := "GuideDesk", name := "showing", desc := "(III)I" } : Jvm.MethodName) prog_1_method_14_code (5 : Nat) (Option.some Jvm.ClassFile.FieldType.int) ∈ TB := TB_of (sub_4 _ (List.mem_of_getElem? (i := 58) rfl)) rfl
theorem kt_779 : Cond.methodLink "GuideDesk" (139 : Nat) ({ cls := "GuideDesk", name := "findShowing", desc := "(II)LGuideDesk$Showing;" } : Jvm.MethodName) ∈ TB := TB_of (sub_4 _ (List.mem_of_getElem? (i := 59) rfl)) rfl
theorem kt_781 : Cond.instanceMethod ({ cls := "GuideDesk", name := "findShowing", desc := "(II)LGuideDesk$Showing;" } : Jvm.MethodName) ∈ TB := TB_of (sub_4 _ (List.mem_of_getElem? (i := 61) rfl)) rfl
theorem kt_782 : Cond.code ({ cls := "GuideDesk", name := "findShowing", desc := "(II)LGuideDesk$Showing;" } : Jvm.MethodName) prog_1_method_21_code (3 : Nat) (Option.some (Jvm.ClassFile.FieldType.object "GuideDesk$Showing")) ∈ TB := TB_of (sub_4 _ (List.mem_of_getElem? (i := 62) rfl)) rfl
theorem kt_783 : Cond.methodLink "GuideDesk" (238 : Nat) ({ cls := "GuideDesk$Day", name := "at", desc := "(I)LGuideDesk$Showing;" } : Jvm.MethodName) ∈ TB := TB_of (sub_4 _ (List.mem_of_getElem? (i := 63) rfl)) rfl
theorem kt_784 : Cond.instanceMethod ({ cls := "GuideDesk$Day", name := "at", desc := "(I)LGuideDesk$Showing;" } : Jvm.MethodName) ∈ TB := TB_of (sub_4 _ (List.mem_of_getElem? (i := 64) rfl)) rfl
theorem kt_785 : Cond.selects "GuideDesk$Day" ({ cls := "GuideDesk$Day", name := "at", desc := "(I)LGuideDesk$Showing;" } : Jvm.MethodName) ({ cls := "GuideDesk$Day", name := "at", desc := "(I)LGuideDesk$Showing;" } : Jvm.MethodName) ∈ TB := TB_of (sub_4 _ (List.mem_of_getElem? (i := 65) rfl)) rfl
theorem kt_786 : Cond.code ({ cls := "GuideDesk$Day", name := "at", desc := "(I)LGuideDesk$Showing;" } : Jvm.MethodName) prog_3_method_4_code (2 : Nat) (Option.some (Jvm.ClassFile.FieldType.object "GuideDesk$Showing")) ∈ TB := TB_of (sub_4 _ (List.mem_of_getElem? (i := 66) rfl)) rfl
theorem kt_787 : Cond.methodLink "GuideDesk" (163 : Nat) ({ cls := "GuideDesk$Wishes", name := "weigh", desc := "(LGuideDesk$Showing;)I" } : Jvm.MethodName) ∈ TB := TB_of (sub_4 _ (List.mem_of_getElem? (i := 67) rfl)) rfl
theorem kt_788 : Cond.instanceMethod ({ cls := "GuideDesk$Wishes", name := "weigh", desc := "(LGuideDesk$Showing;)I" } : Jvm.MethodName) ∈ TB := TB_of (sub_4 _ (List.mem_of_getElem? (i := 68) rfl)) rfl
theorem kt_789 : Cond.selects "GuideDesk$Wishes" ({ cls := "GuideDesk$Wishes", name := "weigh", desc := "(LGuideDesk$Showing;)I" } : Jvm.MethodName) ({ cls := "GuideDesk$Wishes", name := "weigh", desc := "(LGuideDesk$Showing;)I" } : Jvm.MethodName) ∈ TB := TB_of (sub_4 _ (List.mem_of_getElem? (i := 69) rfl)) rfl
theorem kt_790 : Cond.code ({ cls := "GuideDesk$Wishes", name := "weigh", desc := "(LGuideDesk$Showing;)I" } : Jvm.MethodName) prog_12_method_5_code (5 : Nat) (Option.some Jvm.ClassFile.FieldType.int) ∈ TB := TB_of (sub_4 _ (List.mem_of_getElem? (i := 70) rfl)) rfl
theorem kt_791 : Cond.methodLink "GuideDesk$Wishes" (31 : Nat) ({ cls := "GuideDesk$Wishes", name := "isMet", desc := "(ILGuideDesk$Showing;)Z" } : Jvm.MethodName) ∈ TB := TB_of (sub_4 _ (List.mem_of_getElem? (i := 71) rfl)) rfl
theorem kt_792 : Cond.instanceMethod ({ cls := "GuideDesk$Wishes", name := "isMet", desc := "(ILGuideDesk$Showing;)Z" } : Jvm.MethodName) ∈ TB := TB_of (sub_4 _ (List.mem_of_getElem? (i := 72) rfl)) rfl
theorem kt_793 : Cond.selects "GuideDesk$Wishes" ({ cls := "GuideDesk$Wishes", name := "isMet", desc := "(ILGuideDesk$Showing;)Z" } : Jvm.MethodName) ({ cls := "GuideDesk$Wishes", name := "isMet", desc := "(ILGuideDesk$Showing;)Z" } : Jvm.MethodName) ∈ TB := TB_of (sub_4 _ (List.mem_of_getElem? (i := 73) rfl)) rfl
theorem kt_794 : Cond.code ({ cls := "GuideDesk$Wishes", name := "isMet", desc := "(ILGuideDesk$Showing;)Z" } : Jvm.MethodName) prog_12_method_6_code (7 : Nat) (Option.some Jvm.ClassFile.FieldType.boolean) ∈ TB := TB_of (sub_4 _ (List.mem_of_getElem? (i := 74) rfl)) rfl
theorem kt_795 : Cond.methodLink "GuideDesk$Wishes" (35 : Nat) ({ cls := "java/lang/Math", name := "min", desc := "(II)I" } : Jvm.MethodName) ∈ TB := TB_of (sub_4 _ (List.mem_of_getElem? (i := 75) rfl)) rfl
theorem kt_796 : Cond.methodLink "GuideDesk$Wishes" (41 : Nat) ({ cls := "java/lang/Math", name := "max", desc := "(II)I" } : Jvm.MethodName) ∈ TB := TB_of (sub_4 _ (List.mem_of_getElem? (i := 76) rfl)) rfl
theorem kt_797 : Cond.methodLink "GuideDesk$Wishes" (44 : Nat) ({ cls := "GuideDesk$Wishes", name := "join", desc := "(III)I" } : Jvm.MethodName) ∈ TB := TB_of (sub_4 _ (List.mem_of_getElem? (i := 77) rfl)) rfl
theorem kt_798 : Cond.static ({ cls := "GuideDesk$Wishes", name := "join", desc := "(III)I" } : Jvm.MethodName) ∈ TB := TB_of (sub_4 _ (List.mem_of_getElem? (i := 78) rfl)) rfl
theorem kt_799 : Cond.code ({ cls := "GuideDesk$Wishes", name := "join", desc := "(III)I" } : Jvm.MethodName) prog_12_method_8_code (3 : Nat) (Option.some Jvm.ClassFile.FieldType.int) ∈ TB := TB_of (sub_4 _ (List.mem_of_getElem? (i := 79) rfl)) rfl
theorem kt_800 : Cond.methodLink "GuideDesk$Wishes" (48 : Nat) ({ cls := "GuideDesk$Wishes", name := "valueOf", desc := "(ILGuideDesk$Showing;)I" } : Jvm.MethodName) ∈ TB := TB_of (sub_4 _ (List.mem_of_getElem? (i := 80) rfl)) rfl
theorem kt_801 : Cond.static ({ cls := "GuideDesk$Wishes", name := "valueOf", desc := "(ILGuideDesk$Showing;)I" } : Jvm.MethodName) ∈ TB := TB_of (sub_4 _ (List.mem_of_getElem? (i := 81) rfl)) rfl
theorem kt_802 : Cond.code ({ cls := "GuideDesk$Wishes", name := "valueOf", desc := "(ILGuideDesk$Showing;)I" } : Jvm.MethodName) prog_12_method_7_code (2 : Nat) (Option.some Jvm.ClassFile.FieldType.int) ∈ TB := TB_of (sub_4 _ (List.mem_of_getElem? (i := 82) rfl)) rfl
theorem kt_803 : Cond.methodLink "GuideDesk" (170 : Nat) ({ cls := "GuideDesk$Day", name := "firstDoubted", desc := "(LGuideDesk$Showing;)I" } : Jvm.MethodName) ∈ TB := TB_of (sub_4 _ (List.mem_of_getElem? (i := 83) rfl)) rfl
theorem kt_804 : Cond.instanceMethod ({ cls := "GuideDesk$Day", name := "firstDoubted", desc := "(LGuideDesk$Showing;)I" } : Jvm.MethodName) ∈ TB := TB_of (sub_4 _ (List.mem_of_getElem? (i := 84) rfl)) rfl
theorem kt_805 : Cond.selects "GuideDesk$Day" ({ cls := "GuideDesk$Day", name := "firstDoubted", desc := "(LGuideDesk$Showing;)I" } : Jvm.MethodName) ({ cls := "GuideDesk$Day", name := "firstDoubted", desc := "(LGuideDesk$Showing;)I" } : Jvm.MethodName) ∈ TB := TB_of (sub_4 _ (List.mem_of_getElem? (i := 85) rfl)) rfl
theorem kt_806 : Cond.code ({ cls := "GuideDesk$Day", name := "firstDoubted", desc := "(LGuideDesk$Showing;)I" } : Jvm.MethodName) prog_3_method_5_code (4 : Nat) (Option.some Jvm.ClassFile.FieldType.int) ∈ TB := TB_of (sub_4 _ (List.mem_of_getElem? (i := 86) rfl)) rfl
theorem kt_807 : Cond.methodLink "GuideDesk$Day" (66 : Nat) ({ cls := "GuideDesk$Day", name := "at", desc := "(I)LGuideDesk$Showing;" } : Jvm.MethodName) ∈ TB := TB_of (sub_4 _ (List.mem_of_getElem? (i := 87) rfl)) rfl
theorem kt_808 : Cond.methodLink "GuideDesk$Day" (73 : Nat) ({ cls := "GuideDesk$Showing", name := "isDoubtedWith", desc := "(LGuideDesk$Showing;)Z" } : Jvm.MethodName) ∈ TB := TB_of (sub_4 _ (List.mem_of_getElem? (i := 88) rfl)) rfl
theorem kt_809 : Cond.instanceMethod ({ cls := "GuideDesk$Showing", name := "isDoubtedWith", desc := "(LGuideDesk$Showing;)Z" } : Jvm.MethodName) ∈ TB := TB_of (sub_4 _ (List.mem_of_getElem? (i := 89) rfl)) rfl
theorem kt_810 : Cond.selects "GuideDesk$Showing" ({ cls := "GuideDesk$Showing", name := "isDoubtedWith", desc := "(LGuideDesk$Showing;)Z" } : Jvm.MethodName) ({ cls := "GuideDesk$Showing", name := "isDoubtedWith", desc := "(LGuideDesk$Showing;)Z" } : Jvm.MethodName) ∈ TB := TB_of (sub_4 _ (List.mem_of_getElem? (i := 90) rfl)) rfl
theorem kt_811 : Cond.code ({ cls := "GuideDesk$Showing", name := "isDoubtedWith", desc := "(LGuideDesk$Showing;)Z" } : Jvm.MethodName) prog_8_method_3_code (2 : Nat) (Option.some Jvm.ClassFile.FieldType.boolean) ∈ TB := TB_of (sub_4 _ (List.mem_of_getElem? (i := 91) rfl)) rfl
theorem kt_815 : Cond.code ({ cls := "GuideDesk", name := "showings", desc := "(I)I" } : Jvm.MethodName) prog_1_method_15_code (2 : Nat) (Option.some Jvm.ClassFile.FieldType.int) ∈ TB := TB_of (sub_4 _ (List.mem_of_getElem? (i := 95) rfl)) rfl
theorem kt_819 : Cond.code ({ cls := "GuideDesk", name := "holds", desc := "(III)I" } : Jvm.MethodName) prog_1_method_16_code (5 : Nat) (Option.some Jvm.ClassFile.FieldType.int) ∈ TB := TB_of (sub_4 _ (List.mem_of_getElem? (i := 99) rfl)) rfl
theorem kt_820 : Cond.methodLink "GuideDesk" (177 : Nat) ({ cls := "GuideDesk$Wishes", name := "isMet", desc := "(ILGuideDesk$Showing;)Z" } : Jvm.MethodName) ∈ TB := TB_of (sub_4 _ (List.mem_of_getElem? (i := 100) rfl)) rfl
theorem kt_824 : Cond.code ({ cls := "GuideDesk", name := "plan", desc := "(I)I" } : Jvm.MethodName) prog_1_method_17_code (3 : Nat) (Option.some Jvm.ClassFile.FieldType.int) ∈ TB := TB_of (sub_4 _ (List.mem_of_getElem? (i := 104) rfl)) rfl
theorem kt_825 : Cond.methodLink "GuideDesk" (181 : Nat) ({ cls := "GuideDesk$Plan", name := "gather", desc := "(LGuideDesk$Day;LGuideDesk$Wishes;LGuideDesk$Recorder;)Z" } : Jvm.MethodName) ∈ TB := TB_of (sub_4 _ (List.mem_of_getElem? (i := 105) rfl)) rfl
theorem kt_826 : Cond.instanceMethod ({ cls := "GuideDesk$Plan", name := "gather", desc := "(LGuideDesk$Day;LGuideDesk$Wishes;LGuideDesk$Recorder;)Z" } : Jvm.MethodName) ∈ TB := TB_of (sub_4 _ (List.mem_of_getElem? (i := 106) rfl)) rfl
theorem kt_827 : Cond.selects "GuideDesk$Plan" ({ cls := "GuideDesk$Plan", name := "gather", desc := "(LGuideDesk$Day;LGuideDesk$Wishes;LGuideDesk$Recorder;)Z" } : Jvm.MethodName) ({ cls := "GuideDesk$Plan", name := "gather", desc := "(LGuideDesk$Day;LGuideDesk$Wishes;LGuideDesk$Recorder;)Z" } : Jvm.MethodName) ∈ TB := TB_of (sub_4 _ (List.mem_of_getElem? (i := 107) rfl)) rfl
theorem kt_828 : Cond.code ({ cls := "GuideDesk$Plan", name := "gather", desc := "(LGuideDesk$Day;LGuideDesk$Wishes;LGuideDesk$Recorder;)Z" } : Jvm.MethodName) prog_6_method_3_code (7 : Nat) (Option.some Jvm.ClassFile.FieldType.boolean) ∈ TB := TB_of (sub_4 _ (List.mem_of_getElem? (i := 108) rfl)) rfl
theorem kt_829 : Cond.methodLink "GuideDesk$Plan" (37 : Nat) ({ cls := "GuideDesk$Day", name := "at", desc := "(I)LGuideDesk$Showing;" } : Jvm.MethodName) ∈ TB := TB_of (sub_4 _ (List.mem_of_getElem? (i := 109) rfl)) rfl
theorem kt_830 : Cond.methodLink "GuideDesk$Plan" (41 : Nat) ({ cls := "GuideDesk$Wishes", name := "weigh", desc := "(LGuideDesk$Showing;)I" } : Jvm.MethodName) ∈ TB := TB_of (sub_4 _ (List.mem_of_getElem? (i := 110) rfl)) rfl
theorem kt_831 : Cond.instantiable "GuideDesk$Candidate" (18 : Nat) ∈ TB := TB_of (sub_4 _ (List.mem_of_getElem? (i := 111) rfl)) rfl
theorem kt_833 : Cond.instanceMethod ({ cls := "GuideDesk$Candidate", name := "<init>", desc := "()V" } : Jvm.MethodName) ∈ TB := TB_of (sub_4 _ (List.mem_of_getElem? (i := 113) rfl)) rfl
theorem kt_834 : Cond.code ({ cls := "GuideDesk$Candidate", name := "<init>", desc := "()V" } : Jvm.MethodName) prog_2_method_1_code (1 : Nat) (Option.none : Option Jvm.ClassFile.FieldType) ∈ TB := TB_of (sub_4 _ (List.mem_of_getElem? (i := 114) rfl)) rfl
theorem kt_835 : Cond.methodLink "GuideDesk$Candidate" (3 : Nat) ({ cls := "java/lang/Object", name := "<init>", desc := "()V" } : Jvm.MethodName) ∈ TB := TB_of (sub_4 _ (List.mem_of_getElem? (i := 115) rfl)) rfl
theorem kt_836 : Cond.fieldLink "GuideDesk$Candidate" (15 : Nat) "GuideDesk$Candidate" "showing" "I" ∈ TB := TB_of (sub_4 _ (List.mem_of_getElem? (i := 116) rfl)) rfl
theorem kt_837 : Cond.fieldLink "GuideDesk" (204 : Nat) "GuideDesk$Candidate" "showing" "I" ∈ TB := TB_of (sub_4 _ (List.mem_of_getElem? (i := 117) rfl)) rfl
theorem kt_838 : Cond.fieldLink "GuideDesk$Candidate" (23 : Nat) "GuideDesk$Candidate" "channel" "I" ∈ TB := TB_of (sub_4 _ (List.mem_of_getElem? (i := 118) rfl)) rfl
theorem kt_839 : Cond.fieldLink "GuideDesk$Candidate" (27 : Nat) "GuideDesk$Candidate" "title" "I" ∈ TB := TB_of (sub_4 _ (List.mem_of_getElem? (i := 119) rfl)) rfl
theorem kt_840 : Cond.fieldLink "GuideDesk$Candidate" (31 : Nat) "GuideDesk$Candidate" "episode" "I" ∈ TB := TB_of (sub_4 _ (List.mem_of_getElem? (i := 120) rfl)) rfl
theorem kt_841 : Cond.fieldLink "GuideDesk$Candidate" (35 : Nat) "GuideDesk$Candidate" "from" "I" ∈ TB := TB_of (sub_4 _ (List.mem_of_getElem? (i := 121) rfl)) rfl
theorem kt_842 : Cond.fieldLink "GuideDesk$Candidate" (39 : Nat) "GuideDesk$Candidate" "leastOne" "I" ∈ TB := TB_of (sub_4 _ (List.mem_of_getElem? (i := 122) rfl)) rfl
theorem kt_843 : Cond.fieldLink "GuideDesk$Candidate" (40 : Nat) "GuideDesk$Candidate" "weight" "I" ∈ TB := TB_of (sub_4 _ (List.mem_of_getElem? (i := 123) rfl)) rfl
theorem kt_844 : Cond.fieldLink "GuideDesk$Plan" (69 : Nat) "GuideDesk$Candidate" "weight" "I" ∈ TB := TB_of (sub_4 _ (List.mem_of_getElem? (i := 124) rfl)) rfl
theorem kt_845 : Cond.fieldLink "GuideDesk$Recorder" (109 : Nat) "GuideDesk$Candidate" "weight" "I" ∈ TB := TB_of (sub_4 _ (List.mem_of_getElem? (i := 125) rfl)) rfl
theorem kt_846 : Cond.fieldLink "GuideDesk$Candidate" (54 : Nat) "GuideDesk$Candidate" "spanFrom" "I" ∈ TB := TB_of (sub_4 _ (List.mem_of_getElem? (i := 126) rfl)) rfl
theorem kt_847 : Cond.fieldLink "GuideDesk$Plan" (63 : Nat) "GuideDesk$Candidate" "spanFrom" "I" ∈ TB := TB_of (sub_4 _ (List.mem_of_getElem? (i := 127) rfl)) rfl
theorem kt_848 : Cond.fieldLink "GuideDesk$Candidate" (66 : Nat) "GuideDesk$Candidate" "spanUntil" "I" ∈ TB := TB_of (sub_4 _ (List.mem_of_getElem? (i := 128) rfl)) rfl
theorem kt_849 : Cond.fieldLink "GuideDesk$Plan" (59 : Nat) "GuideDesk$Candidate" "underWay" "Z" ∈ TB := TB_of (sub_4 _ (List.mem_of_getElem? (i := 129) rfl)) rfl
theorem kt_850 : Cond.fieldLink "GuideDesk$Recorder" (107 : Nat) "GuideDesk$Candidate" "underWay" "Z" ∈ TB := TB_of (sub_4 _ (List.mem_of_getElem? (i := 130) rfl)) rfl
theorem kt_851 : Cond.fieldLink "GuideDesk" (219 : Nat) "GuideDesk$Candidate" "underWay" "Z" ∈ TB := TB_of (sub_4 _ (List.mem_of_getElem? (i := 131) rfl)) rfl
theorem kt_852 : Cond.fieldLink "GuideDesk$Plan" (66 : Nat) "GuideDesk$Candidate" "mayBeIn" "Z" ∈ TB := TB_of (sub_4 _ (List.mem_of_getElem? (i := 132) rfl)) rfl
theorem kt_853 : Cond.fieldLink "GuideDesk$Recorder" (87 : Nat) "GuideDesk$Candidate" "mayBeIn" "Z" ∈ TB := TB_of (sub_4 _ (List.mem_of_getElem? (i := 133) rfl)) rfl
theorem kt_854 : Cond.fieldLink "GuideDesk$Plan" (80 : Nat) "GuideDesk$Candidate" "isIn" "Z" ∈ TB := TB_of (sub_4 _ (List.mem_of_getElem? (i := 134) rfl)) rfl
theorem kt_855 : Cond.fieldLink "GuideDesk" (209 : Nat) "GuideDesk$Candidate" "isIn" "Z" ∈ TB := TB_of (sub_4 _ (List.mem_of_getElem? (i := 135) rfl)) rfl
theorem kt_856 : Cond.fieldLink "GuideDesk$Plan" (108 : Nat) "GuideDesk$Candidate" "why" "I" ∈ TB := TB_of (sub_4 _ (List.mem_of_getElem? (i := 136) rfl)) rfl
theorem kt_857 : Cond.fieldLink "GuideDesk" (213 : Nat) "GuideDesk$Candidate" "why" "I" ∈ TB := TB_of (sub_4 _ (List.mem_of_getElem? (i := 137) rfl)) rfl
theorem kt_858 : Cond.fieldLink "GuideDesk$Plan" (115 : Nat) "GuideDesk$Candidate" "rival" "I" ∈ TB := TB_of (sub_4 _ (List.mem_of_getElem? (i := 138) rfl)) rfl
theorem kt_859 : Cond.fieldLink "GuideDesk" (216 : Nat) "GuideDesk$Candidate" "rival" "I" ∈ TB := TB_of (sub_4 _ (List.mem_of_getElem? (i := 139) rfl)) rfl
theorem kt_860 : Cond.fieldLink "GuideDesk$Plan" (87 : Nat) "GuideDesk$Candidate" "earlierOn" "I" ∈ TB := TB_of (sub_4 _ (List.mem_of_getElem? (i := 140) rfl)) rfl
theorem kt_861 : Cond.fieldLink "GuideDesk$Recorder" (94 : Nat) "GuideDesk$Candidate" "earlierOn" "I" ∈ TB := TB_of (sub_4 _ (List.mem_of_getElem? (i := 141) rfl)) rfl
theorem kt_862 : Cond.fieldLink "GuideDesk$Plan" (90 : Nat) "GuideDesk$Candidate" "earlierOnes" "I" ∈ TB := TB_of (sub_4 _ (List.mem_of_getElem? (i := 142) rfl)) rfl
theorem kt_863 : Cond.fieldLink "GuideDesk$Recorder" (91 : Nat) "GuideDesk$Candidate" "earlierOnes" "I" ∈ TB := TB_of (sub_4 _ (List.mem_of_getElem? (i := 143) rfl)) rfl
theorem kt_864 : Cond.fieldLink "GuideDesk$Recorder" (79 : Nat) "GuideDesk$Candidate" "underWayAhead" "I" ∈ TB := TB_of (sub_4 _ (List.mem_of_getElem? (i := 144) rfl)) rfl
theorem kt_865 : Cond.fieldLink "GuideDesk$Plan" (70 : Nat) "GuideDesk$Candidate" "underWayAhead" "I" ∈ TB := TB_of (sub_4 _ (List.mem_of_getElem? (i := 145) rfl)) rfl
theorem kt_866 : Cond.fieldLink "GuideDesk$Recorder" (84 : Nat) "GuideDesk$Candidate" "weightAhead" "I" ∈ TB := TB_of (sub_4 _ (List.mem_of_getElem? (i := 146) rfl)) rfl
theorem kt_867 : Cond.fieldLink "GuideDesk$Plan" (73 : Nat) "GuideDesk$Candidate" "weightAhead" "I" ∈ TB := TB_of (sub_4 _ (List.mem_of_getElem? (i := 147) rfl)) rfl
theorem kt_905 : Cond.methodLink "GuideDesk$Plan" (48 : Nat) ({ cls := "GuideDesk$Candidate", name := "fill", desc := "(LGuideDesk$Showing;ILGuideDesk$Recorder;)V" } : Jvm.MethodName) ∈ TB := TB_of (sub_4 _ (List.mem_of_getElem? (i := 185) rfl)) rfl
theorem kt_906 : Cond.instanceMethod ({ cls := "GuideDesk$Candidate", name := "fill", desc := "(LGuideDesk$Showing;ILGuideDesk$Recorder;)V" } : Jvm.MethodName) ∈ TB := TB_of (sub_4 _ (List.mem_of_getElem? (i := 186) rfl)) rfl
theorem kt_907 : Cond.selects "GuideDesk$Candidate" ({ cls := "GuideDesk$Candidate", name := "fill", desc := "(LGuideDesk$Showing;ILGuideDesk$Recorder;)V" } : Jvm.MethodName) ({ cls := "GuideDesk$Candidate", name := "fill", desc := "(LGuideDesk$Showing;ILGuideDesk$Recorder;)V" } : Jvm.MethodName) ∈ TB := TB_of (sub_4 _ (List.mem_of_getElem? (i := 187) rfl)) rfl
theorem kt_908 : Cond.code ({ cls := "GuideDesk$Candidate", name := "fill", desc := "(LGuideDesk$Showing;ILGuideDesk$Recorder;)V" } : Jvm.MethodName) prog_2_method_2_code (4 : Nat) (Option.none : Option Jvm.ClassFile.FieldType) ∈ TB := TB_of (sub_4 _ (List.mem_of_getElem? (i := 188) rfl)) rfl
theorem kt_909 : Cond.methodLink "GuideDesk$Candidate" (48 : Nat) ({ cls := "java/lang/Math", name := "max", desc := "(II)I" } : Jvm.MethodName) ∈ TB := TB_of (sub_4 _ (List.mem_of_getElem? (i := 189) rfl)) rfl
theorem kt_910 : Cond.methodLink "GuideDesk$Candidate" (63 : Nat) ({ cls := "java/lang/Math", name := "min", desc := "(II)I" } : Jvm.MethodName) ∈ TB := TB_of (sub_4 _ (List.mem_of_getElem? (i := 190) rfl)) rfl
theorem kt_911 : Cond.methodLink "GuideDesk" (185 : Nat) ({ cls := "GuideDesk$Plan", name := "prepare", desc := "(LGuideDesk$Plan;I)V" } : Jvm.MethodName) ∈ TB := TB_of (sub_4 _ (List.mem_of_getElem? (i := 191) rfl)) rfl
theorem kt_912 : Cond.instanceMethod ({ cls := "GuideDesk$Plan", name := "prepare", desc := "(LGuideDesk$Plan;I)V" } : Jvm.MethodName) ∈ TB := TB_of (sub_4 _ (List.mem_of_getElem? (i := 192) rfl)) rfl
theorem kt_913 : Cond.selects "GuideDesk$Plan" ({ cls := "GuideDesk$Plan", name := "prepare", desc := "(LGuideDesk$Plan;I)V" } : Jvm.MethodName) ({ cls := "GuideDesk$Plan", name := "prepare", desc := "(LGuideDesk$Plan;I)V" } : Jvm.MethodName) ∈ TB := TB_of (sub_4 _ (List.mem_of_getElem? (i := 193) rfl)) rfl
theorem kt_914 : Cond.code ({ cls := "GuideDesk$Plan", name := "prepare", desc := "(LGuideDesk$Plan;I)V" } : Jvm.MethodName) prog_6_method_4_code (7 : Nat) (Option.none : Option Jvm.ClassFile.FieldType) ∈ TB := TB_of (sub_4 _ (List.mem_of_getElem? (i := 194) rfl)) rfl
theorem kt_915 : Cond.methodLink "GuideDesk$Plan" (52 : Nat) ({ cls := "GuideDesk$Plan", name := "at", desc := "(I)LGuideDesk$Candidate;" } : Jvm.MethodName) ∈ TB := TB_of (sub_4 _ (List.mem_of_getElem? (i := 195) rfl)) rfl
theorem kt_916 : Cond.instanceMethod ({ cls := "GuideDesk$Plan", name := "at", desc := "(I)LGuideDesk$Candidate;" } : Jvm.MethodName) ∈ TB := TB_of (sub_4 _ (List.mem_of_getElem? (i := 196) rfl)) rfl
theorem kt_917 : Cond.selects "GuideDesk$Plan" ({ cls := "GuideDesk$Plan", name := "at", desc := "(I)LGuideDesk$Candidate;" } : Jvm.MethodName) ({ cls := "GuideDesk$Plan", name := "at", desc := "(I)LGuideDesk$Candidate;" } : Jvm.MethodName) ∈ TB := TB_of (sub_4 _ (List.mem_of_getElem? (i := 197) rfl)) rfl
theorem kt_918 : Cond.code ({ cls := "GuideDesk$Plan", name := "at", desc := "(I)LGuideDesk$Candidate;" } : Jvm.MethodName) prog_6_method_2_code (2 : Nat) (Option.some (Jvm.ClassFile.FieldType.object "GuideDesk$Candidate")) ∈ TB := TB_of (sub_4 _ (List.mem_of_getElem? (i := 198) rfl)) rfl
theorem kt_919 : Cond.methodLink "GuideDesk$Plan" (55 : Nat) ({ cls := "GuideDesk$Plan", name := "hasUnderWay", desc := "(LGuideDesk$Candidate;I)Z" } : Jvm.MethodName) ∈ TB := TB_of (sub_4 _ (List.mem_of_getElem? (i := 199) rfl)) rfl
theorem kt_921 : Cond.instanceMethod ({ cls := "GuideDesk$Plan", name := "hasUnderWay", desc := "(LGuideDesk$Candidate;I)Z" } : Jvm.MethodName) ∈ TB := TB_of (sub_4 _ (List.mem_of_getElem? (i := 201) rfl)) rfl
theorem kt_922 : Cond.code ({ cls := "GuideDesk$Plan", name := "hasUnderWay", desc := "(LGuideDesk$Candidate;I)Z" } : Jvm.MethodName) prog_6_method_5_code (5 : Nat) (Option.some Jvm.ClassFile.FieldType.boolean) ∈ TB := TB_of (sub_4 _ (List.mem_of_getElem? (i := 202) rfl)) rfl
theorem kt_923 : Cond.methodLink "GuideDesk$Plan" (83 : Nat) ({ cls := "GuideDesk$Candidate", name := "isSameAs", desc := "(LGuideDesk$Candidate;)Z" } : Jvm.MethodName) ∈ TB := TB_of (sub_4 _ (List.mem_of_getElem? (i := 203) rfl)) rfl
theorem kt_924 : Cond.instanceMethod ({ cls := "GuideDesk$Candidate", name := "isSameAs", desc := "(LGuideDesk$Candidate;)Z" } : Jvm.MethodName) ∈ TB := TB_of (sub_4 _ (List.mem_of_getElem? (i := 204) rfl)) rfl
theorem kt_925 : Cond.selects "GuideDesk$Candidate" ({ cls := "GuideDesk$Candidate", name := "isSameAs", desc := "(LGuideDesk$Candidate;)Z" } : Jvm.MethodName) ({ cls := "GuideDesk$Candidate", name := "isSameAs", desc := "(LGuideDesk$Candidate;)Z" } : Jvm.MethodName) ∈ TB := TB_of (sub_4 _ (List.mem_of_getElem? (i := 205) rfl)) rfl
theorem kt_926 : Cond.code ({ cls := "GuideDesk$Candidate", name := "isSameAs", desc := "(LGuideDesk$Candidate;)Z" } : Jvm.MethodName) prog_2_method_7_code (2 : Nat) (Option.some Jvm.ClassFile.FieldType.boolean) ∈ TB := TB_of (sub_4 _ (List.mem_of_getElem? (i := 206) rfl)) rfl
theorem kt_927 : Cond.methodLink "GuideDesk$Plan" (76 : Nat) ({ cls := "GuideDesk$Plan", name := "markEarlier", desc := "(LGuideDesk$Candidate;I)V" } : Jvm.MethodName) ∈ TB := TB_of (sub_4 _ (List.mem_of_getElem? (i := 207) rfl)) rfl
theorem kt_929 : Cond.instanceMethod ({ cls := "GuideDesk$Plan", name := "markEarlier", desc := "(LGuideDesk$Candidate;I)V" } : Jvm.MethodName) ∈ TB := TB_of (sub_4 _ (List.mem_of_getElem? (i := 209) rfl)) rfl
theorem kt_930 : Cond.code ({ cls := "GuideDesk$Plan", name := "markEarlier", desc := "(LGuideDesk$Candidate;I)V" } : Jvm.MethodName) prog_6_method_6_code (5 : Nat) (Option.none : Option Jvm.ClassFile.FieldType) ∈ TB := TB_of (sub_4 _ (List.mem_of_getElem? (i := 210) rfl)) rfl
theorem kt_931 : Cond.methodLink "GuideDesk$Plan" (93 : Nat) ({ cls := "GuideDesk$Candidate", name := "spansSlot", desc := "(I)Z" } : Jvm.MethodName) ∈ TB := TB_of (sub_4 _ (List.mem_of_getElem? (i := 211) rfl)) rfl
theorem kt_932 : Cond.instanceMethod ({ cls := "GuideDesk$Candidate", name := "spansSlot", desc := "(I)Z" } : Jvm.MethodName) ∈ TB := TB_of (sub_4 _ (List.mem_of_getElem? (i := 212) rfl)) rfl
theorem kt_933 : Cond.selects "GuideDesk$Candidate" ({ cls := "GuideDesk$Candidate", name := "spansSlot", desc := "(I)Z" } : Jvm.MethodName) ({ cls := "GuideDesk$Candidate", name := "spansSlot", desc := "(I)Z" } : Jvm.MethodName) ∈ TB := TB_of (sub_4 _ (List.mem_of_getElem? (i := 213) rfl)) rfl
theorem kt_934 : Cond.code ({ cls := "GuideDesk$Candidate", name := "spansSlot", desc := "(I)Z" } : Jvm.MethodName) prog_2_method_4_code (2 : Nat) (Option.some Jvm.ClassFile.FieldType.boolean) ∈ TB := TB_of (sub_4 _ (List.mem_of_getElem? (i := 214) rfl)) rfl
theorem kt_935 : Cond.methodLink "GuideDesk$Plan" (97 : Nat) ({ cls := "GuideDesk$Candidate", name := "isOneWith", desc := "(LGuideDesk$Candidate;)Z" } : Jvm.MethodName) ∈ TB := TB_of (sub_4 _ (List.mem_of_getElem? (i := 215) rfl)) rfl
theorem kt_936 : Cond.instanceMethod ({ cls := "GuideDesk$Candidate", name := "isOneWith", desc := "(LGuideDesk$Candidate;)Z" } : Jvm.MethodName) ∈ TB := TB_of (sub_4 _ (List.mem_of_getElem? (i := 216) rfl)) rfl
theorem kt_937 : Cond.selects "GuideDesk$Candidate" ({ cls := "GuideDesk$Candidate", name := "isOneWith", desc := "(LGuideDesk$Candidate;)Z" } : Jvm.MethodName) ({ cls := "GuideDesk$Candidate", name := "isOneWith", desc := "(LGuideDesk$Candidate;)Z" } : Jvm.MethodName) ∈ TB := TB_of (sub_4 _ (List.mem_of_getElem? (i := 217) rfl)) rfl
theorem kt_938 : Cond.code ({ cls := "GuideDesk$Candidate", name := "isOneWith", desc := "(LGuideDesk$Candidate;)Z" } : Jvm.MethodName) prog_2_method_6_code (2 : Nat) (Option.some Jvm.ClassFile.FieldType.boolean) ∈ TB := TB_of (sub_4 _ (List.mem_of_getElem? (i := 218) rfl)) rfl
theorem kt_939 : Cond.methodLink "GuideDesk" (189 : Nat) ({ cls := "GuideDesk$Recorder", name := "choose", desc := "(LGuideDesk$Plan;)V" } : Jvm.MethodName) ∈ TB := TB_of (sub_4 _ (List.mem_of_getElem? (i := 219) rfl)) rfl
theorem kt_940 : Cond.instanceMethod ({ cls := "GuideDesk$Recorder", name := "choose", desc := "(LGuideDesk$Plan;)V" } : Jvm.MethodName) ∈ TB := TB_of (sub_4 _ (List.mem_of_getElem? (i := 220) rfl)) rfl
theorem kt_941 : Cond.selects "GuideDesk$Recorder" ({ cls := "GuideDesk$Recorder", name := "choose", desc := "(LGuideDesk$Plan;)V" } : Jvm.MethodName) ({ cls := "GuideDesk$Recorder", name := "choose", desc := "(LGuideDesk$Plan;)V" } : Jvm.MethodName) ∈ TB := TB_of (sub_4 _ (List.mem_of_getElem? (i := 221) rfl)) rfl
theorem kt_942 : Cond.code ({ cls := "GuideDesk$Recorder", name := "choose", desc := "(LGuideDesk$Plan;)V" } : Jvm.MethodName) prog_7_method_2_code (2 : Nat) (Option.none : Option Jvm.ClassFile.FieldType) ∈ TB := TB_of (sub_4 _ (List.mem_of_getElem? (i := 222) rfl)) rfl
theorem kt_943 : Cond.methodLink "GuideDesk$Recorder" (51 : Nat) ({ cls := "GuideDesk$Recorder", name := "search", desc := "(LGuideDesk$Plan;I)V" } : Jvm.MethodName) ∈ TB := TB_of (sub_4 _ (List.mem_of_getElem? (i := 223) rfl)) rfl
theorem kt_945 : Cond.instanceMethod ({ cls := "GuideDesk$Recorder", name := "search", desc := "(LGuideDesk$Plan;I)V" } : Jvm.MethodName) ∈ TB := TB_of (sub_4 _ (List.mem_of_getElem? (i := 225) rfl)) rfl
theorem kt_946 : Cond.code ({ cls := "GuideDesk$Recorder", name := "search", desc := "(LGuideDesk$Plan;I)V" } : Jvm.MethodName) prog_7_method_3_code (4 : Nat) (Option.none : Option Jvm.ClassFile.FieldType) ∈ TB := TB_of (sub_4 _ (List.mem_of_getElem? (i := 226) rfl)) rfl
theorem kt_947 : Cond.methodLink "GuideDesk$Recorder" (61 : Nat) ({ cls := "GuideDesk$Plan", name := "at", desc := "(I)LGuideDesk$Candidate;" } : Jvm.MethodName) ∈ TB := TB_of (sub_4 _ (List.mem_of_getElem? (i := 227) rfl)) rfl
theorem kt_948 : Cond.methodLink "GuideDesk$Recorder" (65 : Nat) ({ cls := "GuideDesk$Recorder", name := "canBeatBest", desc := "(LGuideDesk$Candidate;)Z" } : Jvm.MethodName) ∈ TB := TB_of (sub_4 _ (List.mem_of_getElem? (i := 228) rfl)) rfl
theorem kt_950 : Cond.instanceMethod ({ cls := "GuideDesk$Recorder", name := "canBeatBest", desc := "(LGuideDesk$Candidate;)Z" } : Jvm.MethodName) ∈ TB := TB_of (sub_4 _ (List.mem_of_getElem? (i := 230) rfl)) rfl
theorem kt_951 : Cond.code ({ cls := "GuideDesk$Recorder", name := "canBeatBest", desc := "(LGuideDesk$Candidate;)Z" } : Jvm.MethodName) prog_7_method_4_code (4 : Nat) (Option.some Jvm.ClassFile.FieldType.boolean) ∈ TB := TB_of (sub_4 _ (List.mem_of_getElem? (i := 231) rfl)) rfl
theorem kt_952 : Cond.methodLink "GuideDesk$Recorder" (69 : Nat) ({ cls := "GuideDesk$Recorder", name := "keepAsBest", desc := "()V" } : Jvm.MethodName) ∈ TB := TB_of (sub_4 _ (List.mem_of_getElem? (i := 232) rfl)) rfl
theorem kt_954 : Cond.instanceMethod ({ cls := "GuideDesk$Recorder", name := "keepAsBest", desc := "()V" } : Jvm.MethodName) ∈ TB := TB_of (sub_4 _ (List.mem_of_getElem? (i := 234) rfl)) rfl
theorem kt_955 : Cond.code ({ cls := "GuideDesk$Recorder", name := "keepAsBest", desc := "()V" } : Jvm.MethodName) prog_7_method_5_code (1 : Nat) (Option.none : Option Jvm.ClassFile.FieldType) ∈ TB := TB_of (sub_4 _ (List.mem_of_getElem? (i := 235) rfl)) rfl
theorem kt_956 : Cond.methodLink "GuideDesk$Recorder" (72 : Nat) ({ cls := "GuideDesk$Recorder", name := "canAdd", desc := "(LGuideDesk$Candidate;)Z" } : Jvm.MethodName) ∈ TB := TB_of (sub_4 _ (List.mem_of_getElem? (i := 236) rfl)) rfl
theorem kt_958 : Cond.instanceMethod ({ cls := "GuideDesk$Recorder", name := "canAdd", desc := "(LGuideDesk$Candidate;)Z" } : Jvm.MethodName) ∈ TB := TB_of (sub_4 _ (List.mem_of_getElem? (i := 238) rfl)) rfl
theorem kt_959 : Cond.code ({ cls := "GuideDesk$Recorder", name := "canAdd", desc := "(LGuideDesk$Candidate;)Z" } : Jvm.MethodName) prog_7_method_6_code (2 : Nat) (Option.some Jvm.ClassFile.FieldType.boolean) ∈ TB := TB_of (sub_4 _ (List.mem_of_getElem? (i := 239) rfl)) rfl
theorem kt_960 : Cond.methodLink "GuideDesk$Recorder" (97 : Nat) ({ cls := "java/lang/Integer", name := "bitCount", desc := "(I)I" } : Jvm.MethodName) ∈ TB := TB_of (sub_5 _ (List.mem_of_getElem? (i := 0) rfl)) rfl
theorem kt_961 : Cond.static ({ cls := "java/lang/Integer", name := "bitCount", desc := "(I)I" } : Jvm.MethodName) ∈ TB := TB_of (sub_5 _ (List.mem_of_getElem? (i := 1) rfl)) rfl
theorem kt_962 : Cond.code ({ cls := "java/lang/Integer", name := "bitCount", desc := "(I)I" } : Jvm.MethodName) prog_15_method_49_code (1 : Nat) (Option.some Jvm.ClassFile.FieldType.int) ∈ TB := TB_of (sub_5 _ (List.mem_of_getElem? (i := 2) rfl)) rfl
theorem kt_963 : Cond.constant "java/lang/Integer" (265 : Nat) (1431655765 : Int32) ∈ TB := TB_of (sub_5 _ (List.mem_of_getElem? (i := 3) rfl)) rfl
theorem kt_964 : Cond.constant "java/lang/Integer" (266 : Nat) (858993459 : Int32) ∈ TB := TB_of (sub_5 _ (List.mem_of_getElem? (i := 4) rfl)) rfl
theorem kt_965 : Cond.constant "java/lang/Integer" (267 : Nat) (252645135 : Int32) ∈ TB := TB_of (sub_5 _ (List.mem_of_getElem? (i := 5) rfl)) rfl
theorem kt_966 : Cond.methodLink "GuideDesk$Recorder" (103 : Nat) ({ cls := "GuideDesk$Candidate", name := "span", desc := "()I" } : Jvm.MethodName) ∈ TB := TB_of (sub_5 _ (List.mem_of_getElem? (i := 6) rfl)) rfl
theorem kt_967 : Cond.instanceMethod ({ cls := "GuideDesk$Candidate", name := "span", desc := "()I" } : Jvm.MethodName) ∈ TB := TB_of (sub_5 _ (List.mem_of_getElem? (i := 7) rfl)) rfl
theorem kt_968 : Cond.selects "GuideDesk$Candidate" ({ cls := "GuideDesk$Candidate", name := "span", desc := "()I" } : Jvm.MethodName) ({ cls := "GuideDesk$Candidate", name := "span", desc := "()I" } : Jvm.MethodName) ∈ TB := TB_of (sub_5 _ (List.mem_of_getElem? (i := 8) rfl)) rfl
theorem kt_969 : Cond.code ({ cls := "GuideDesk$Candidate", name := "span", desc := "()I" } : Jvm.MethodName) prog_2_method_3_code (1 : Nat) (Option.some Jvm.ClassFile.FieldType.int) ∈ TB := TB_of (sub_5 _ (List.mem_of_getElem? (i := 9) rfl)) rfl
theorem kt_970 : Cond.methodLink "GuideDesk$Recorder" (75 : Nat) ({ cls := "GuideDesk$Recorder", name := "addOrDrop", desc := "(LGuideDesk$Candidate;II)V" } : Jvm.MethodName) ∈ TB := TB_of (sub_5 _ (List.mem_of_getElem? (i := 10) rfl)) rfl
theorem kt_972 : Cond.instanceMethod ({ cls := "GuideDesk$Recorder", name := "addOrDrop", desc := "(LGuideDesk$Candidate;II)V" } : Jvm.MethodName) ∈ TB := TB_of (sub_5 _ (List.mem_of_getElem? (i := 12) rfl)) rfl
theorem kt_973 : Cond.code ({ cls := "GuideDesk$Recorder", name := "addOrDrop", desc := "(LGuideDesk$Candidate;II)V" } : Jvm.MethodName) prog_7_method_7_code (4 : Nat) (Option.none : Option Jvm.ClassFile.FieldType) ∈ TB := TB_of (sub_5 _ (List.mem_of_getElem? (i := 13) rfl)) rfl
theorem kt_974 : Cond.methodLink "GuideDesk$Recorder" (55 : Nat) ({ cls := "GuideDesk$Plan", name := "settle", desc := "(I)V" } : Jvm.MethodName) ∈ TB := TB_of (sub_5 _ (List.mem_of_getElem? (i := 14) rfl)) rfl
theorem kt_975 : Cond.instanceMethod ({ cls := "GuideDesk$Plan", name := "settle", desc := "(I)V" } : Jvm.MethodName) ∈ TB := TB_of (sub_5 _ (List.mem_of_getElem? (i := 15) rfl)) rfl
theorem kt_976 : Cond.selects "GuideDesk$Plan" ({ cls := "GuideDesk$Plan", name := "settle", desc := "(I)V" } : Jvm.MethodName) ({ cls := "GuideDesk$Plan", name := "settle", desc := "(I)V" } : Jvm.MethodName) ∈ TB := TB_of (sub_5 _ (List.mem_of_getElem? (i := 16) rfl)) rfl
theorem kt_977 : Cond.code ({ cls := "GuideDesk$Plan", name := "settle", desc := "(I)V" } : Jvm.MethodName) prog_6_method_7_code (4 : Nat) (Option.none : Option Jvm.ClassFile.FieldType) ∈ TB := TB_of (sub_5 _ (List.mem_of_getElem? (i := 17) rfl)) rfl
theorem kt_978 : Cond.methodLink "GuideDesk$Plan" (100 : Nat) ({ cls := "GuideDesk$Candidate", name := "span", desc := "()I" } : Jvm.MethodName) ∈ TB := TB_of (sub_5 _ (List.mem_of_getElem? (i := 18) rfl)) rfl
theorem kt_979 : Cond.methodLink "GuideDesk" (193 : Nat) ({ cls := "GuideDesk$Plan", name := "explain", desc := "(LGuideDesk$Recorder;)V" } : Jvm.MethodName) ∈ TB := TB_of (sub_5 _ (List.mem_of_getElem? (i := 19) rfl)) rfl
theorem kt_980 : Cond.instanceMethod ({ cls := "GuideDesk$Plan", name := "explain", desc := "(LGuideDesk$Recorder;)V" } : Jvm.MethodName) ∈ TB := TB_of (sub_5 _ (List.mem_of_getElem? (i := 20) rfl)) rfl
theorem kt_981 : Cond.selects "GuideDesk$Plan" ({ cls := "GuideDesk$Plan", name := "explain", desc := "(LGuideDesk$Recorder;)V" } : Jvm.MethodName) ({ cls := "GuideDesk$Plan", name := "explain", desc := "(LGuideDesk$Recorder;)V" } : Jvm.MethodName) ∈ TB := TB_of (sub_5 _ (List.mem_of_getElem? (i := 21) rfl)) rfl
theorem kt_982 : Cond.code ({ cls := "GuideDesk$Plan", name := "explain", desc := "(LGuideDesk$Recorder;)V" } : Jvm.MethodName) prog_6_method_8_code (4 : Nat) (Option.none : Option Jvm.ClassFile.FieldType) ∈ TB := TB_of (sub_5 _ (List.mem_of_getElem? (i := 22) rfl)) rfl
theorem kt_983 : Cond.methodLink "GuideDesk$Plan" (104 : Nat) ({ cls := "GuideDesk$Plan", name := "whyNot", desc := "(LGuideDesk$Candidate;LGuideDesk$Recorder;)I" } : Jvm.MethodName) ∈ TB := TB_of (sub_5 _ (List.mem_of_getElem? (i := 23) rfl)) rfl
theorem kt_985 : Cond.instanceMethod ({ cls := "GuideDesk$Plan", name := "whyNot", desc := "(LGuideDesk$Candidate;LGuideDesk$Recorder;)I" } : Jvm.MethodName) ∈ TB := TB_of (sub_5 _ (List.mem_of_getElem? (i := 25) rfl)) rfl
theorem kt_986 : Cond.code ({ cls := "GuideDesk$Plan", name := "whyNot", desc := "(LGuideDesk$Candidate;LGuideDesk$Recorder;)I" } : Jvm.MethodName) prog_6_method_9_code (3 : Nat) (Option.some Jvm.ClassFile.FieldType.int) ∈ TB := TB_of (sub_5 _ (List.mem_of_getElem? (i := 26) rfl)) rfl
theorem kt_987 : Cond.methodLink "GuideDesk$Plan" (118 : Nat) ({ cls := "GuideDesk$Plan", name := "memberOneWith", desc := "(LGuideDesk$Candidate;)I" } : Jvm.MethodName) ∈ TB := TB_of (sub_5 _ (List.mem_of_getElem? (i := 27) rfl)) rfl
theorem kt_989 : Cond.instanceMethod ({ cls := "GuideDesk$Plan", name := "memberOneWith", desc := "(LGuideDesk$Candidate;)I" } : Jvm.MethodName) ∈ TB := TB_of (sub_5 _ (List.mem_of_getElem? (i := 29) rfl)) rfl
theorem kt_990 : Cond.code ({ cls := "GuideDesk$Plan", name := "memberOneWith", desc := "(LGuideDesk$Candidate;)I" } : Jvm.MethodName) prog_6_method_11_code (4 : Nat) (Option.some Jvm.ClassFile.FieldType.int) ∈ TB := TB_of (sub_5 _ (List.mem_of_getElem? (i := 30) rfl)) rfl
theorem kt_991 : Cond.methodLink "GuideDesk$Plan" (126 : Nat) ({ cls := "GuideDesk$Plan", name := "isCrowdedWith", desc := "(LGuideDesk$Candidate;I)Z" } : Jvm.MethodName) ∈ TB := TB_of (sub_5 _ (List.mem_of_getElem? (i := 31) rfl)) rfl
theorem kt_993 : Cond.instanceMethod ({ cls := "GuideDesk$Plan", name := "isCrowdedWith", desc := "(LGuideDesk$Candidate;I)Z" } : Jvm.MethodName) ∈ TB := TB_of (sub_5 _ (List.mem_of_getElem? (i := 33) rfl)) rfl
theorem kt_994 : Cond.code ({ cls := "GuideDesk$Plan", name := "isCrowdedWith", desc := "(LGuideDesk$Candidate;I)Z" } : Jvm.MethodName) prog_6_method_12_code (5 : Nat) (Option.some Jvm.ClassFile.FieldType.boolean) ∈ TB := TB_of (sub_5 _ (List.mem_of_getElem? (i := 34) rfl)) rfl
theorem kt_995 : Cond.methodLink "GuideDesk$Plan" (135 : Nat) ({ cls := "GuideDesk$Plan", name := "membersOn", desc := "(I)I" } : Jvm.MethodName) ∈ TB := TB_of (sub_5 _ (List.mem_of_getElem? (i := 35) rfl)) rfl
theorem kt_997 : Cond.instanceMethod ({ cls := "GuideDesk$Plan", name := "membersOn", desc := "(I)I" } : Jvm.MethodName) ∈ TB := TB_of (sub_5 _ (List.mem_of_getElem? (i := 37) rfl)) rfl
theorem kt_998 : Cond.code ({ cls := "GuideDesk$Plan", name := "membersOn", desc := "(I)I" } : Jvm.MethodName) prog_6_method_13_code (5 : Nat) (Option.some Jvm.ClassFile.FieldType.int) ∈ TB := TB_of (sub_5 _ (List.mem_of_getElem? (i := 38) rfl)) rfl
theorem kt_999 : Cond.methodLink "GuideDesk$Plan" (111 : Nat) ({ cls := "GuideDesk$Plan", name := "rivalOf", desc := "(LGuideDesk$Candidate;)I" } : Jvm.MethodName) ∈ TB := TB_of (sub_5 _ (List.mem_of_getElem? (i := 39) rfl)) rfl
theorem kt_1001 : Cond.instanceMethod ({ cls := "GuideDesk$Plan", name := "rivalOf", desc := "(LGuideDesk$Candidate;)I" } : Jvm.MethodName) ∈ TB := TB_of (sub_5 _ (List.mem_of_getElem? (i := 41) rfl)) rfl
theorem kt_1002 : Cond.code ({ cls := "GuideDesk$Plan", name := "rivalOf", desc := "(LGuideDesk$Candidate;)I" } : Jvm.MethodName) prog_6_method_10_code (2 : Nat) (Option.some Jvm.ClassFile.FieldType.int) ∈ TB := TB_of (sub_5 _ (List.mem_of_getElem? (i := 42) rfl)) rfl
theorem kt_1003 : Cond.methodLink "GuideDesk$Plan" (132 : Nat) ({ cls := "GuideDesk$Plan", name := "lightestMemberMeeting", desc := "(LGuideDesk$Candidate;)I" } : Jvm.MethodName) ∈ TB := TB_of (sub_5 _ (List.mem_of_getElem? (i := 43) rfl)) rfl
theorem kt_1005 : Cond.instanceMethod ({ cls := "GuideDesk$Plan", name := "lightestMemberMeeting", desc := "(LGuideDesk$Candidate;)I" } : Jvm.MethodName) ∈ TB := TB_of (sub_5 _ (List.mem_of_getElem? (i := 45) rfl)) rfl
theorem kt_1006 : Cond.code ({ cls := "GuideDesk$Plan", name := "lightestMemberMeeting", desc := "(LGuideDesk$Candidate;)I" } : Jvm.MethodName) prog_6_method_14_code (6 : Nat) (Option.some Jvm.ClassFile.FieldType.int) ∈ TB := TB_of (sub_5 _ (List.mem_of_getElem? (i := 46) rfl)) rfl
theorem kt_1007 : Cond.methodLink "GuideDesk$Plan" (139 : Nat) ({ cls := "GuideDesk$Candidate", name := "meets", desc := "(LGuideDesk$Candidate;)Z" } : Jvm.MethodName) ∈ TB := TB_of (sub_5 _ (List.mem_of_getElem? (i := 47) rfl)) rfl
theorem kt_1008 : Cond.instanceMethod ({ cls := "GuideDesk$Candidate", name := "meets", desc := "(LGuideDesk$Candidate;)Z" } : Jvm.MethodName) ∈ TB := TB_of (sub_5 _ (List.mem_of_getElem? (i := 48) rfl)) rfl
theorem kt_1009 : Cond.selects "GuideDesk$Candidate" ({ cls := "GuideDesk$Candidate", name := "meets", desc := "(LGuideDesk$Candidate;)Z" } : Jvm.MethodName) ({ cls := "GuideDesk$Candidate", name := "meets", desc := "(LGuideDesk$Candidate;)Z" } : Jvm.MethodName) ∈ TB := TB_of (sub_5 _ (List.mem_of_getElem? (i := 49) rfl)) rfl
theorem kt_1010 : Cond.code ({ cls := "GuideDesk$Candidate", name := "meets", desc := "(LGuideDesk$Candidate;)Z" } : Jvm.MethodName) prog_2_method_5_code (2 : Nat) (Option.some Jvm.ClassFile.FieldType.boolean) ∈ TB := TB_of (sub_5 _ (List.mem_of_getElem? (i := 50) rfl)) rfl
theorem kt_1014 : Cond.code ({ cls := "GuideDesk", name := "candidate", desc := "(II)I" } : Jvm.MethodName) prog_1_method_18_code (4 : Nat) (Option.some Jvm.ClassFile.FieldType.int) ∈ TB := TB_of (sub_5 _ (List.mem_of_getElem? (i := 54) rfl)) rfl
theorem kt_1015 : Cond.methodLink "GuideDesk" (200 : Nat) ({ cls := "GuideDesk$Plan", name := "at", desc := "(I)LGuideDesk$Candidate;" } : Jvm.MethodName) ∈ TB := TB_of (sub_5 _ (List.mem_of_getElem? (i := 55) rfl)) rfl
theorem kt_1019 : Cond.code ({ cls := "GuideDesk", name := "count", desc := "(I)I" } : Jvm.MethodName) prog_1_method_19_code (2 : Nat) (Option.some Jvm.ClassFile.FieldType.int) ∈ TB := TB_of (sub_5 _ (List.mem_of_getElem? (i := 59) rfl)) rfl
theorem kt_1020 : Cond.methodLink "GuideDesk" (228 : Nat) ({ cls := "GuideDesk", name := "countInPlan", desc := "(I)I" } : Jvm.MethodName) ∈ TB := TB_of (sub_5 _ (List.mem_of_getElem? (i := 60) rfl)) rfl
theorem kt_1022 : Cond.instanceMethod ({ cls := "GuideDesk", name := "countInPlan", desc := "(I)I" } : Jvm.MethodName) ∈ TB := TB_of (sub_5 _ (List.mem_of_getElem? (i := 62) rfl)) rfl
theorem kt_1023 : Cond.code ({ cls := "GuideDesk", name := "countInPlan", desc := "(I)I" } : Jvm.MethodName) prog_1_method_20_code (2 : Nat) (Option.some Jvm.ClassFile.FieldType.int) ∈ TB := TB_of (sub_5 _ (List.mem_of_getElem? (i := 63) rfl)) rfl
theorem kt_1028 : Cond.code ({ cls := "GuideDeskModel", name := "<init>", desc := "()V" } : Jvm.MethodName) prog_14_method_2_code (1 : Nat) (Option.none : Option Jvm.ClassFile.FieldType) ∈ TB := TB_of (sub_5 _ (List.mem_of_getElem? (i := 68) rfl)) rfl
theorem kt_1029 : Cond.methodLink "GuideDeskModel" (7 : Nat) ({ cls := "java/lang/Object", name := "<init>", desc := "()V" } : Jvm.MethodName) ∈ TB := TB_of (sub_5 _ (List.mem_of_getElem? (i := 69) rfl)) rfl
theorem kt_1030 : Cond.methodLink "GuideDeskModel" (182 : Nat) ({ cls := "GuideDeskModel", name := "word", desc := "(IIIIIII)J" } : Jvm.MethodName) ∈ TB := TB_of (sub_5 _ (List.mem_of_getElem? (i := 70) rfl)) rfl
theorem kt_1031 : Cond.static ({ cls := "GuideDeskModel", name := "word", desc := "(IIIIIII)J" } : Jvm.MethodName) ∈ TB := TB_of (sub_5 _ (List.mem_of_getElem? (i := 71) rfl)) rfl
theorem kt_1032 : Cond.code ({ cls := "GuideDeskModel", name := "word", desc := "(IIIIIII)J" } : Jvm.MethodName) prog_14_method_10_code (7 : Nat) (Option.some Jvm.ClassFile.FieldType.long) ∈ TB := TB_of (sub_5 _ (List.mem_of_getElem? (i := 72) rfl)) rfl
theorem kt_1033 : Cond.methodLink "GuideDeskModel" (207 : Nat) ({ cls := "GuideDeskModel", name := "more", desc := "(JI)J" } : Jvm.MethodName) ∈ TB := TB_of (sub_5 _ (List.mem_of_getElem? (i := 73) rfl)) rfl
theorem kt_1034 : Cond.static ({ cls := "GuideDeskModel", name := "more", desc := "(JI)J" } : Jvm.MethodName) ∈ TB := TB_of (sub_5 _ (List.mem_of_getElem? (i := 74) rfl)) rfl
theorem kt_1035 : Cond.code ({ cls := "GuideDeskModel", name := "more", desc := "(JI)J" } : Jvm.MethodName) prog_14_method_9_code (3 : Nat) (Option.some Jvm.ClassFile.FieldType.long) ∈ TB := TB_of (sub_5 _ (List.mem_of_getElem? (i := 75) rfl)) rfl
theorem kt_1036 : Cond.constantLong "GuideDeskModel" (205 : Nat) (27 : Int64) ∈ TB := TB_of (sub_5 _ (List.mem_of_getElem? (i := 76) rfl)) rfl
theorem kt_1037 : Cond.fieldLink "GuideDeskModel" (13 : Nat) "GuideDeskModel" "tape" "[B" ∈ TB := TB_of (sub_5 _ (List.mem_of_getElem? (i := 77) rfl)) rfl
theorem kt_1038 : Cond.fieldLink "GuideDeskModel" (195 : Nat) "GuideDeskModel" "taped" "I" ∈ TB := TB_of (sub_5 _ (List.mem_of_getElem? (i := 78) rfl)) rfl
theorem kt_1039 : Cond.fieldLink "GuideDeskModel" (17 : Nat) "GuideDeskModel" "text" "[B" ∈ TB := TB_of (sub_5 _ (List.mem_of_getElem? (i := 79) rfl)) rfl
theorem kt_1040 : Cond.fieldLink "GuideDeskModel" (202 : Nat) "GuideDeskModel" "size" "I" ∈ TB := TB_of (sub_5 _ (List.mem_of_getElem? (i := 80) rfl)) rfl
theorem kt_1041 : Cond.fieldLink "GuideDeskModel" (20 : Nat) "GuideDeskModel" "tKind" "[I" ∈ TB := TB_of (sub_5 _ (List.mem_of_getElem? (i := 81) rfl)) rfl
theorem kt_1042 : Cond.fieldLink "GuideDeskModel" (24 : Nat) "GuideDeskModel" "tPlace" "[I" ∈ TB := TB_of (sub_5 _ (List.mem_of_getElem? (i := 82) rfl)) rfl
theorem kt_1043 : Cond.fieldLink "GuideDeskModel" (27 : Nat) "GuideDeskModel" "tValue" "[I" ∈ TB := TB_of (sub_5 _ (List.mem_of_getElem? (i := 83) rfl)) rfl
theorem kt_1044 : Cond.fieldLink "GuideDeskModel" (30 : Nat) "GuideDeskModel" "tName" "[J" ∈ TB := TB_of (sub_5 _ (List.mem_of_getElem? (i := 84) rfl)) rfl
theorem kt_1045 : Cond.fieldLink "GuideDeskModel" (34 : Nat) "GuideDeskModel" "keys" "[J" ∈ TB := TB_of (sub_5 _ (List.mem_of_getElem? (i := 85) rfl)) rfl
theorem kt_1046 : Cond.fieldLink "GuideDeskModel" (211 : Nat) "GuideDeskModel" "tokens" "I" ∈ TB := TB_of (sub_5 _ (List.mem_of_getElem? (i := 86) rfl)) rfl
theorem kt_1047 : Cond.fieldLink "GuideDeskModel" (236 : Nat) "GuideDeskModel" "t" "I" ∈ TB := TB_of (sub_5 _ (List.mem_of_getElem? (i := 87) rfl)) rfl
theorem kt_1048 : Cond.fieldLink "GuideDeskModel" (260 : Nat) "GuideDeskModel" "open" "I" ∈ TB := TB_of (sub_5 _ (List.mem_of_getElem? (i := 88) rfl)) rfl
theorem kt_1049 : Cond.fieldLink "GuideDeskModel" (233 : Nat) "GuideDeskModel" "fault" "I" ∈ TB := TB_of (sub_5 _ (List.mem_of_getElem? (i := 89) rfl)) rfl
theorem kt_1050 : Cond.fieldLink "GuideDeskModel" (239 : Nat) "GuideDeskModel" "faultPlace" "I" ∈ TB := TB_of (sub_5 _ (List.mem_of_getElem? (i := 90) rfl)) rfl
theorem kt_1051 : Cond.fieldLink "GuideDeskModel" (242 : Nat) "GuideDeskModel" "worst" "I" ∈ TB := TB_of (sub_5 _ (List.mem_of_getElem? (i := 91) rfl)) rfl
theorem kt_1052 : Cond.fieldLink "GuideDeskModel" (245 : Nat) "GuideDeskModel" "worstPlace" "I" ∈ TB := TB_of (sub_5 _ (List.mem_of_getElem? (i := 92) rfl)) rfl
theorem kt_1053 : Cond.fieldLink "GuideDeskModel" (37 : Nat) "GuideDeskModel" "place" "I" ∈ TB := TB_of (sub_5 _ (List.mem_of_getElem? (i := 93) rfl)) rfl
theorem kt_1054 : Cond.fieldLink "GuideDeskModel" (263 : Nat) "GuideDeskModel" "live" "I" ∈ TB := TB_of (sub_5 _ (List.mem_of_getElem? (i := 94) rfl)) rfl
theorem kt_1055 : Cond.fieldLink "GuideDeskModel" (266 : Nat) "GuideDeskModel" "side" "I" ∈ TB := TB_of (sub_5 _ (List.mem_of_getElem? (i := 95) rfl)) rfl
theorem kt_1056 : Cond.fieldLink "GuideDeskModel" (40 : Nat) "GuideDeskModel" "rules" "[I" ∈ TB := TB_of (sub_5 _ (List.mem_of_getElem? (i := 96) rfl)) rfl
theorem kt_1057 : Cond.fieldLink "GuideDeskModel" (43 : Nat) "GuideDeskModel" "ruleWeight" "[I" ∈ TB := TB_of (sub_5 _ (List.mem_of_getElem? (i := 97) rfl)) rfl
theorem kt_1058 : Cond.fieldLink "GuideDeskModel" (46 : Nat) "GuideDeskModel" "ruleFirst" "[I" ∈ TB := TB_of (sub_5 _ (List.mem_of_getElem? (i := 98) rfl)) rfl
theorem kt_1059 : Cond.fieldLink "GuideDeskModel" (49 : Nat) "GuideDeskModel" "literals" "[I" ∈ TB := TB_of (sub_5 _ (List.mem_of_getElem? (i := 99) rfl)) rfl
theorem kt_1060 : Cond.fieldLink "GuideDeskModel" (52 : Nat) "GuideDeskModel" "litSort" "[I" ∈ TB := TB_of (sub_5 _ (List.mem_of_getElem? (i := 100) rfl)) rfl
theorem kt_1061 : Cond.fieldLink "GuideDeskModel" (55 : Nat) "GuideDeskModel" "litLeft" "[I" ∈ TB := TB_of (sub_5 _ (List.mem_of_getElem? (i := 101) rfl)) rfl
theorem kt_1062 : Cond.fieldLink "GuideDeskModel" (58 : Nat) "GuideDeskModel" "litRight" "[I" ∈ TB := TB_of (sub_5 _ (List.mem_of_getElem? (i := 102) rfl)) rfl
theorem kt_1063 : Cond.fieldLink "GuideDeskModel" (61 : Nat) "GuideDeskModel" "litEnd" "[I" ∈ TB := TB_of (sub_5 _ (List.mem_of_getElem? (i := 103) rfl)) rfl
theorem kt_1064 : Cond.fieldLink "GuideDeskModel" (64 : Nat) "GuideDeskModel" "litOr" "[Z" ∈ TB := TB_of (sub_5 _ (List.mem_of_getElem? (i := 104) rfl)) rfl
theorem kt_1065 : Cond.fieldLink "GuideDeskModel" (269 : Nat) "GuideDeskModel" "codes" "I" ∈ TB := TB_of (sub_5 _ (List.mem_of_getElem? (i := 105) rfl)) rfl
theorem kt_1066 : Cond.fieldLink "GuideDeskModel" (68 : Nat) "GuideDeskModel" "code" "[I" ∈ TB := TB_of (sub_5 _ (List.mem_of_getElem? (i := 106) rfl)) rfl
theorem kt_1067 : Cond.fieldLink "GuideDeskModel" (71 : Nat) "GuideDeskModel" "codeInt" "[I" ∈ TB := TB_of (sub_5 _ (List.mem_of_getElem? (i := 107) rfl)) rfl
theorem kt_1068 : Cond.fieldLink "GuideDeskModel" (74 : Nat) "GuideDeskModel" "waits" "[I" ∈ TB := TB_of (sub_5 _ (List.mem_of_getElem? (i := 108) rfl)) rfl
theorem kt_1069 : Cond.fieldLink "GuideDeskModel" (289 : Nat) "GuideDeskModel" "waiting" "I" ∈ TB := TB_of (sub_5 _ (List.mem_of_getElem? (i := 109) rfl)) rfl
theorem kt_1070 : Cond.fieldLink "GuideDeskModel" (186 : Nat) "GuideDeskModel" "channels" "I" ∈ TB := TB_of (sub_5 _ (List.mem_of_getElem? (i := 110) rfl)) rfl
theorem kt_1071 : Cond.fieldLink "GuideDeskModel" (301 : Nat) "GuideDeskModel" "sources" "I" ∈ TB := TB_of (sub_5 _ (List.mem_of_getElem? (i := 111) rfl)) rfl
theorem kt_1072 : Cond.fieldLink "GuideDeskModel" (77 : Nat) "GuideDeskModel" "trust" "[I" ∈ TB := TB_of (sub_5 _ (List.mem_of_getElem? (i := 112) rfl)) rfl
theorem kt_1073 : Cond.fieldLink "GuideDeskModel" (298 : Nat) "GuideDeskModel" "facts" "I" ∈ TB := TB_of (sub_5 _ (List.mem_of_getElem? (i := 113) rfl)) rfl
theorem kt_1074 : Cond.fieldLink "GuideDeskModel" (80 : Nat) "GuideDeskModel" "isOver" "[Z" ∈ TB := TB_of (sub_5 _ (List.mem_of_getElem? (i := 114) rfl)) rfl
theorem kt_1075 : Cond.fieldLink "GuideDeskModel" (83 : Nat) "GuideDeskModel" "factSource" "[I" ∈ TB := TB_of (sub_5 _ (List.mem_of_getElem? (i := 115) rfl)) rfl
theorem kt_1076 : Cond.fieldLink "GuideDeskModel" (86 : Nat) "GuideDeskModel" "factChannel" "[I" ∈ TB := TB_of (sub_5 _ (List.mem_of_getElem? (i := 116) rfl)) rfl
theorem kt_1077 : Cond.fieldLink "GuideDeskModel" (89 : Nat) "GuideDeskModel" "factFrom" "[I" ∈ TB := TB_of (sub_5 _ (List.mem_of_getElem? (i := 117) rfl)) rfl
theorem kt_1078 : Cond.fieldLink "GuideDeskModel" (92 : Nat) "GuideDeskModel" "factUntil" "[I" ∈ TB := TB_of (sub_5 _ (List.mem_of_getElem? (i := 118) rfl)) rfl
theorem kt_1079 : Cond.fieldLink "GuideDeskModel" (95 : Nat) "GuideDeskModel" "factTitle" "[I" ∈ TB := TB_of (sub_5 _ (List.mem_of_getElem? (i := 119) rfl)) rfl
theorem kt_1080 : Cond.fieldLink "GuideDeskModel" (98 : Nat) "GuideDeskModel" "factEpisode" "[I" ∈ TB := TB_of (sub_5 _ (List.mem_of_getElem? (i := 120) rfl)) rfl
theorem kt_1081 : Cond.fieldLink "GuideDeskModel" (101 : Nat) "GuideDeskModel" "factLive" "[Z" ∈ TB := TB_of (sub_5 _ (List.mem_of_getElem? (i := 121) rfl)) rfl
theorem kt_1082 : Cond.fieldLink "GuideDeskModel" (189 : Nat) "GuideDeskModel" "tuners" "I" ∈ TB := TB_of (sub_5 _ (List.mem_of_getElem? (i := 122) rfl)) rfl
theorem kt_1083 : Cond.fieldLink "GuideDeskModel" (307 : Nat) "GuideDeskModel" "lead" "I" ∈ TB := TB_of (sub_5 _ (List.mem_of_getElem? (i := 123) rfl)) rfl
theorem kt_1084 : Cond.fieldLink "GuideDeskModel" (310 : Nat) "GuideDeskModel" "tail" "I" ∈ TB := TB_of (sub_5 _ (List.mem_of_getElem? (i := 124) rfl)) rfl
theorem kt_1085 : Cond.fieldLink "GuideDeskModel" (192 : Nat) "GuideDeskModel" "room" "I" ∈ TB := TB_of (sub_5 _ (List.mem_of_getElem? (i := 125) rfl)) rfl
theorem kt_1086 : Cond.fieldLink "GuideDeskModel" (313 : Nat) "GuideDeskModel" "clock" "I" ∈ TB := TB_of (sub_5 _ (List.mem_of_getElem? (i := 126) rfl)) rfl
theorem kt_1087 : Cond.fieldLink "GuideDeskModel" (104 : Nat) "GuideDeskModel" "made" "I" ∈ TB := TB_of (sub_5 _ (List.mem_of_getElem? (i := 127) rfl)) rfl
theorem kt_1088 : Cond.fieldLink "GuideDeskModel" (107 : Nat) "GuideDeskModel" "said" "[I" ∈ TB := TB_of (sub_5 _ (List.mem_of_getElem? (i := 128) rfl)) rfl
theorem kt_1089 : Cond.fieldLink "GuideDeskModel" (110 : Nat) "GuideDeskModel" "day" "[I" ∈ TB := TB_of (sub_5 _ (List.mem_of_getElem? (i := 129) rfl)) rfl
theorem kt_1090 : Cond.fieldLink "GuideDeskModel" (113 : Nat) "GuideDeskModel" "pushed" "[I" ∈ TB := TB_of (sub_5 _ (List.mem_of_getElem? (i := 130) rfl)) rfl
theorem kt_1091 : Cond.fieldLink "GuideDeskModel" (329 : Nat) "GuideDeskModel" "shown" "I" ∈ TB := TB_of (sub_5 _ (List.mem_of_getElem? (i := 131) rfl)) rfl
theorem kt_1092 : Cond.fieldLink "GuideDeskModel" (116 : Nat) "GuideDeskModel" "sFact" "[I" ∈ TB := TB_of (sub_5 _ (List.mem_of_getElem? (i := 132) rfl)) rfl
theorem kt_1093 : Cond.fieldLink "GuideDeskModel" (119 : Nat) "GuideDeskModel" "sChannel" "[I" ∈ TB := TB_of (sub_5 _ (List.mem_of_getElem? (i := 133) rfl)) rfl
theorem kt_1094 : Cond.fieldLink "GuideDeskModel" (122 : Nat) "GuideDeskModel" "sFrom" "[I" ∈ TB := TB_of (sub_5 _ (List.mem_of_getElem? (i := 134) rfl)) rfl
theorem kt_1095 : Cond.fieldLink "GuideDeskModel" (125 : Nat) "GuideDeskModel" "sUntil" "[I" ∈ TB := TB_of (sub_5 _ (List.mem_of_getElem? (i := 135) rfl)) rfl
theorem kt_1096 : Cond.fieldLink "GuideDeskModel" (128 : Nat) "GuideDeskModel" "pile" "[I" ∈ TB := TB_of (sub_5 _ (List.mem_of_getElem? (i := 136) rfl)) rfl
theorem kt_1097 : Cond.fieldLink "GuideDeskModel" (131 : Nat) "GuideDeskModel" "planN" "I" ∈ TB := TB_of (sub_5 _ (List.mem_of_getElem? (i := 137) rfl)) rfl
theorem kt_1098 : Cond.fieldLink "GuideDeskModel" (364 : Nat) "GuideDeskModel" "candidates" "I" ∈ TB := TB_of (sub_5 _ (List.mem_of_getElem? (i := 138) rfl)) rfl
theorem kt_1099 : Cond.fieldLink "GuideDeskModel" (367 : Nat) "GuideDeskModel" "planSet" "I" ∈ TB := TB_of (sub_5 _ (List.mem_of_getElem? (i := 139) rfl)) rfl
theorem kt_1100 : Cond.fieldLink "GuideDeskModel" (386 : Nat) "GuideDeskModel" "planRoom" "I" ∈ TB := TB_of (sub_5 _ (List.mem_of_getElem? (i := 140) rfl)) rfl
theorem kt_1101 : Cond.fieldLink "GuideDeskModel" (134 : Nat) "GuideDeskModel" "cShowing" "[I" ∈ TB := TB_of (sub_5 _ (List.mem_of_getElem? (i := 141) rfl)) rfl
theorem kt_1102 : Cond.fieldLink "GuideDeskModel" (137 : Nat) "GuideDeskModel" "cWeight" "[I" ∈ TB := TB_of (sub_5 _ (List.mem_of_getElem? (i := 142) rfl)) rfl
theorem kt_1103 : Cond.fieldLink "GuideDeskModel" (140 : Nat) "GuideDeskModel" "cFrom" "[I" ∈ TB := TB_of (sub_5 _ (List.mem_of_getElem? (i := 143) rfl)) rfl
theorem kt_1104 : Cond.fieldLink "GuideDeskModel" (143 : Nat) "GuideDeskModel" "cUntil" "[I" ∈ TB := TB_of (sub_5 _ (List.mem_of_getElem? (i := 144) rfl)) rfl
theorem kt_1105 : Cond.fieldLink "GuideDeskModel" (146 : Nat) "GuideDeskModel" "cFirst" "[I" ∈ TB := TB_of (sub_5 _ (List.mem_of_getElem? (i := 145) rfl)) rfl
theorem kt_1106 : Cond.fieldLink "GuideDeskModel" (149 : Nat) "GuideDeskModel" "cChannel" "[I" ∈ TB := TB_of (sub_5 _ (List.mem_of_getElem? (i := 146) rfl)) rfl
theorem kt_1107 : Cond.fieldLink "GuideDeskModel" (152 : Nat) "GuideDeskModel" "cTitle" "[I" ∈ TB := TB_of (sub_5 _ (List.mem_of_getElem? (i := 147) rfl)) rfl
theorem kt_1108 : Cond.fieldLink "GuideDeskModel" (155 : Nat) "GuideDeskModel" "cEpisode" "[I" ∈ TB := TB_of (sub_5 _ (List.mem_of_getElem? (i := 148) rfl)) rfl
theorem kt_1109 : Cond.fieldLink "GuideDeskModel" (158 : Nat) "GuideDeskModel" "cWay" "[Z" ∈ TB := TB_of (sub_5 _ (List.mem_of_getElem? (i := 149) rfl)) rfl
theorem kt_1110 : Cond.fieldLink "GuideDeskModel" (161 : Nat) "GuideDeskModel" "cLate" "[Z" ∈ TB := TB_of (sub_5 _ (List.mem_of_getElem? (i := 150) rfl)) rfl
theorem kt_1111 : Cond.fieldLink "GuideDeskModel" (164 : Nat) "GuideDeskModel" "cWhy" "[I" ∈ TB := TB_of (sub_5 _ (List.mem_of_getElem? (i := 151) rfl)) rfl
theorem kt_1112 : Cond.fieldLink "GuideDeskModel" (167 : Nat) "GuideDeskModel" "cBy" "[I" ∈ TB := TB_of (sub_5 _ (List.mem_of_getElem? (i := 152) rfl)) rfl
theorem kt_1113 : Cond.fieldLink "GuideDeskModel" (361 : Nat) "GuideDeskModel" "begun" "I" ∈ TB := TB_of (sub_5 _ (List.mem_of_getElem? (i := 153) rfl)) rfl
theorem kt_1114 : Cond.fieldLink "GuideDeskModel" (170 : Nat) "GuideDeskModel" "bChannel" "[I" ∈ TB := TB_of (sub_5 _ (List.mem_of_getElem? (i := 154) rfl)) rfl
theorem kt_1115 : Cond.fieldLink "GuideDeskModel" (173 : Nat) "GuideDeskModel" "bTitle" "[I" ∈ TB := TB_of (sub_5 _ (List.mem_of_getElem? (i := 155) rfl)) rfl
theorem kt_1116 : Cond.fieldLink "GuideDeskModel" (176 : Nat) "GuideDeskModel" "bEpisode" "[I" ∈ TB := TB_of (sub_5 _ (List.mem_of_getElem? (i := 156) rfl)) rfl
theorem kt_1117 : Cond.fieldLink "GuideDeskModel" (179 : Nat) "GuideDeskModel" "bFirst" "[I" ∈ TB := TB_of (sub_5 _ (List.mem_of_getElem? (i := 157) rfl)) rfl
theorem kt_1283 : Cond.arrayClass Jvm.ClassFile.FieldType.long ∈ TB := TB_of (sub_6 _ (List.mem_of_getElem? (i := 83) rfl)) rfl
theorem kt_1284 : Cond.arrayClass Jvm.ClassFile.FieldType.boolean ∈ TB := TB_of (sub_6 _ (List.mem_of_getElem? (i := 84) rfl)) rfl
theorem kt_1288 : Cond.code ({ cls := "GuideDeskModel", name := "feed", desc := "(IIIII)I" } : Jvm.MethodName) prog_14_method_3_code (6 : Nat) (Option.some Jvm.ClassFile.FieldType.int) ∈ TB := TB_of (sub_6 _ (List.mem_of_getElem? (i := 88) rfl)) rfl
theorem kt_1289 : Cond.methodLink "GuideDeskModel" (198 : Nat) ({ cls := "GuideDeskModel", name := "put", desc := "(I)V" } : Jvm.MethodName) ∈ TB := TB_of (sub_6 _ (List.mem_of_getElem? (i := 89) rfl)) rfl
theorem kt_1291 : Cond.instanceMethod ({ cls := "GuideDeskModel", name := "put", desc := "(I)V" } : Jvm.MethodName) ∈ TB := TB_of (sub_6 _ (List.mem_of_getElem? (i := 91) rfl)) rfl
theorem kt_1292 : Cond.code ({ cls := "GuideDeskModel", name := "put", desc := "(I)V" } : Jvm.MethodName) prog_14_method_4_code (3 : Nat) (Option.none : Option Jvm.ClassFile.FieldType) ∈ TB := TB_of (sub_6 _ (List.mem_of_getElem? (i := 92) rfl)) rfl
theorem kt_1296 : Cond.code ({ cls := "GuideDeskModel", name := "back", desc := "(I)I" } : Jvm.MethodName) prog_14_method_5_code (2 : Nat) (Option.some Jvm.ClassFile.FieldType.int) ∈ TB := TB_of (sub_6 _ (List.mem_of_getElem? (i := 96) rfl)) rfl
theorem kt_1300 : Cond.code ({ cls := "GuideDeskModel", name := "read", desc := "()I" } : Jvm.MethodName) prog_14_method_19_code (2 : Nat) (Option.some Jvm.ClassFile.FieldType.int) ∈ TB := TB_of (sub_6 _ (List.mem_of_getElem? (i := 100) rfl)) rfl
theorem kt_1301 : Cond.methodLink "GuideDeskModel" (257 : Nat) ({ cls := "GuideDeskModel", name := "cut", desc := "()V" } : Jvm.MethodName) ∈ TB := TB_of (sub_6 _ (List.mem_of_getElem? (i := 101) rfl)) rfl
theorem kt_1303 : Cond.instanceMethod ({ cls := "GuideDeskModel", name := "cut", desc := "()V" } : Jvm.MethodName) ∈ TB := TB_of (sub_6 _ (List.mem_of_getElem? (i := 103) rfl)) rfl
theorem kt_1304 : Cond.code ({ cls := "GuideDeskModel", name := "cut", desc := "()V" } : Jvm.MethodName) prog_14_method_12_code (8 : Nat) (Option.none : Option Jvm.ClassFile.FieldType) ∈ TB := TB_of (sub_6 _ (List.mem_of_getElem? (i := 104) rfl)) rfl
theorem kt_1305 : Cond.methodLink "GuideDeskModel" (214 : Nat) ({ cls := "GuideDeskModel", name := "at", desc := "(I)I" } : Jvm.MethodName) ∈ TB := TB_of (sub_6 _ (List.mem_of_getElem? (i := 105) rfl)) rfl
theorem kt_1307 : Cond.instanceMethod ({ cls := "GuideDeskModel", name := "at", desc := "(I)I" } : Jvm.MethodName) ∈ TB := TB_of (sub_6 _ (List.mem_of_getElem? (i := 107) rfl)) rfl
theorem kt_1308 : Cond.code ({ cls := "GuideDeskModel", name := "at", desc := "(I)I" } : Jvm.MethodName) prog_14_method_6_code (2 : Nat) (Option.some Jvm.ClassFile.FieldType.int) ∈ TB := TB_of (sub_6 _ (List.mem_of_getElem? (i := 108) rfl)) rfl
theorem kt_1309 : Cond.methodLink "GuideDeskModel" (218 : Nat) ({ cls := "GuideDeskModel", name := "token", desc := "(IIIJ)V" } : Jvm.MethodName) ∈ TB := TB_of (sub_6 _ (List.mem_of_getElem? (i := 109) rfl)) rfl
theorem kt_1311 : Cond.instanceMethod ({ cls := "GuideDeskModel", name := "token", desc := "(IIIJ)V" } : Jvm.MethodName) ∈ TB := TB_of (sub_6 _ (List.mem_of_getElem? (i := 111) rfl)) rfl
theorem kt_1312 : Cond.code ({ cls := "GuideDeskModel", name := "token", desc := "(IIIJ)V" } : Jvm.MethodName) prog_14_method_11_code (6 : Nat) (Option.none : Option Jvm.ClassFile.FieldType) ∈ TB := TB_of (sub_6 _ (List.mem_of_getElem? (i := 112) rfl)) rfl
theorem kt_1313 : Cond.methodLink "GuideDeskModel" (222 : Nat) ({ cls := "GuideDeskModel", name := "isLetter", desc := "(I)Z" } : Jvm.MethodName) ∈ TB := TB_of (sub_6 _ (List.mem_of_getElem? (i := 113) rfl)) rfl
theorem kt_1314 : Cond.static ({ cls := "GuideDeskModel", name := "isLetter", desc := "(I)Z" } : Jvm.MethodName) ∈ TB := TB_of (sub_6 _ (List.mem_of_getElem? (i := 114) rfl)) rfl
theorem kt_1315 : Cond.code ({ cls := "GuideDeskModel", name := "isLetter", desc := "(I)Z" } : Jvm.MethodName) prog_14_method_8_code (1 : Nat) (Option.some Jvm.ClassFile.FieldType.boolean) ∈ TB := TB_of (sub_6 _ (List.mem_of_getElem? (i := 115) rfl)) rfl
theorem kt_1316 : Cond.methodLink "GuideDeskModel" (226 : Nat) ({ cls := "GuideDeskModel", name := "isDigit", desc := "(I)Z" } : Jvm.MethodName) ∈ TB := TB_of (sub_6 _ (List.mem_of_getElem? (i := 116) rfl)) rfl
theorem kt_1317 : Cond.static ({ cls := "GuideDeskModel", name := "isDigit", desc := "(I)Z" } : Jvm.MethodName) ∈ TB := TB_of (sub_6 _ (List.mem_of_getElem? (i := 117) rfl)) rfl
theorem kt_1318 : Cond.code ({ cls := "GuideDeskModel", name := "isDigit", desc := "(I)Z" } : Jvm.MethodName) prog_14_method_7_code (1 : Nat) (Option.some Jvm.ClassFile.FieldType.boolean) ∈ TB := TB_of (sub_6 _ (List.mem_of_getElem? (i := 118) rfl)) rfl
theorem kt_1319 : Cond.methodLink "GuideDeskModel" (229 : Nat) ({ cls := "GuideDeskModel", name := "sign", desc := "(III)I" } : Jvm.MethodName) ∈ TB := TB_of (sub_6 _ (List.mem_of_getElem? (i := 119) rfl)) rfl
theorem kt_1321 : Cond.instanceMethod ({ cls := "GuideDeskModel", name := "sign", desc := "(III)I" } : Jvm.MethodName) ∈ TB := TB_of (sub_6 _ (List.mem_of_getElem? (i := 121) rfl)) rfl
theorem kt_1322 : Cond.code ({ cls := "GuideDeskModel", name := "sign", desc := "(III)I" } : Jvm.MethodName) prog_14_method_13_code (6 : Nat) (Option.some Jvm.ClassFile.FieldType.int) ∈ TB := TB_of (sub_6 _ (List.mem_of_getElem? (i := 122) rfl)) rfl
theorem kt_1323 : Cond.methodLink "GuideDeskModel" (251 : Nat) ({ cls := "GuideDeskModel", name := "is", desc := "(I)Z" } : Jvm.MethodName) ∈ TB := TB_of (sub_6 _ (List.mem_of_getElem? (i := 123) rfl)) rfl
theorem kt_1325 : Cond.instanceMethod ({ cls := "GuideDeskModel", name := "is", desc := "(I)Z" } : Jvm.MethodName) ∈ TB := TB_of (sub_6 _ (List.mem_of_getElem? (i := 125) rfl)) rfl
theorem kt_1326 : Cond.code ({ cls := "GuideDeskModel", name := "is", desc := "(I)Z" } : Jvm.MethodName) prog_14_method_14_code (2 : Nat) (Option.some Jvm.ClassFile.FieldType.boolean) ∈ TB := TB_of (sub_6 _ (List.mem_of_getElem? (i := 126) rfl)) rfl
theorem kt_1327 : Cond.methodLink "GuideDeskModel" (272 : Nat) ({ cls := "GuideDeskModel", name := "tellRule", desc := "()V" } : Jvm.MethodName) ∈ TB := TB_of (sub_6 _ (List.mem_of_getElem? (i := 127) rfl)) rfl
theorem kt_1329 : Cond.instanceMethod ({ cls := "GuideDeskModel", name := "tellRule", desc := "()V" } : Jvm.MethodName) ∈ TB := TB_of (sub_6 _ (List.mem_of_getElem? (i := 129) rfl)) rfl
theorem kt_1330 : Cond.code ({ cls := "GuideDeskModel", name := "tellRule", desc := "()V" } : Jvm.MethodName) prog_14_method_21_code (5 : Nat) (Option.none : Option Jvm.ClassFile.FieldType) ∈ TB := TB_of (sub_6 _ (List.mem_of_getElem? (i := 130) rfl)) rfl
theorem kt_1331 : Cond.methodLink "GuideDeskModel" (248 : Nat) ({ cls := "GuideDeskModel", name := "fail", desc := "(I)V" } : Jvm.MethodName) ∈ TB := TB_of (sub_6 _ (List.mem_of_getElem? (i := 131) rfl)) rfl
theorem kt_1333 : Cond.instanceMethod ({ cls := "GuideDeskModel", name := "fail", desc := "(I)V" } : Jvm.MethodName) ∈ TB := TB_of (sub_6 _ (List.mem_of_getElem? (i := 133) rfl)) rfl
theorem kt_1334 : Cond.code ({ cls := "GuideDeskModel", name := "fail", desc := "(I)V" } : Jvm.MethodName) prog_14_method_15_code (2 : Nat) (Option.none : Option Jvm.ClassFile.FieldType) ∈ TB := TB_of (sub_6 _ (List.mem_of_getElem? (i := 134) rfl)) rfl
theorem kt_1335 : Cond.methodLink "GuideDeskModel" (254 : Nat) ({ cls := "GuideDeskModel", name := "next", desc := "()V" } : Jvm.MethodName) ∈ TB := TB_of (sub_6 _ (List.mem_of_getElem? (i := 135) rfl)) rfl
theorem kt_1337 : Cond.instanceMethod ({ cls := "GuideDeskModel", name := "next", desc := "()V" } : Jvm.MethodName) ∈ TB := TB_of (sub_6 _ (List.mem_of_getElem? (i := 137) rfl)) rfl
theorem kt_1338 : Cond.code ({ cls := "GuideDeskModel", name := "next", desc := "()V" } : Jvm.MethodName) prog_14_method_17_code (1 : Nat) (Option.none : Option Jvm.ClassFile.FieldType) ∈ TB := TB_of (sub_6 _ (List.mem_of_getElem? (i := 138) rfl)) rfl
theorem kt_1339 : Cond.methodLink "GuideDeskModel" (275 : Nat) ({ cls := "GuideDeskModel", name := "must", desc := "(I)V" } : Jvm.MethodName) ∈ TB := TB_of (sub_6 _ (List.mem_of_getElem? (i := 139) rfl)) rfl
theorem kt_1341 : Cond.instanceMethod ({ cls := "GuideDeskModel", name := "must", desc := "(I)V" } : Jvm.MethodName) ∈ TB := TB_of (sub_6 _ (List.mem_of_getElem? (i := 141) rfl)) rfl
theorem kt_1342 : Cond.code ({ cls := "GuideDeskModel", name := "must", desc := "(I)V" } : Jvm.MethodName) prog_14_method_18_code (2 : Nat) (Option.none : Option Jvm.ClassFile.FieldType) ∈ TB := TB_of (sub_6 _ (List.mem_of_getElem? (i := 142) rfl)) rfl
theorem kt_1343 : Cond.methodLink "GuideDeskModel" (278 : Nat) ({ cls := "GuideDeskModel", name := "wrong", desc := "(II)V" } : Jvm.MethodName) ∈ TB := TB_of (sub_6 _ (List.mem_of_getElem? (i := 143) rfl)) rfl
theorem kt_1345 : Cond.instanceMethod ({ cls := "GuideDeskModel", name := "wrong", desc := "(II)V" } : Jvm.MethodName) ∈ TB := TB_of (sub_6 _ (List.mem_of_getElem? (i := 145) rfl)) rfl
theorem kt_1346 : Cond.code ({ cls := "GuideDeskModel", name := "wrong", desc := "(II)V" } : Jvm.MethodName) prog_14_method_16_code (4 : Nat) (Option.none : Option Jvm.ClassFile.FieldType) ∈ TB := TB_of (sub_6 _ (List.mem_of_getElem? (i := 146) rfl)) rfl
theorem kt_1347 : Cond.methodLink "GuideDeskModel" (282 : Nat) ({ cls := "GuideDeskModel", name := "literal", desc := "(Z)V" } : Jvm.MethodName) ∈ TB := TB_of (sub_6 _ (List.mem_of_getElem? (i := 147) rfl)) rfl
theorem kt_1349 : Cond.instanceMethod ({ cls := "GuideDeskModel", name := "literal", desc := "(Z)V" } : Jvm.MethodName) ∈ TB := TB_of (sub_6 _ (List.mem_of_getElem? (i := 149) rfl)) rfl
theorem kt_1350 : Cond.code ({ cls := "GuideDeskModel", name := "literal", desc := "(Z)V" } : Jvm.MethodName) prog_14_method_22_code (6 : Nat) (Option.none : Option Jvm.ClassFile.FieldType) ∈ TB := TB_of (sub_6 _ (List.mem_of_getElem? (i := 150) rfl)) rfl
theorem kt_1351 : Cond.methodLink "GuideDeskModel" (286 : Nat) ({ cls := "GuideDeskModel", name := "expression", desc := "()V" } : Jvm.MethodName) ∈ TB := TB_of (sub_6 _ (List.mem_of_getElem? (i := 151) rfl)) rfl
theorem kt_1353 : Cond.instanceMethod ({ cls := "GuideDeskModel", name := "expression", desc := "()V" } : Jvm.MethodName) ∈ TB := TB_of (sub_6 _ (List.mem_of_getElem? (i := 153) rfl)) rfl
theorem kt_1354 : Cond.code ({ cls := "GuideDeskModel", name := "expression", desc := "()V" } : Jvm.MethodName) prog_14_method_25_code (5 : Nat) (Option.none : Option Jvm.ClassFile.FieldType) ∈ TB := TB_of (sub_6 _ (List.mem_of_getElem? (i := 154) rfl)) rfl
theorem kt_1355 : Cond.methodLink "GuideDeskModel" (292 : Nat) ({ cls := "GuideDeskModel", name := "emit", desc := "(II)V" } : Jvm.MethodName) ∈ TB := TB_of (sub_6 _ (List.mem_of_getElem? (i := 155) rfl)) rfl
theorem kt_1357 : Cond.instanceMethod ({ cls := "GuideDeskModel", name := "emit", desc := "(II)V" } : Jvm.MethodName) ∈ TB := TB_of (sub_6 _ (List.mem_of_getElem? (i := 157) rfl)) rfl
theorem kt_1358 : Cond.code ({ cls := "GuideDeskModel", name := "emit", desc := "(II)V" } : Jvm.MethodName) prog_14_method_23_code (3 : Nat) (Option.none : Option Jvm.ClassFile.FieldType) ∈ TB := TB_of (sub_6 _ (List.mem_of_getElem? (i := 158) rfl)) rfl
theorem kt_1359 : Cond.methodLink "GuideDeskModel" (295 : Nat) ({ cls := "GuideDeskModel", name := "comesOut", desc := "(Z)V" } : Jvm.MethodName) ∈ TB := TB_of (sub_6 _ (List.mem_of_getElem? (i := 159) rfl)) rfl
theorem kt_1361 : Cond.instanceMethod ({ cls := "GuideDeskModel", name := "comesOut", desc := "(Z)V" } : Jvm.MethodName) ∈ TB := TB_of (sub_6 _ (List.mem_of_getElem? (i := 161) rfl)) rfl
theorem kt_1362 : Cond.code ({ cls := "GuideDeskModel", name := "comesOut", desc := "(Z)V" } : Jvm.MethodName) prog_14_method_24_code (3 : Nat) (Option.none : Option Jvm.ClassFile.FieldType) ∈ TB := TB_of (sub_6 _ (List.mem_of_getElem? (i := 162) rfl)) rfl
theorem kt_1366 : Cond.code ({ cls := "GuideDeskModel", name := "place", desc := "()I" } : Jvm.MethodName) prog_14_method_20_code (1 : Nat) (Option.some Jvm.ClassFile.FieldType.int) ∈ TB := TB_of (sub_6 _ (List.mem_of_getElem? (i := 166) rfl)) rfl
theorem kt_1370 : Cond.code ({ cls := "GuideDeskModel", name := "channels", desc := "(I)Z" } : Jvm.MethodName) prog_14_method_29_code (2 : Nat) (Option.some Jvm.ClassFile.FieldType.boolean) ∈ TB := TB_of (sub_6 _ (List.mem_of_getElem? (i := 170) rfl)) rfl
theorem kt_1374 : Cond.code ({ cls := "GuideDeskModel", name := "source", desc := "(I)I" } : Jvm.MethodName) prog_14_method_30_code (2 : Nat) (Option.some Jvm.ClassFile.FieldType.int) ∈ TB := TB_of (sub_6 _ (List.mem_of_getElem? (i := 174) rfl)) rfl
theorem kt_1378 : Cond.code ({ cls := "GuideDeskModel", name := "notice", desc := "(IIIIIIZ)I" } : Jvm.MethodName) prog_14_method_31_code (8 : Nat) (Option.some Jvm.ClassFile.FieldType.int) ∈ TB := TB_of (sub_6 _ (List.mem_of_getElem? (i := 178) rfl)) rfl
theorem kt_1379 : Cond.methodLink "GuideDeskModel" (304 : Nat) ({ cls := "GuideDeskModel", name := "isChannel", desc := "(I)Z" } : Jvm.MethodName) ∈ TB := TB_of (sub_6 _ (List.mem_of_getElem? (i := 179) rfl)) rfl
theorem kt_1381 : Cond.instanceMethod ({ cls := "GuideDeskModel", name := "isChannel", desc := "(I)Z" } : Jvm.MethodName) ∈ TB := TB_of (sub_6 _ (List.mem_of_getElem? (i := 181) rfl)) rfl
theorem kt_1382 : Cond.code ({ cls := "GuideDeskModel", name := "isChannel", desc := "(I)Z" } : Jvm.MethodName) prog_14_method_26_code (2 : Nat) (Option.some Jvm.ClassFile.FieldType.boolean) ∈ TB := TB_of (sub_6 _ (List.mem_of_getElem? (i := 182) rfl)) rfl
theorem kt_1386 : Cond.code ({ cls := "GuideDeskModel", name := "over", desc := "(III)I" } : Jvm.MethodName) prog_14_method_32_code (4 : Nat) (Option.some Jvm.ClassFile.FieldType.int) ∈ TB := TB_of (sub_6 _ (List.mem_of_getElem? (i := 186) rfl)) rfl
theorem kt_1390 : Cond.code ({ cls := "GuideDeskModel", name := "recorder", desc := "(IIII)Z" } : Jvm.MethodName) prog_14_method_33_code (5 : Nat) (Option.some Jvm.ClassFile.FieldType.boolean) ∈ TB := TB_of (sub_6 _ (List.mem_of_getElem? (i := 190) rfl)) rfl
theorem kt_1394 : Cond.code ({ cls := "GuideDeskModel", name := "clock", desc := "(I)Z" } : Jvm.MethodName) prog_14_method_34_code (2 : Nat) (Option.some Jvm.ClassFile.FieldType.boolean) ∈ TB := TB_of (sub_6 _ (List.mem_of_getElem? (i := 194) rfl)) rfl
theorem kt_1395 : Cond.methodLink "GuideDeskModel" (316 : Nat) ({ cls := "GuideDeskModel", name := "isSlot", desc := "(I)Z" } : Jvm.MethodName) ∈ TB := TB_of (sub_6 _ (List.mem_of_getElem? (i := 195) rfl)) rfl
theorem kt_1396 : Cond.static ({ cls := "GuideDeskModel", name := "isSlot", desc := "(I)Z" } : Jvm.MethodName) ∈ TB := TB_of (sub_6 _ (List.mem_of_getElem? (i := 196) rfl)) rfl
theorem kt_1397 : Cond.code ({ cls := "GuideDeskModel", name := "isSlot", desc := "(I)Z" } : Jvm.MethodName) prog_14_method_27_code (1 : Nat) (Option.some Jvm.ClassFile.FieldType.boolean) ∈ TB := TB_of (sub_6 _ (List.mem_of_getElem? (i := 197) rfl)) rfl
theorem kt_1401 : Cond.code ({ cls := "GuideDeskModel", name := "sent", desc := "(III)I" } : Jvm.MethodName) prog_14_method_40_code (4 : Nat) (Option.some Jvm.ClassFile.FieldType.int) ∈ TB := TB_of (sub_6 _ (List.mem_of_getElem? (i := 201) rfl)) rfl
theorem kt_1402 : Cond.methodLink "GuideDeskModel" (332 : Nat) ({ cls := "GuideDeskModel", name := "isKnown", desc := "(I)Z" } : Jvm.MethodName) ∈ TB := TB_of (sub_6 _ (List.mem_of_getElem? (i := 202) rfl)) rfl
theorem kt_1404 : Cond.instanceMethod ({ cls := "GuideDeskModel", name := "isKnown", desc := "(I)Z" } : Jvm.MethodName) ∈ TB := TB_of (sub_6 _ (List.mem_of_getElem? (i := 204) rfl)) rfl
theorem kt_1405 : Cond.code ({ cls := "GuideDeskModel", name := "isKnown", desc := "(I)Z" } : Jvm.MethodName) prog_14_method_28_code (2 : Nat) (Option.some Jvm.ClassFile.FieldType.boolean) ∈ TB := TB_of (sub_6 _ (List.mem_of_getElem? (i := 205) rfl)) rfl
theorem kt_1406 : Cond.methodLink "GuideDeskModel" (335 : Nat) ({ cls := "GuideDeskModel", name := "makes", desc := "(I)V" } : Jvm.MethodName) ∈ TB := TB_of (sub_6 _ (List.mem_of_getElem? (i := 206) rfl)) rfl
theorem kt_1408 : Cond.instanceMethod ({ cls := "GuideDeskModel", name := "makes", desc := "(I)V" } : Jvm.MethodName) ∈ TB := TB_of (sub_6 _ (List.mem_of_getElem? (i := 208) rfl)) rfl
theorem kt_1409 : Cond.code ({ cls := "GuideDeskModel", name := "makes", desc := "(I)V" } : Jvm.MethodName) prog_14_method_36_code (6 : Nat) (Option.none : Option Jvm.ClassFile.FieldType) ∈ TB := TB_of (sub_6 _ (List.mem_of_getElem? (i := 209) rfl)) rfl
theorem kt_1410 : Cond.methodLink "GuideDeskModel" (319 : Nat) ({ cls := "GuideDeskModel", name := "hears", desc := "(III)V" } : Jvm.MethodName) ∈ TB := TB_of (sub_6 _ (List.mem_of_getElem? (i := 210) rfl)) rfl
theorem kt_1412 : Cond.instanceMethod ({ cls := "GuideDeskModel", name := "hears", desc := "(III)V" } : Jvm.MethodName) ∈ TB := TB_of (sub_6 _ (List.mem_of_getElem? (i := 212) rfl)) rfl
theorem kt_1413 : Cond.code ({ cls := "GuideDeskModel", name := "hears", desc := "(III)V" } : Jvm.MethodName) prog_14_method_35_code (6 : Nat) (Option.none : Option Jvm.ClassFile.FieldType) ∈ TB := TB_of (sub_6 _ (List.mem_of_getElem? (i := 213) rfl)) rfl
theorem kt_1414 : Cond.methodLink "GuideDeskModel" (323 : Nat) ({ cls := "GuideDeskModel", name := "pushes", desc := "(III)V" } : Jvm.MethodName) ∈ TB := TB_of (sub_6 _ (List.mem_of_getElem? (i := 214) rfl)) rfl
theorem kt_1416 : Cond.instanceMethod ({ cls := "GuideDeskModel", name := "pushes", desc := "(III)V" } : Jvm.MethodName) ∈ TB := TB_of (sub_6 _ (List.mem_of_getElem? (i := 216) rfl)) rfl
theorem kt_1417 : Cond.code ({ cls := "GuideDeskModel", name := "pushes", desc := "(III)V" } : Jvm.MethodName) prog_14_method_37_code (7 : Nat) (Option.none : Option Jvm.ClassFile.FieldType) ∈ TB := TB_of (sub_6 _ (List.mem_of_getElem? (i := 217) rfl)) rfl
theorem kt_1418 : Cond.methodLink "GuideDeskModel" (326 : Nat) ({ cls := "GuideDeskModel", name := "shows", desc := "()V" } : Jvm.MethodName) ∈ TB := TB_of (sub_6 _ (List.mem_of_getElem? (i := 218) rfl)) rfl
theorem kt_1420 : Cond.instanceMethod ({ cls := "GuideDeskModel", name := "shows", desc := "()V" } : Jvm.MethodName) ∈ TB := TB_of (sub_6 _ (List.mem_of_getElem? (i := 220) rfl)) rfl
theorem kt_1421 : Cond.code ({ cls := "GuideDeskModel", name := "shows", desc := "()V" } : Jvm.MethodName) prog_14_method_38_code (5 : Nat) (Option.none : Option Jvm.ClassFile.FieldType) ∈ TB := TB_of (sub_6 _ (List.mem_of_getElem? (i := 221) rfl)) rfl
theorem kt_1425 : Cond.code ({ cls := "GuideDeskModel", name := "says", desc := "(IIII)I" } : Jvm.MethodName) prog_14_method_41_code (5 : Nat) (Option.some Jvm.ClassFile.FieldType.int) ∈ TB := TB_of (sub_6 _ (List.mem_of_getElem? (i := 225) rfl)) rfl
theorem kt_1429 : Cond.code ({ cls := "GuideDeskModel", name := "showings", desc := "(I)I" } : Jvm.MethodName) prog_14_method_48_code (2 : Nat) (Option.some Jvm.ClassFile.FieldType.int) ∈ TB := TB_of (sub_6 _ (List.mem_of_getElem? (i := 229) rfl)) rfl
theorem kt_1433 : Cond.code ({ cls := "GuideDeskModel", name := "showing", desc := "(III)I" } : Jvm.MethodName) prog_14_method_49_code (6 : Nat) (Option.some Jvm.ClassFile.FieldType.int) ∈ TB := TB_of (sub_6 _ (List.mem_of_getElem? (i := 233) rfl)) rfl
theorem kt_1434 : Cond.methodLink "GuideDeskModel" (358 : Nat) ({ cls := "GuideDeskModel", name := "weightOf", desc := "(I)I" } : Jvm.MethodName) ∈ TB := TB_of (sub_6 _ (List.mem_of_getElem? (i := 234) rfl)) rfl
theorem kt_1436 : Cond.instanceMethod ({ cls := "GuideDeskModel", name := "weightOf", desc := "(I)I" } : Jvm.MethodName) ∈ TB := TB_of (sub_6 _ (List.mem_of_getElem? (i := 236) rfl)) rfl
theorem kt_1437 : Cond.code ({ cls := "GuideDeskModel", name := "weightOf", desc := "(I)I" } : Jvm.MethodName) prog_14_method_47_code (5 : Nat) (Option.some Jvm.ClassFile.FieldType.int) ∈ TB := TB_of (sub_6 _ (List.mem_of_getElem? (i := 237) rfl)) rfl
theorem kt_1438 : Cond.methodLink "GuideDeskModel" (355 : Nat) ({ cls := "GuideDeskModel", name := "isHeld", desc := "(II)Z" } : Jvm.MethodName) ∈ TB := TB_of (sub_6 _ (List.mem_of_getElem? (i := 238) rfl)) rfl
theorem kt_1440 : Cond.instanceMethod ({ cls := "GuideDeskModel", name := "isHeld", desc := "(II)Z" } : Jvm.MethodName) ∈ TB := TB_of (sub_7 _ (List.mem_of_getElem? (i := 0) rfl)) rfl
theorem kt_1441 : Cond.code ({ cls := "GuideDeskModel", name := "isHeld", desc := "(II)Z" } : Jvm.MethodName) prog_14_method_46_code (6 : Nat) (Option.some Jvm.ClassFile.FieldType.boolean) ∈ TB := TB_of (sub_7 _ (List.mem_of_getElem? (i := 1) rfl)) rfl
theorem kt_1442 : Cond.methodLink "GuideDeskModel" (352 : Nat) ({ cls := "GuideDeskModel", name := "isTrue", desc := "(II)Z" } : Jvm.MethodName) ∈ TB := TB_of (sub_7 _ (List.mem_of_getElem? (i := 2) rfl)) rfl
theorem kt_1444 : Cond.instanceMethod ({ cls := "GuideDeskModel", name := "isTrue", desc := "(II)Z" } : Jvm.MethodName) ∈ TB := TB_of (sub_7 _ (List.mem_of_getElem? (i := 4) rfl)) rfl
theorem kt_1445 : Cond.code ({ cls := "GuideDeskModel", name := "isTrue", desc := "(II)Z" } : Jvm.MethodName) prog_14_method_45_code (5 : Nat) (Option.some Jvm.ClassFile.FieldType.boolean) ∈ TB := TB_of (sub_7 _ (List.mem_of_getElem? (i := 5) rfl)) rfl
theorem kt_1446 : Cond.methodLink "GuideDeskModel" (346 : Nat) ({ cls := "GuideDeskModel", name := "leastOne", desc := "(I)I" } : Jvm.MethodName) ∈ TB := TB_of (sub_7 _ (List.mem_of_getElem? (i := 6) rfl)) rfl
theorem kt_1448 : Cond.instanceMethod ({ cls := "GuideDeskModel", name := "leastOne", desc := "(I)I" } : Jvm.MethodName) ∈ TB := TB_of (sub_7 _ (List.mem_of_getElem? (i := 8) rfl)) rfl
theorem kt_1449 : Cond.code ({ cls := "GuideDeskModel", name := "leastOne", desc := "(I)I" } : Jvm.MethodName) prog_14_method_44_code (3 : Nat) (Option.some Jvm.ClassFile.FieldType.int) ∈ TB := TB_of (sub_7 _ (List.mem_of_getElem? (i := 9) rfl)) rfl
theorem kt_1450 : Cond.methodLink "GuideDeskModel" (342 : Nat) ({ cls := "GuideDeskModel", name := "areOne", desc := "(II)Z" } : Jvm.MethodName) ∈ TB := TB_of (sub_7 _ (List.mem_of_getElem? (i := 10) rfl)) rfl
theorem kt_1452 : Cond.instanceMethod ({ cls := "GuideDeskModel", name := "areOne", desc := "(II)Z" } : Jvm.MethodName) ∈ TB := TB_of (sub_7 _ (List.mem_of_getElem? (i := 12) rfl)) rfl
theorem kt_1453 : Cond.code ({ cls := "GuideDeskModel", name := "areOne", desc := "(II)Z" } : Jvm.MethodName) prog_14_method_39_code (3 : Nat) (Option.some Jvm.ClassFile.FieldType.boolean) ∈ TB := TB_of (sub_7 _ (List.mem_of_getElem? (i := 13) rfl)) rfl
theorem kt_1454 : Cond.methodLink "GuideDeskModel" (349 : Nat) ({ cls := "GuideDeskModel", name := "value", desc := "(III)I" } : Jvm.MethodName) ∈ TB := TB_of (sub_7 _ (List.mem_of_getElem? (i := 14) rfl)) rfl
theorem kt_1456 : Cond.instanceMethod ({ cls := "GuideDeskModel", name := "value", desc := "(III)I" } : Jvm.MethodName) ∈ TB := TB_of (sub_7 _ (List.mem_of_getElem? (i := 16) rfl)) rfl
theorem kt_1457 : Cond.code ({ cls := "GuideDeskModel", name := "value", desc := "(III)I" } : Jvm.MethodName) prog_14_method_43_code (8 : Nat) (Option.some Jvm.ClassFile.FieldType.int) ∈ TB := TB_of (sub_7 _ (List.mem_of_getElem? (i := 17) rfl)) rfl
theorem kt_1458 : Cond.methodLink "GuideDeskModel" (338 : Nat) ({ cls := "GuideDeskModel", name := "variable", desc := "(II)I" } : Jvm.MethodName) ∈ TB := TB_of (sub_7 _ (List.mem_of_getElem? (i := 18) rfl)) rfl
theorem kt_1460 : Cond.instanceMethod ({ cls := "GuideDeskModel", name := "variable", desc := "(II)I" } : Jvm.MethodName) ∈ TB := TB_of (sub_7 _ (List.mem_of_getElem? (i := 20) rfl)) rfl
theorem kt_1461 : Cond.code ({ cls := "GuideDeskModel", name := "variable", desc := "(II)I" } : Jvm.MethodName) prog_14_method_42_code (4 : Nat) (Option.some Jvm.ClassFile.FieldType.int) ∈ TB := TB_of (sub_7 _ (List.mem_of_getElem? (i := 21) rfl)) rfl
theorem kt_1465 : Cond.code ({ cls := "GuideDeskModel", name := "holds", desc := "(III)I" } : Jvm.MethodName) prog_14_method_50_code (4 : Nat) (Option.some Jvm.ClassFile.FieldType.int) ∈ TB := TB_of (sub_7 _ (List.mem_of_getElem? (i := 25) rfl)) rfl
theorem kt_1469 : Cond.code ({ cls := "GuideDeskModel", name := "plan", desc := "(I)I" } : Jvm.MethodName) prog_14_method_57_code (7 : Nat) (Option.some Jvm.ClassFile.FieldType.int) ∈ TB := TB_of (sub_7 _ (List.mem_of_getElem? (i := 29) rfl)) rfl
theorem kt_1470 : Cond.methodLink "GuideDeskModel" (379 : Nat) ({ cls := "GuideDeskModel", name := "begins", desc := "()V" } : Jvm.MethodName) ∈ TB := TB_of (sub_7 _ (List.mem_of_getElem? (i := 30) rfl)) rfl
theorem kt_1472 : Cond.instanceMethod ({ cls := "GuideDeskModel", name := "begins", desc := "()V" } : Jvm.MethodName) ∈ TB := TB_of (sub_7 _ (List.mem_of_getElem? (i := 32) rfl)) rfl
theorem kt_1473 : Cond.code ({ cls := "GuideDeskModel", name := "begins", desc := "()V" } : Jvm.MethodName) prog_14_method_51_code (2 : Nat) (Option.none : Option Jvm.ClassFile.FieldType) ∈ TB := TB_of (sub_7 _ (List.mem_of_getElem? (i := 33) rfl)) rfl
theorem kt_1474 : Cond.methodLink "GuideDeskModel" (382 : Nat) ({ cls := "GuideDeskModel", name := "finds", desc := "()I" } : Jvm.MethodName) ∈ TB := TB_of (sub_7 _ (List.mem_of_getElem? (i := 34) rfl)) rfl
theorem kt_1476 : Cond.instanceMethod ({ cls := "GuideDeskModel", name := "finds", desc := "()I" } : Jvm.MethodName) ∈ TB := TB_of (sub_7 _ (List.mem_of_getElem? (i := 36) rfl)) rfl
theorem kt_1477 : Cond.code ({ cls := "GuideDeskModel", name := "finds", desc := "()I" } : Jvm.MethodName) prog_14_method_58_code (9 : Nat) (Option.some Jvm.ClassFile.FieldType.int) ∈ TB := TB_of (sub_7 _ (List.mem_of_getElem? (i := 37) rfl)) rfl
theorem kt_1478 : Cond.methodLink "GuideDeskModel" (373 : Nat) ({ cls := "GuideDeskModel", name := "roomOf", desc := "(I)I" } : Jvm.MethodName) ∈ TB := TB_of (sub_7 _ (List.mem_of_getElem? (i := 38) rfl)) rfl
theorem kt_1480 : Cond.instanceMethod ({ cls := "GuideDeskModel", name := "roomOf", desc := "(I)I" } : Jvm.MethodName) ∈ TB := TB_of (sub_7 _ (List.mem_of_getElem? (i := 40) rfl)) rfl
theorem kt_1481 : Cond.code ({ cls := "GuideDeskModel", name := "roomOf", desc := "(I)I" } : Jvm.MethodName) prog_14_method_54_code (4 : Nat) (Option.some Jvm.ClassFile.FieldType.int) ∈ TB := TB_of (sub_7 _ (List.mem_of_getElem? (i := 41) rfl)) rfl
theorem kt_1482 : Cond.methodLink "GuideDeskModel" (392 : Nat) ({ cls := "GuideDeskModel", name := "isPlan", desc := "(I)Z" } : Jvm.MethodName) ∈ TB := TB_of (sub_7 _ (List.mem_of_getElem? (i := 42) rfl)) rfl
theorem kt_1484 : Cond.instanceMethod ({ cls := "GuideDeskModel", name := "isPlan", desc := "(I)Z" } : Jvm.MethodName) ∈ TB := TB_of (sub_7 _ (List.mem_of_getElem? (i := 44) rfl)) rfl
theorem kt_1485 : Cond.code ({ cls := "GuideDeskModel", name := "isPlan", desc := "(I)Z" } : Jvm.MethodName) prog_14_method_56_code (4 : Nat) (Option.some Jvm.ClassFile.FieldType.boolean) ∈ TB := TB_of (sub_7 _ (List.mem_of_getElem? (i := 45) rfl)) rfl
theorem kt_1486 : Cond.methodLink "GuideDeskModel" (370 : Nat) ({ cls := "GuideDeskModel", name := "areAlike", desc := "(II)Z" } : Jvm.MethodName) ∈ TB := TB_of (sub_7 _ (List.mem_of_getElem? (i := 46) rfl)) rfl
theorem kt_1488 : Cond.instanceMethod ({ cls := "GuideDeskModel", name := "areAlike", desc := "(II)Z" } : Jvm.MethodName) ∈ TB := TB_of (sub_7 _ (List.mem_of_getElem? (i := 48) rfl)) rfl
theorem kt_1489 : Cond.code ({ cls := "GuideDeskModel", name := "areAlike", desc := "(II)Z" } : Jvm.MethodName) prog_14_method_53_code (3 : Nat) (Option.some Jvm.ClassFile.FieldType.boolean) ∈ TB := TB_of (sub_7 _ (List.mem_of_getElem? (i := 49) rfl)) rfl
theorem kt_1490 : Cond.methodLink "GuideDeskModel" (376 : Nat) ({ cls := "GuideDeskModel", name := "isThin", desc := "(I)Z" } : Jvm.MethodName) ∈ TB := TB_of (sub_7 _ (List.mem_of_getElem? (i := 50) rfl)) rfl
theorem kt_1492 : Cond.instanceMethod ({ cls := "GuideDeskModel", name := "isThin", desc := "(I)Z" } : Jvm.MethodName) ∈ TB := TB_of (sub_7 _ (List.mem_of_getElem? (i := 52) rfl)) rfl
theorem kt_1493 : Cond.code ({ cls := "GuideDeskModel", name := "isThin", desc := "(I)Z" } : Jvm.MethodName) prog_14_method_55_code (5 : Nat) (Option.some Jvm.ClassFile.FieldType.boolean) ∈ TB := TB_of (sub_7 _ (List.mem_of_getElem? (i := 53) rfl)) rfl
theorem kt_1494 : Cond.methodLink "GuideDeskModel" (389 : Nat) ({ cls := "GuideDeskModel", name := "reasons", desc := "(I)V" } : Jvm.MethodName) ∈ TB := TB_of (sub_7 _ (List.mem_of_getElem? (i := 54) rfl)) rfl
theorem kt_1496 : Cond.instanceMethod ({ cls := "GuideDeskModel", name := "reasons", desc := "(I)V" } : Jvm.MethodName) ∈ TB := TB_of (sub_7 _ (List.mem_of_getElem? (i := 56) rfl)) rfl
theorem kt_1497 : Cond.code ({ cls := "GuideDeskModel", name := "reasons", desc := "(I)V" } : Jvm.MethodName) prog_14_method_59_code (3 : Nat) (Option.none : Option Jvm.ClassFile.FieldType) ∈ TB := TB_of (sub_7 _ (List.mem_of_getElem? (i := 57) rfl)) rfl
theorem kt_1498 : Cond.methodLink "GuideDeskModel" (395 : Nat) ({ cls := "GuideDeskModel", name := "meet", desc := "(II)Z" } : Jvm.MethodName) ∈ TB := TB_of (sub_7 _ (List.mem_of_getElem? (i := 58) rfl)) rfl
theorem kt_1500 : Cond.instanceMethod ({ cls := "GuideDeskModel", name := "meet", desc := "(II)Z" } : Jvm.MethodName) ∈ TB := TB_of (sub_7 _ (List.mem_of_getElem? (i := 60) rfl)) rfl
theorem kt_1501 : Cond.code ({ cls := "GuideDeskModel", name := "meet", desc := "(II)Z" } : Jvm.MethodName) prog_14_method_52_code (3 : Nat) (Option.some Jvm.ClassFile.FieldType.boolean) ∈ TB := TB_of (sub_7 _ (List.mem_of_getElem? (i := 61) rfl)) rfl
theorem kt_1505 : Cond.code ({ cls := "GuideDeskModel", name := "candidate", desc := "(II)I" } : Jvm.MethodName) prog_14_method_60_code (3 : Nat) (Option.some Jvm.ClassFile.FieldType.int) ∈ TB := TB_of (sub_7 _ (List.mem_of_getElem? (i := 65) rfl)) rfl
theorem kt_1509 : Cond.code ({ cls := "GuideDeskModel", name := "count", desc := "(I)I" } : Jvm.MethodName) prog_14_method_61_code (4 : Nat) (Option.some Jvm.ClassFile.FieldType.int) ∈ TB := TB_of (sub_7 _ (List.mem_of_getElem? (i := 69) rfl)) rfl
theorem kp_0 : Cond.selects "GuideDesk$WishReader" ⟨"GuideDesk$WishReader", "startOver", "()V"⟩ ⟨"GuideDesk$WishReader", "startOver", "()V"⟩ ∈ TB := TB_of (psub_1 (⟨"GuideDesk$WishReader", "startOver", "()V"⟩, 10) (List.mem_of_getElem? (i := 0) rfl)) rfl
theorem kp_1 : Cond.selects "GuideDesk$Tape" ⟨"GuideDesk$Tape", "byteAt", "(I)I"⟩ ⟨"GuideDesk$Tape", "byteAt", "(I)I"⟩ ∈ TB := TB_of (psub_1 (⟨"GuideDesk$Tape", "byteAt", "(I)I"⟩, 6) (List.mem_of_getElem? (i := 1) rfl)) rfl
theorem kp_2 : Cond.selects "GuideDesk$Tape" ⟨"GuideDesk$Tape", "scanWord", "()V"⟩ ⟨"GuideDesk$Tape", "scanWord", "()V"⟩ ∈ TB := TB_of (psub_1 (⟨"GuideDesk$Tape", "scanWord", "()V"⟩, 6) (List.mem_of_getElem? (i := 2) rfl)) rfl
theorem kp_3 : Cond.selects "GuideDesk$Tape" ⟨"GuideDesk$Tape", "kindOfWord", "()I"⟩ ⟨"GuideDesk$Tape", "kindOfWord", "()I"⟩ ∈ TB := TB_of (psub_1 (⟨"GuideDesk$Tape", "kindOfWord", "()I"⟩, 6) (List.mem_of_getElem? (i := 3) rfl)) rfl
theorem kp_4 : Cond.selects "GuideDesk$Tape" ⟨"GuideDesk$Tape", "spells", "(Ljava/lang/String;)Z"⟩ ⟨"GuideDesk$Tape", "spells", "(Ljava/lang/String;)Z"⟩ ∈ TB := TB_of (psub_1 (⟨"GuideDesk$Tape", "spells", "(Ljava/lang/String;)Z"⟩, 6) (List.mem_of_getElem? (i := 4) rfl)) rfl
theorem kp_5 : Cond.selects "GuideDesk$Tape" ⟨"GuideDesk$Tape", "scanInt", "()V"⟩ ⟨"GuideDesk$Tape", "scanInt", "()V"⟩ ∈ TB := TB_of (psub_1 (⟨"GuideDesk$Tape", "scanInt", "()V"⟩, 6) (List.mem_of_getElem? (i := 5) rfl)) rfl
theorem kp_6 : Cond.selects "GuideDesk$Tape" ⟨"GuideDesk$Tape", "scanSign", "(I)V"⟩ ⟨"GuideDesk$Tape", "scanSign", "(I)V"⟩ ∈ TB := TB_of (psub_1 (⟨"GuideDesk$Tape", "scanSign", "(I)V"⟩, 6) (List.mem_of_getElem? (i := 6) rfl)) rfl
theorem kp_7 : Cond.selects "GuideDesk$WishReader" ⟨"GuideDesk$WishReader", "accept", "(LGuideDesk$Tape;LGuideDesk$Wishes;)V"⟩ ⟨"GuideDesk$WishReader", "accept", "(LGuideDesk$Tape;LGuideDesk$Wishes;)V"⟩ ∈ TB := TB_of (psub_1 (⟨"GuideDesk$WishReader", "accept", "(LGuideDesk$Tape;LGuideDesk$Wishes;)V"⟩, 10) (List.mem_of_getElem? (i := 7) rfl)) rfl
theorem kp_8 : Cond.selects "GuideDesk$WishReader" ⟨"GuideDesk$WishReader", "goesOnWith", "(I)Z"⟩ ⟨"GuideDesk$WishReader", "goesOnWith", "(I)Z"⟩ ∈ TB := TB_of (psub_1 (⟨"GuideDesk$WishReader", "goesOnWith", "(I)Z"⟩, 10) (List.mem_of_getElem? (i := 8) rfl)) rfl
theorem kp_9 : Cond.selects "GuideDesk$WishReader" ⟨"GuideDesk$WishReader", "followsOperand", "(I)Z"⟩ ⟨"GuideDesk$WishReader", "followsOperand", "(I)Z"⟩ ∈ TB := TB_of (psub_1 (⟨"GuideDesk$WishReader", "followsOperand", "(I)Z"⟩, 10) (List.mem_of_getElem? (i := 9) rfl)) rfl
theorem kp_10 : Cond.selects "GuideDesk$WishReader" ⟨"GuideDesk$WishReader", "fail", "(II)V"⟩ ⟨"GuideDesk$WishReader", "fail", "(II)V"⟩ ∈ TB := TB_of (psub_1 (⟨"GuideDesk$WishReader", "fail", "(II)V"⟩, 10) (List.mem_of_getElem? (i := 10) rfl)) rfl
theorem kp_11 : Cond.selects "GuideDesk$WishReader" ⟨"GuideDesk$WishReader", "isTooMuch", "(ILGuideDesk$Wishes;)Z"⟩ ⟨"GuideDesk$WishReader", "isTooMuch", "(ILGuideDesk$Wishes;)Z"⟩ ∈ TB := TB_of (psub_1 (⟨"GuideDesk$WishReader", "isTooMuch", "(ILGuideDesk$Wishes;)Z"⟩, 10) (List.mem_of_getElem? (i := 11) rfl)) rfl
theorem kp_12 : Cond.selects "GuideDesk$WishReader" ⟨"GuideDesk$WishReader", "take", "(LGuideDesk$Tape;LGuideDesk$Wishes;)V"⟩ ⟨"GuideDesk$WishReader", "take", "(LGuideDesk$Tape;LGuideDesk$Wishes;)V"⟩ ∈ TB := TB_of (psub_1 (⟨"GuideDesk$WishReader", "take", "(LGuideDesk$Tape;LGuideDesk$Wishes;)V"⟩, 10) (List.mem_of_getElem? (i := 12) rfl)) rfl
theorem kp_13 : Cond.selects "GuideDesk$WishReader" ⟨"GuideDesk$WishReader", "takeAmount", "(LGuideDesk$Tape;)V"⟩ ⟨"GuideDesk$WishReader", "takeAmount", "(LGuideDesk$Tape;)V"⟩ ∈ TB := TB_of (psub_1 (⟨"GuideDesk$WishReader", "takeAmount", "(LGuideDesk$Tape;)V"⟩, 10) (List.mem_of_getElem? (i := 13) rfl)) rfl
theorem kp_14 : Cond.selects "GuideDesk$WishReader" ⟨"GuideDesk$WishReader", "takeOperand", "(LGuideDesk$Tape;LGuideDesk$Wishes;)V"⟩ ⟨"GuideDesk$WishReader", "takeOperand", "(LGuideDesk$Tape;LGuideDesk$Wishes;)V"⟩ ∈ TB := TB_of (psub_1 (⟨"GuideDesk$WishReader", "takeOperand", "(LGuideDesk$Tape;LGuideDesk$Wishes;)V"⟩, 10) (List.mem_of_getElem? (i := 14) rfl)) rfl
theorem kp_15 : Cond.selects "GuideDesk$WishReader" ⟨"GuideDesk$WishReader", "putOff", "(I)V"⟩ ⟨"GuideDesk$WishReader", "putOff", "(I)V"⟩ ∈ TB := TB_of (psub_1 (⟨"GuideDesk$WishReader", "putOff", "(I)V"⟩, 10) (List.mem_of_getElem? (i := 15) rfl)) rfl
theorem kp_16 : Cond.selects "GuideDesk$WishReader" ⟨"GuideDesk$WishReader", "takeOperator", "(ILGuideDesk$Wishes;)V"⟩ ⟨"GuideDesk$WishReader", "takeOperator", "(ILGuideDesk$Wishes;)V"⟩ ∈ TB := TB_of (psub_2 (⟨"GuideDesk$WishReader", "takeOperator", "(ILGuideDesk$Wishes;)V"⟩, 10) (List.mem_of_getElem? (i := 0) rfl)) rfl
theorem kp_17 : Cond.selects "GuideDesk$WishReader" ⟨"GuideDesk$WishReader", "writeTighter", "(ILGuideDesk$Wishes;)V"⟩ ⟨"GuideDesk$WishReader", "writeTighter", "(ILGuideDesk$Wishes;)V"⟩ ∈ TB := TB_of (psub_2 (⟨"GuideDesk$WishReader", "writeTighter", "(ILGuideDesk$Wishes;)V"⟩, 10) (List.mem_of_getElem? (i := 1) rfl)) rfl
theorem kp_18 : Cond.selects "GuideDesk$Day" ⟨"GuideDesk$Day", "layNotices", "(LGuideDesk$Ledger;)V"⟩ ⟨"GuideDesk$Day", "layNotices", "(LGuideDesk$Ledger;)V"⟩ ∈ TB := TB_of (psub_2 (⟨"GuideDesk$Day", "layNotices", "(LGuideDesk$Ledger;)V"⟩, 7) (List.mem_of_getElem? (i := 2) rfl)) rfl
theorem kp_19 : Cond.selects "GuideDesk$Day" ⟨"GuideDesk$Day", "pushByOvers", "(LGuideDesk$Ledger;)V"⟩ ⟨"GuideDesk$Day", "pushByOvers", "(LGuideDesk$Ledger;)V"⟩ ∈ TB := TB_of (psub_2 (⟨"GuideDesk$Day", "pushByOvers", "(LGuideDesk$Ledger;)V"⟩, 7) (List.mem_of_getElem? (i := 3) rfl)) rfl
theorem kp_20 : Cond.selects "GuideDesk$Day" ⟨"GuideDesk$Day", "pushByOver", "(LGuideDesk$Ledger;[ILGuideDesk$Fact;)V"⟩ ⟨"GuideDesk$Day", "pushByOver", "(LGuideDesk$Ledger;[ILGuideDesk$Fact;)V"⟩ ∈ TB := TB_of (psub_2 (⟨"GuideDesk$Day", "pushByOver", "(LGuideDesk$Ledger;[ILGuideDesk$Fact;)V"⟩, 7) (List.mem_of_getElem? (i := 4) rfl)) rfl
theorem kp_21 : Cond.selects "GuideDesk$Day" ⟨"GuideDesk$Day", "collectShowings", "(LGuideDesk$Ledger;)V"⟩ ⟨"GuideDesk$Day", "collectShowings", "(LGuideDesk$Ledger;)V"⟩ ∈ TB := TB_of (psub_2 (⟨"GuideDesk$Day", "collectShowings", "(LGuideDesk$Ledger;)V"⟩, 7) (List.mem_of_getElem? (i := 5) rfl)) rfl
theorem kp_22 : Cond.selects "GuideDesk$Day" ⟨"GuideDesk$Day", "addShowing", "(ILGuideDesk$Fact;II)V"⟩ ⟨"GuideDesk$Day", "addShowing", "(ILGuideDesk$Fact;II)V"⟩ ∈ TB := TB_of (psub_2 (⟨"GuideDesk$Day", "addShowing", "(ILGuideDesk$Fact;II)V"⟩, 7) (List.mem_of_getElem? (i := 6) rfl)) rfl
theorem kp_23 : Cond.selects "GuideDesk$Day" ⟨"GuideDesk$Day", "leastOneOf", "(LGuideDesk$Showing;)I"⟩ ⟨"GuideDesk$Day", "leastOneOf", "(LGuideDesk$Showing;)I"⟩ ∈ TB := TB_of (psub_2 (⟨"GuideDesk$Day", "leastOneOf", "(LGuideDesk$Showing;)I"⟩, 7) (List.mem_of_getElem? (i := 7) rfl)) rfl
theorem kp_24 : Cond.selects "GuideDesk" ⟨"GuideDesk", "findShowing", "(II)LGuideDesk$Showing;"⟩ ⟨"GuideDesk", "findShowing", "(II)LGuideDesk$Showing;"⟩ ∈ TB := TB_of (psub_2 (⟨"GuideDesk", "findShowing", "(II)LGuideDesk$Showing;"⟩, 9) (List.mem_of_getElem? (i := 8) rfl)) rfl
theorem kp_25 : Cond.selects "GuideDesk$Plan" ⟨"GuideDesk$Plan", "hasUnderWay", "(LGuideDesk$Candidate;I)Z"⟩ ⟨"GuideDesk$Plan", "hasUnderWay", "(LGuideDesk$Candidate;I)Z"⟩ ∈ TB := TB_of (psub_2 (⟨"GuideDesk$Plan", "hasUnderWay", "(LGuideDesk$Candidate;I)Z"⟩, 6) (List.mem_of_getElem? (i := 9) rfl)) rfl
theorem kp_26 : Cond.selects "GuideDesk$Plan" ⟨"GuideDesk$Plan", "markEarlier", "(LGuideDesk$Candidate;I)V"⟩ ⟨"GuideDesk$Plan", "markEarlier", "(LGuideDesk$Candidate;I)V"⟩ ∈ TB := TB_of (psub_2 (⟨"GuideDesk$Plan", "markEarlier", "(LGuideDesk$Candidate;I)V"⟩, 6) (List.mem_of_getElem? (i := 10) rfl)) rfl
theorem kp_27 : Cond.selects "GuideDesk$Recorder" ⟨"GuideDesk$Recorder", "search", "(LGuideDesk$Plan;I)V"⟩ ⟨"GuideDesk$Recorder", "search", "(LGuideDesk$Plan;I)V"⟩ ∈ TB := TB_of (psub_2 (⟨"GuideDesk$Recorder", "search", "(LGuideDesk$Plan;I)V"⟩, 13) (List.mem_of_getElem? (i := 11) rfl)) rfl
theorem kp_28 : Cond.selects "GuideDesk$Recorder" ⟨"GuideDesk$Recorder", "canBeatBest", "(LGuideDesk$Candidate;)Z"⟩ ⟨"GuideDesk$Recorder", "canBeatBest", "(LGuideDesk$Candidate;)Z"⟩ ∈ TB := TB_of (psub_2 (⟨"GuideDesk$Recorder", "canBeatBest", "(LGuideDesk$Candidate;)Z"⟩, 13) (List.mem_of_getElem? (i := 12) rfl)) rfl
theorem kp_29 : Cond.selects "GuideDesk$Recorder" ⟨"GuideDesk$Recorder", "keepAsBest", "()V"⟩ ⟨"GuideDesk$Recorder", "keepAsBest", "()V"⟩ ∈ TB := TB_of (psub_2 (⟨"GuideDesk$Recorder", "keepAsBest", "()V"⟩, 13) (List.mem_of_getElem? (i := 13) rfl)) rfl
theorem kp_30 : Cond.selects "GuideDesk$Recorder" ⟨"GuideDesk$Recorder", "canAdd", "(LGuideDesk$Candidate;)Z"⟩ ⟨"GuideDesk$Recorder", "canAdd", "(LGuideDesk$Candidate;)Z"⟩ ∈ TB := TB_of (psub_2 (⟨"GuideDesk$Recorder", "canAdd", "(LGuideDesk$Candidate;)Z"⟩, 13) (List.mem_of_getElem? (i := 14) rfl)) rfl
theorem kp_31 : Cond.selects "GuideDesk$Recorder" ⟨"GuideDesk$Recorder", "addOrDrop", "(LGuideDesk$Candidate;II)V"⟩ ⟨"GuideDesk$Recorder", "addOrDrop", "(LGuideDesk$Candidate;II)V"⟩ ∈ TB := TB_of (psub_2 (⟨"GuideDesk$Recorder", "addOrDrop", "(LGuideDesk$Candidate;II)V"⟩, 13) (List.mem_of_getElem? (i := 15) rfl)) rfl
theorem kp_32 : Cond.selects "GuideDesk$Plan" ⟨"GuideDesk$Plan", "whyNot", "(LGuideDesk$Candidate;LGuideDesk$Recorder;)I"⟩ ⟨"GuideDesk$Plan", "whyNot", "(LGuideDesk$Candidate;LGuideDesk$Recorder;)I"⟩ ∈ TB := TB_of (psub_3 (⟨"GuideDesk$Plan", "whyNot", "(LGuideDesk$Candidate;LGuideDesk$Recorder;)I"⟩, 6) (List.mem_of_getElem? (i := 0) rfl)) rfl
theorem kp_33 : Cond.selects "GuideDesk$Plan" ⟨"GuideDesk$Plan", "memberOneWith", "(LGuideDesk$Candidate;)I"⟩ ⟨"GuideDesk$Plan", "memberOneWith", "(LGuideDesk$Candidate;)I"⟩ ∈ TB := TB_of (psub_3 (⟨"GuideDesk$Plan", "memberOneWith", "(LGuideDesk$Candidate;)I"⟩, 6) (List.mem_of_getElem? (i := 1) rfl)) rfl
theorem kp_34 : Cond.selects "GuideDesk$Plan" ⟨"GuideDesk$Plan", "isCrowdedWith", "(LGuideDesk$Candidate;I)Z"⟩ ⟨"GuideDesk$Plan", "isCrowdedWith", "(LGuideDesk$Candidate;I)Z"⟩ ∈ TB := TB_of (psub_3 (⟨"GuideDesk$Plan", "isCrowdedWith", "(LGuideDesk$Candidate;I)Z"⟩, 6) (List.mem_of_getElem? (i := 2) rfl)) rfl
theorem kp_35 : Cond.selects "GuideDesk$Plan" ⟨"GuideDesk$Plan", "membersOn", "(I)I"⟩ ⟨"GuideDesk$Plan", "membersOn", "(I)I"⟩ ∈ TB := TB_of (psub_3 (⟨"GuideDesk$Plan", "membersOn", "(I)I"⟩, 6) (List.mem_of_getElem? (i := 3) rfl)) rfl
theorem kp_36 : Cond.selects "GuideDesk$Plan" ⟨"GuideDesk$Plan", "rivalOf", "(LGuideDesk$Candidate;)I"⟩ ⟨"GuideDesk$Plan", "rivalOf", "(LGuideDesk$Candidate;)I"⟩ ∈ TB := TB_of (psub_3 (⟨"GuideDesk$Plan", "rivalOf", "(LGuideDesk$Candidate;)I"⟩, 6) (List.mem_of_getElem? (i := 4) rfl)) rfl
theorem kp_37 : Cond.selects "GuideDesk$Plan" ⟨"GuideDesk$Plan", "lightestMemberMeeting", "(LGuideDesk$Candidate;)I"⟩ ⟨"GuideDesk$Plan", "lightestMemberMeeting", "(LGuideDesk$Candidate;)I"⟩ ∈ TB := TB_of (psub_3 (⟨"GuideDesk$Plan", "lightestMemberMeeting", "(LGuideDesk$Candidate;)I"⟩, 6) (List.mem_of_getElem? (i := 5) rfl)) rfl
theorem kp_38 : Cond.selects "GuideDesk" ⟨"GuideDesk", "countInPlan", "(I)I"⟩ ⟨"GuideDesk", "countInPlan", "(I)I"⟩ ∈ TB := TB_of (psub_3 (⟨"GuideDesk", "countInPlan", "(I)I"⟩, 9) (List.mem_of_getElem? (i := 6) rfl)) rfl
theorem kp_39 : Cond.selects "GuideDeskModel" ⟨"GuideDeskModel", "put", "(I)V"⟩ ⟨"GuideDeskModel", "put", "(I)V"⟩ ∈ TB := TB_of (psub_3 (⟨"GuideDeskModel", "put", "(I)V"⟩, 82) (List.mem_of_getElem? (i := 7) rfl)) rfl
theorem kp_40 : Cond.selects "GuideDeskModel" ⟨"GuideDeskModel", "cut", "()V"⟩ ⟨"GuideDeskModel", "cut", "()V"⟩ ∈ TB := TB_of (psub_3 (⟨"GuideDeskModel", "cut", "()V"⟩, 82) (List.mem_of_getElem? (i := 8) rfl)) rfl
theorem kp_41 : Cond.selects "GuideDeskModel" ⟨"GuideDeskModel", "at", "(I)I"⟩ ⟨"GuideDeskModel", "at", "(I)I"⟩ ∈ TB := TB_of (psub_3 (⟨"GuideDeskModel", "at", "(I)I"⟩, 82) (List.mem_of_getElem? (i := 9) rfl)) rfl
theorem kp_42 : Cond.selects "GuideDeskModel" ⟨"GuideDeskModel", "token", "(IIIJ)V"⟩ ⟨"GuideDeskModel", "token", "(IIIJ)V"⟩ ∈ TB := TB_of (psub_3 (⟨"GuideDeskModel", "token", "(IIIJ)V"⟩, 82) (List.mem_of_getElem? (i := 10) rfl)) rfl
theorem kp_43 : Cond.selects "GuideDeskModel" ⟨"GuideDeskModel", "sign", "(III)I"⟩ ⟨"GuideDeskModel", "sign", "(III)I"⟩ ∈ TB := TB_of (psub_3 (⟨"GuideDeskModel", "sign", "(III)I"⟩, 82) (List.mem_of_getElem? (i := 11) rfl)) rfl
theorem kp_44 : Cond.selects "GuideDeskModel" ⟨"GuideDeskModel", "is", "(I)Z"⟩ ⟨"GuideDeskModel", "is", "(I)Z"⟩ ∈ TB := TB_of (psub_3 (⟨"GuideDeskModel", "is", "(I)Z"⟩, 82) (List.mem_of_getElem? (i := 12) rfl)) rfl
theorem kp_45 : Cond.selects "GuideDeskModel" ⟨"GuideDeskModel", "tellRule", "()V"⟩ ⟨"GuideDeskModel", "tellRule", "()V"⟩ ∈ TB := TB_of (psub_3 (⟨"GuideDeskModel", "tellRule", "()V"⟩, 82) (List.mem_of_getElem? (i := 13) rfl)) rfl
theorem kp_46 : Cond.selects "GuideDeskModel" ⟨"GuideDeskModel", "fail", "(I)V"⟩ ⟨"GuideDeskModel", "fail", "(I)V"⟩ ∈ TB := TB_of (psub_3 (⟨"GuideDeskModel", "fail", "(I)V"⟩, 82) (List.mem_of_getElem? (i := 14) rfl)) rfl
theorem kp_47 : Cond.selects "GuideDeskModel" ⟨"GuideDeskModel", "next", "()V"⟩ ⟨"GuideDeskModel", "next", "()V"⟩ ∈ TB := TB_of (psub_3 (⟨"GuideDeskModel", "next", "()V"⟩, 82) (List.mem_of_getElem? (i := 15) rfl)) rfl
theorem kp_48 : Cond.selects "GuideDeskModel" ⟨"GuideDeskModel", "must", "(I)V"⟩ ⟨"GuideDeskModel", "must", "(I)V"⟩ ∈ TB := TB_of (psub_4 (⟨"GuideDeskModel", "must", "(I)V"⟩, 82) (List.mem_of_getElem? (i := 0) rfl)) rfl
theorem kp_49 : Cond.selects "GuideDeskModel" ⟨"GuideDeskModel", "wrong", "(II)V"⟩ ⟨"GuideDeskModel", "wrong", "(II)V"⟩ ∈ TB := TB_of (psub_4 (⟨"GuideDeskModel", "wrong", "(II)V"⟩, 82) (List.mem_of_getElem? (i := 1) rfl)) rfl
theorem kp_50 : Cond.selects "GuideDeskModel" ⟨"GuideDeskModel", "literal", "(Z)V"⟩ ⟨"GuideDeskModel", "literal", "(Z)V"⟩ ∈ TB := TB_of (psub_4 (⟨"GuideDeskModel", "literal", "(Z)V"⟩, 82) (List.mem_of_getElem? (i := 2) rfl)) rfl
theorem kp_51 : Cond.selects "GuideDeskModel" ⟨"GuideDeskModel", "expression", "()V"⟩ ⟨"GuideDeskModel", "expression", "()V"⟩ ∈ TB := TB_of (psub_4 (⟨"GuideDeskModel", "expression", "()V"⟩, 82) (List.mem_of_getElem? (i := 3) rfl)) rfl
theorem kp_52 : Cond.selects "GuideDeskModel" ⟨"GuideDeskModel", "emit", "(II)V"⟩ ⟨"GuideDeskModel", "emit", "(II)V"⟩ ∈ TB := TB_of (psub_4 (⟨"GuideDeskModel", "emit", "(II)V"⟩, 82) (List.mem_of_getElem? (i := 4) rfl)) rfl
theorem kp_53 : Cond.selects "GuideDeskModel" ⟨"GuideDeskModel", "comesOut", "(Z)V"⟩ ⟨"GuideDeskModel", "comesOut", "(Z)V"⟩ ∈ TB := TB_of (psub_4 (⟨"GuideDeskModel", "comesOut", "(Z)V"⟩, 82) (List.mem_of_getElem? (i := 5) rfl)) rfl
theorem kp_54 : Cond.selects "GuideDeskModel" ⟨"GuideDeskModel", "isChannel", "(I)Z"⟩ ⟨"GuideDeskModel", "isChannel", "(I)Z"⟩ ∈ TB := TB_of (psub_4 (⟨"GuideDeskModel", "isChannel", "(I)Z"⟩, 82) (List.mem_of_getElem? (i := 6) rfl)) rfl
theorem kp_55 : Cond.selects "GuideDeskModel" ⟨"GuideDeskModel", "isKnown", "(I)Z"⟩ ⟨"GuideDeskModel", "isKnown", "(I)Z"⟩ ∈ TB := TB_of (psub_4 (⟨"GuideDeskModel", "isKnown", "(I)Z"⟩, 82) (List.mem_of_getElem? (i := 7) rfl)) rfl
theorem kp_56 : Cond.selects "GuideDeskModel" ⟨"GuideDeskModel", "makes", "(I)V"⟩ ⟨"GuideDeskModel", "makes", "(I)V"⟩ ∈ TB := TB_of (psub_4 (⟨"GuideDeskModel", "makes", "(I)V"⟩, 82) (List.mem_of_getElem? (i := 8) rfl)) rfl
theorem kp_57 : Cond.selects "GuideDeskModel" ⟨"GuideDeskModel", "hears", "(III)V"⟩ ⟨"GuideDeskModel", "hears", "(III)V"⟩ ∈ TB := TB_of (psub_4 (⟨"GuideDeskModel", "hears", "(III)V"⟩, 82) (List.mem_of_getElem? (i := 9) rfl)) rfl
theorem kp_58 : Cond.selects "GuideDeskModel" ⟨"GuideDeskModel", "pushes", "(III)V"⟩ ⟨"GuideDeskModel", "pushes", "(III)V"⟩ ∈ TB := TB_of (psub_4 (⟨"GuideDeskModel", "pushes", "(III)V"⟩, 82) (List.mem_of_getElem? (i := 10) rfl)) rfl
theorem kp_59 : Cond.selects "GuideDeskModel" ⟨"GuideDeskModel", "shows", "()V"⟩ ⟨"GuideDeskModel", "shows", "()V"⟩ ∈ TB := TB_of (psub_4 (⟨"GuideDeskModel", "shows", "()V"⟩, 82) (List.mem_of_getElem? (i := 11) rfl)) rfl
theorem kp_60 : Cond.selects "GuideDeskModel" ⟨"GuideDeskModel", "weightOf", "(I)I"⟩ ⟨"GuideDeskModel", "weightOf", "(I)I"⟩ ∈ TB := TB_of (psub_4 (⟨"GuideDeskModel", "weightOf", "(I)I"⟩, 82) (List.mem_of_getElem? (i := 12) rfl)) rfl
theorem kp_61 : Cond.selects "GuideDeskModel" ⟨"GuideDeskModel", "isHeld", "(II)Z"⟩ ⟨"GuideDeskModel", "isHeld", "(II)Z"⟩ ∈ TB := TB_of (psub_4 (⟨"GuideDeskModel", "isHeld", "(II)Z"⟩, 82) (List.mem_of_getElem? (i := 13) rfl)) rfl
theorem kp_62 : Cond.selects "GuideDeskModel" ⟨"GuideDeskModel", "isTrue", "(II)Z"⟩ ⟨"GuideDeskModel", "isTrue", "(II)Z"⟩ ∈ TB := TB_of (psub_4 (⟨"GuideDeskModel", "isTrue", "(II)Z"⟩, 82) (List.mem_of_getElem? (i := 14) rfl)) rfl
theorem kp_63 : Cond.selects "GuideDeskModel" ⟨"GuideDeskModel", "leastOne", "(I)I"⟩ ⟨"GuideDeskModel", "leastOne", "(I)I"⟩ ∈ TB := TB_of (psub_4 (⟨"GuideDeskModel", "leastOne", "(I)I"⟩, 82) (List.mem_of_getElem? (i := 15) rfl)) rfl
theorem kp_64 : Cond.selects "GuideDeskModel" ⟨"GuideDeskModel", "areOne", "(II)Z"⟩ ⟨"GuideDeskModel", "areOne", "(II)Z"⟩ ∈ TB := TB_of (psub_5 (⟨"GuideDeskModel", "areOne", "(II)Z"⟩, 82) (List.mem_of_getElem? (i := 0) rfl)) rfl
theorem kp_65 : Cond.selects "GuideDeskModel" ⟨"GuideDeskModel", "value", "(III)I"⟩ ⟨"GuideDeskModel", "value", "(III)I"⟩ ∈ TB := TB_of (psub_5 (⟨"GuideDeskModel", "value", "(III)I"⟩, 82) (List.mem_of_getElem? (i := 1) rfl)) rfl
theorem kp_66 : Cond.selects "GuideDeskModel" ⟨"GuideDeskModel", "variable", "(II)I"⟩ ⟨"GuideDeskModel", "variable", "(II)I"⟩ ∈ TB := TB_of (psub_5 (⟨"GuideDeskModel", "variable", "(II)I"⟩, 82) (List.mem_of_getElem? (i := 2) rfl)) rfl
theorem kp_67 : Cond.selects "GuideDeskModel" ⟨"GuideDeskModel", "begins", "()V"⟩ ⟨"GuideDeskModel", "begins", "()V"⟩ ∈ TB := TB_of (psub_5 (⟨"GuideDeskModel", "begins", "()V"⟩, 82) (List.mem_of_getElem? (i := 3) rfl)) rfl
theorem kp_68 : Cond.selects "GuideDeskModel" ⟨"GuideDeskModel", "finds", "()I"⟩ ⟨"GuideDeskModel", "finds", "()I"⟩ ∈ TB := TB_of (psub_5 (⟨"GuideDeskModel", "finds", "()I"⟩, 82) (List.mem_of_getElem? (i := 4) rfl)) rfl
theorem kp_69 : Cond.selects "GuideDeskModel" ⟨"GuideDeskModel", "roomOf", "(I)I"⟩ ⟨"GuideDeskModel", "roomOf", "(I)I"⟩ ∈ TB := TB_of (psub_5 (⟨"GuideDeskModel", "roomOf", "(I)I"⟩, 82) (List.mem_of_getElem? (i := 5) rfl)) rfl
theorem kp_70 : Cond.selects "GuideDeskModel" ⟨"GuideDeskModel", "isPlan", "(I)Z"⟩ ⟨"GuideDeskModel", "isPlan", "(I)Z"⟩ ∈ TB := TB_of (psub_5 (⟨"GuideDeskModel", "isPlan", "(I)Z"⟩, 82) (List.mem_of_getElem? (i := 6) rfl)) rfl
theorem kp_71 : Cond.selects "GuideDeskModel" ⟨"GuideDeskModel", "areAlike", "(II)Z"⟩ ⟨"GuideDeskModel", "areAlike", "(II)Z"⟩ ∈ TB := TB_of (psub_5 (⟨"GuideDeskModel", "areAlike", "(II)Z"⟩, 82) (List.mem_of_getElem? (i := 7) rfl)) rfl
theorem kp_72 : Cond.selects "GuideDeskModel" ⟨"GuideDeskModel", "isThin", "(I)Z"⟩ ⟨"GuideDeskModel", "isThin", "(I)Z"⟩ ∈ TB := TB_of (psub_5 (⟨"GuideDeskModel", "isThin", "(I)Z"⟩, 82) (List.mem_of_getElem? (i := 8) rfl)) rfl
theorem kp_73 : Cond.selects "GuideDeskModel" ⟨"GuideDeskModel", "reasons", "(I)V"⟩ ⟨"GuideDeskModel", "reasons", "(I)V"⟩ ∈ TB := TB_of (psub_5 (⟨"GuideDeskModel", "reasons", "(I)V"⟩, 82) (List.mem_of_getElem? (i := 9) rfl)) rfl
theorem kp_74 : Cond.selects "GuideDeskModel" ⟨"GuideDeskModel", "meet", "(II)Z"⟩ ⟨"GuideDeskModel", "meet", "(II)Z"⟩ ∈ TB := TB_of (psub_5 (⟨"GuideDeskModel", "meet", "(II)Z"⟩, 82) (List.mem_of_getElem? (i := 10) rfl)) rfl
theorem inT0 : ∀ w ∈ u_ws RX0 TX0 18, w ∈ TB := TB_ws inX0 (by decide +kernel)
theorem mCl_0 : mCl 0 RX0 TX0 18 := ⟨by decide, rfl, rfl, inT0, tyX0_ok, nmX0⟩
theorem mDf_0 : ∀ j, j < 18 → defaultValue (mFt 0 j) = if mIsR (mFt 0 j) = true then .null else .int 0 := by decide +kernel
theorem inT1 : ∀ w ∈ u_ws RX1 TX1 7, w ∈ TB := TB_ws inX1 (by decide +kernel)
theorem mCl_1 : mCl 1 RX1 TX1 7 := ⟨by decide, rfl, rfl, inT1, tyX1_ok, nmX1⟩
theorem mDf_1 : ∀ j, j < 7 → defaultValue (mFt 1 j) = if mIsR (mFt 1 j) = true then .null else .int 0 := by decide +kernel
theorem inT2 : ∀ w ∈ u_ws RX2 TX2 7, w ∈ TB := TB_ws inX2 (by decide +kernel)
theorem mCl_2 : mCl 2 RX2 TX2 7 := ⟨by decide, rfl, rfl, inT2, tyX2_ok, nmX2⟩
theorem mDf_2 : ∀ j, j < 7 → defaultValue (mFt 2 j) = if mIsR (mFt 2 j) = true then .null else .int 0 := by decide +kernel
theorem inT3 : ∀ w ∈ u_ws RX3 TX3 6, w ∈ TB := TB_ws inX3 (by decide +kernel)
theorem mCl_3 : mCl 3 RX3 TX3 6 := ⟨by decide, rfl, rfl, inT3, tyX3_ok, nmX3⟩
theorem mDf_3 : ∀ j, j < 6 → defaultValue (mFt 3 j) = if mIsR (mFt 3 j) = true then .null else .int 0 := by decide +kernel
theorem inT4 : ∀ w ∈ u_ws RX4 TX4 6, w ∈ TB := TB_ws inX4 (by decide +kernel)
theorem mCl_4 : mCl 4 RX4 TX4 6 := ⟨by decide, rfl, rfl, inT4, tyX4_ok, nmX4⟩
theorem mDf_4 : ∀ j, j < 6 → defaultValue (mFt 4 j) = if mIsR (mFt 4 j) = true then .null else .int 0 := by decide +kernel
theorem inT5 : ∀ w ∈ u_ws RX5 TX5 13, w ∈ TB := TB_ws inX5 (by decide +kernel)
theorem mCl_5 : mCl 5 RX5 TX5 13 := ⟨by decide, rfl, rfl, inT5, tyX5_ok, nmX5⟩
theorem mDf_5 : ∀ j, j < 13 → defaultValue (mFt 5 j) = if mIsR (mFt 5 j) = true then .null else .int 0 := by decide +kernel
theorem inT6 : ∀ w ∈ u_ws RX6 TX6 10, w ∈ TB := TB_ws inX6 (by decide +kernel)
theorem mCl_6 : mCl 6 RX6 TX6 10 := ⟨by decide, rfl, rfl, inT6, tyX6_ok, nmX6⟩
theorem mDf_6 : ∀ j, j < 10 → defaultValue (mFt 6 j) = if mIsR (mFt 6 j) = true then .null else .int 0 := by decide +kernel
theorem inT7 : ∀ w ∈ u_ws RX7 TX7 2, w ∈ TB := TB_ws inX7 (by decide +kernel)
theorem mCl_7 : mCl 7 RX7 TX7 2 := ⟨by decide, rfl, rfl, inT7, tyX7_ok, nmX7⟩
theorem mDf_7 : ∀ j, j < 2 → defaultValue (mFt 7 j) = if mIsR (mFt 7 j) = true then .null else .int 0 := by decide +kernel
theorem inT8 : ∀ w ∈ u_ws RX8 TX8 6, w ∈ TB := TB_ws inX8 (by decide +kernel)
theorem mCl_8 : mCl 8 RX8 TX8 6 := ⟨by decide, rfl, rfl, inT8, tyX8_ok, nmX8⟩
theorem mDf_8 : ∀ j, j < 6 → defaultValue (mFt 8 j) = if mIsR (mFt 8 j) = true then .null else .int 0 := by decide +kernel
theorem inT9 : ∀ w ∈ u_ws RX9 TX9 10, w ∈ TB := TB_ws inX9 (by decide +kernel)
theorem mCl_9 : mCl 9 RX9 TX9 10 := ⟨by decide, rfl, rfl, inT9, tyX9_ok, nmX9⟩
theorem mDf_9 : ∀ j, j < 10 → defaultValue (mFt 9 j) = if mIsR (mFt 9 j) = true then .null else .int 0 := by decide +kernel
theorem inT10 : ∀ w ∈ u_ws RX10 TX10 6, w ∈ TB := TB_ws inX10 (by decide +kernel)
theorem mCl_10 : mCl 10 RX10 TX10 6 := ⟨by decide, rfl, rfl, inT10, tyX10_ok, nmX10⟩
theorem mDf_10 : ∀ j, j < 6 → defaultValue (mFt 10 j) = if mIsR (mFt 10 j) = true then .null else .int 0 := by decide +kernel
theorem inT11 : ∀ w ∈ u_ws RX11 TX11 9, w ∈ TB := TB_ws inX11 (by decide +kernel)
theorem mCl_11 : mCl 11 RX11 TX11 9 := ⟨by decide, rfl, rfl, inT11, tyX11_ok, nmX11⟩
theorem mDf_11 : ∀ j, j < 9 → defaultValue (mFt 11 j) = if mIsR (mFt 11 j) = true then .null else .int 0 := by decide +kernel
theorem inT12 : ∀ w ∈ u_ws RX12 TX12 82, w ∈ TB := TB_ws inX12 (by decide +kernel)
theorem mCl_12 : mCl 12 RX12 TX12 82 := ⟨by decide, rfl, rfl, inT12, tyX12_ok, nmX12⟩
theorem mDf_12 : ∀ j, j < 82 → defaultValue (mFt 12 j) = if mIsR (mFt 12 j) = true then .null else .int 0 := by decide +kernel
theorem mt_0 : mMt mInf 0 0 := ⟨kt_834, kt_20, (by decide : 1 ≤ 45), by decide +kernel⟩
theorem mt_1 : mMt mInf 1 3 := ⟨kt_908, kt_20, (by decide : 4 ≤ 45), by decide +kernel⟩
theorem mt_2 : mMt mInf 2 0 := ⟨kt_969, kt_20, (by decide : 1 ≤ 45), by decide +kernel⟩
theorem mt_3 : mMt mInf 3 1 := ⟨kt_934, kt_20, (by decide : 2 ≤ 45), by decide +kernel⟩
theorem mt_4 : mMt mInf 4 1 := ⟨kt_1010, kt_20, (by decide : 2 ≤ 45), by decide +kernel⟩
theorem mt_5 : mMt mInf 5 1 := ⟨kt_938, kt_20, (by decide : 2 ≤ 45), by decide +kernel⟩
theorem mt_6 : mMt mInf 6 1 := ⟨kt_926, kt_20, (by decide : 2 ≤ 45), by decide +kernel⟩
theorem mt_7 : mMt mInf 7 0 := ⟨kt_68, kt_3, (by decide : 1 ≤ 45), by decide +kernel⟩
theorem mt_8 : mMt mInf 8 2 := ⟨kt_630, kt_3, (by decide : 4 ≤ 45), by decide +kernel⟩
theorem mt_9 : mMt mInf 9 2 := ⟨kt_760, kt_3, (by decide : 3 ≤ 45), by decide +kernel⟩
theorem mt_10 : mMt mInf 10 1 := ⟨kt_786, kt_3, (by decide : 2 ≤ 45), by decide +kernel⟩
theorem mt_11 : mMt mInf 11 1 := ⟨kt_806, kt_3, (by decide : 4 ≤ 45), by decide +kernel⟩
theorem mt_12 : mMt mInf 12 1 := ⟨kt_640, kt_3, (by decide : 6 ≤ 45), by decide +kernel⟩
theorem mt_13 : mMt mInf 13 3 := ⟨kt_655, kt_3, (by decide : 5 ≤ 45), by decide +kernel⟩
theorem mt_14 : mMt mInf 14 1 := ⟨kt_660, kt_3, (by decide : 4 ≤ 45), by decide +kernel⟩
theorem mt_15 : mMt mInf 15 3 := ⟨kt_668, kt_3, (by decide : 10 ≤ 45), by decide +kernel⟩
theorem mt_16 : mMt mInf 16 1 := ⟨kt_675, kt_3, (by decide : 5 ≤ 45), by decide +kernel⟩
theorem mt_17 : mMt mInf 17 2 := ⟨kt_678, kt_3, (by decide : 3 ≤ 45), by decide +kernel⟩
theorem mt_18 : mMt mInf 18 4 := ⟨kt_682, kt_3, (by decide : 6 ≤ 45), by decide +kernel⟩
theorem mt_19 : mMt mInf 19 1 := ⟨kt_756, kt_3, (by decide : 3 ≤ 45), by decide +kernel⟩
theorem mt_20 : mMt mInf 20 7 := ⟨kt_570, kt_16, (by decide : 8 ≤ 45), by decide +kernel⟩
theorem mt_21 : mMt mInf 21 0 := ⟨kt_664, kt_16, (by decide : 1 ≤ 45), by decide +kernel⟩
theorem mt_22 : mMt mInf 22 1 := ⟨kt_652, kt_16, (by decide : 2 ≤ 45), by decide +kernel⟩
theorem mt_23 : mMt mInf 23 2 := ⟨kt_774, kt_16, (by decide : 3 ≤ 45), by decide +kernel⟩
theorem mt_24 : mMt mInf 24 0 := ⟨kt_752, kt_16, (by decide : 1 ≤ 45), by decide +kernel⟩
theorem mt_25 : mMt mInf 25 0 := ⟨kt_34, kt_2, (by decide : 1 ≤ 45), by decide +kernel⟩
theorem mt_26 : mMt mInf 26 1 := ⟨kt_565, kt_2, (by decide : 2 ≤ 45), by decide +kernel⟩
theorem mt_27 : mMt mInf 27 1 := ⟨kt_626, kt_2, (by decide : 2 ≤ 45), by decide +kernel⟩
theorem mt_28 : mMt mInf 28 1 := ⟨kt_561, kt_2, (by decide : 2 ≤ 45), by decide +kernel⟩
theorem mt_29 : mMt mInf 29 1 := ⟨kt_644, kt_2, (by decide : 2 ≤ 45), by decide +kernel⟩
theorem mt_30 : mMt mInf 30 1 := ⟨kt_648, kt_2, (by decide : 2 ≤ 45), by decide +kernel⟩
theorem mt_31 : mMt mInf 31 1 := ⟨kt_534, kt_2, (by decide : 4 ≤ 45), by decide +kernel⟩
theorem mt_32 : mMt mInf 32 1 := ⟨kt_606, kt_2, (by decide : 2 ≤ 45), by decide +kernel⟩
theorem mt_33 : mMt mInf 33 4 := ⟨kt_768, kt_2, (by decide : 7 ≤ 45), by decide +kernel⟩
theorem mt_34 : mMt mInf 34 0 := ⟨kt_256, kt_8, (by decide : 1 ≤ 45), by decide +kernel⟩
theorem mt_35 : mMt mInf 35 1 := ⟨kt_918, kt_8, (by decide : 2 ≤ 45), by decide +kernel⟩
theorem mt_36 : mMt mInf 36 3 := ⟨kt_828, kt_8, (by decide : 7 ≤ 45), by decide +kernel⟩
theorem mt_37 : mMt mInf 37 2 := ⟨kt_914, kt_8, (by decide : 7 ≤ 45), by decide +kernel⟩
theorem mt_38 : mMt mInf 38 2 := ⟨kt_922, kt_8, (by decide : 5 ≤ 45), by decide +kernel⟩
theorem mt_39 : mMt mInf 39 2 := ⟨kt_930, kt_8, (by decide : 5 ≤ 45), by decide +kernel⟩
theorem mt_40 : mMt mInf 40 1 := ⟨kt_977, kt_8, (by decide : 4 ≤ 45), by decide +kernel⟩
theorem mt_41 : mMt mInf 41 1 := ⟨kt_982, kt_8, (by decide : 4 ≤ 45), by decide +kernel⟩
theorem mt_42 : mMt mInf 42 2 := ⟨kt_986, kt_8, (by decide : 3 ≤ 45), by decide +kernel⟩
theorem mt_43 : mMt mInf 43 1 := ⟨kt_1002, kt_8, (by decide : 2 ≤ 45), by decide +kernel⟩
theorem mt_44 : mMt mInf 44 1 := ⟨kt_990, kt_8, (by decide : 4 ≤ 45), by decide +kernel⟩
theorem mt_45 : mMt mInf 45 2 := ⟨kt_994, kt_8, (by decide : 5 ≤ 45), by decide +kernel⟩
theorem mt_46 : mMt mInf 46 1 := ⟨kt_998, kt_8, (by decide : 5 ≤ 45), by decide +kernel⟩
theorem mt_47 : mMt mInf 47 1 := ⟨kt_1006, kt_8, (by decide : 6 ≤ 45), by decide +kernel⟩
theorem mt_48 : mMt mInf 48 0 := ⟨kt_174, kt_6, (by decide : 1 ≤ 45), by decide +kernel⟩
theorem mt_49 : mMt mInf 49 1 := ⟨kt_942, kt_6, (by decide : 2 ≤ 45), by decide +kernel⟩
theorem mt_50 : mMt mInf 50 2 := ⟨kt_946, kt_6, (by decide : 4 ≤ 45), by decide +kernel⟩
theorem mt_51 : mMt mInf 51 1 := ⟨kt_951, kt_6, (by decide : 4 ≤ 45), by decide +kernel⟩
theorem mt_52 : mMt mInf 52 0 := ⟨kt_955, kt_6, (by decide : 1 ≤ 45), by decide +kernel⟩
theorem mt_53 : mMt mInf 53 1 := ⟨kt_959, kt_6, (by decide : 2 ≤ 45), by decide +kernel⟩
theorem mt_54 : mMt mInf 54 3 := ⟨kt_973, kt_6, (by decide : 4 ≤ 45), by decide +kernel⟩
theorem mt_55 : mMt mInf 55 0 := ⟨kt_686, kt_19, (by decide : 1 ≤ 45), by decide +kernel⟩
theorem mt_56 : mMt mInf 56 5 := ⟨kt_748, kt_19, (by decide : 6 ≤ 45), by decide +kernel⟩
theorem mt_57 : mMt mInf 57 1 := ⟨kt_811, kt_19, (by decide : 2 ≤ 45), by decide +kernel⟩
theorem mt_58 : mMt mInf 58 2 := ⟨kt_538, kt_15, (by decide : 3 ≤ 45), by decide +kernel⟩
theorem mt_59 : mMt mInf 59 1 := ⟨kt_553, kt_15, (by decide : 2 ≤ 45), by decide +kernel⟩
theorem mt_60 : mMt mInf 60 0 := ⟨kt_104, kt_4, (by decide : 1 ≤ 45), by decide +kernel⟩
theorem mt_61 : mMt mInf 61 1 := ⟨kt_319, kt_4, (by decide : 3 ≤ 45), by decide +kernel⟩
theorem mt_62 : mMt mInf 62 0 := ⟨kt_343, kt_4, (by decide : 1 ≤ 45), by decide +kernel⟩
theorem mt_63 : mMt mInf 63 0 := ⟨kt_347, kt_4, (by decide : 2 ≤ 45), by decide +kernel⟩
theorem mt_64 : mMt mInf 64 0 := ⟨kt_361, kt_4, (by decide : 1 ≤ 45), by decide +kernel⟩
theorem mt_65 : mMt mInf 65 0 := ⟨kt_438, kt_4, (by decide : 1 ≤ 45), by decide +kernel⟩
theorem mt_66 : mMt mInf 66 1 := ⟨kt_442, kt_4, (by decide : 3 ≤ 45), by decide +kernel⟩
theorem mt_67 : mMt mInf 67 1 := ⟨kt_351, kt_4, (by decide : 2 ≤ 45), by decide +kernel⟩
theorem mt_68 : mMt mInf 68 1 := ⟨kt_354, kt_4, (by decide : 1 ≤ 45), by decide +kernel⟩
theorem mt_69 : mMt mInf 69 1 := ⟨kt_357, kt_4, (by decide : 1 ≤ 45), by decide +kernel⟩
theorem mt_70 : mMt mInf 70 1 := ⟨kt_434, kt_4, (by decide : 1 ≤ 45), by decide +kernel⟩
theorem mt_71 : mMt mInf 71 1 := ⟨kt_445, kt_4, (by decide : 1 ≤ 45), by decide +kernel⟩
theorem mt_72 : mMt mInf 72 1 := ⟨kt_448, kt_4, (by decide : 1 ≤ 45), by decide +kernel⟩
theorem mt_73 : mMt mInf 73 0 := ⟨kt_365, kt_4, (by decide : 1 ≤ 45), by decide +kernel⟩
theorem mt_74 : mMt mInf 74 0 := ⟨kt_135, kt_5, (by decide : 1 ≤ 45), by decide +kernel⟩
theorem mt_75 : mMt mInf 75 2 := ⟨kt_331, kt_5, (by decide : 4 ≤ 45), by decide +kernel⟩
theorem mt_76 : mMt mInf 76 0 := ⟨kt_335, kt_5, (by decide : 1 ≤ 45), by decide +kernel⟩
theorem mt_77 : mMt mInf 77 2 := ⟨kt_476, kt_5, (by decide : 3 ≤ 45), by decide +kernel⟩
theorem mt_78 : mMt mInf 78 2 := ⟨kt_452, kt_5, (by decide : 3 ≤ 45), by decide +kernel⟩
theorem mt_79 : mMt mInf 79 1 := ⟨kt_456, kt_5, (by decide : 2 ≤ 45), by decide +kernel⟩
theorem mt_80 : mMt mInf 80 1 := ⟨kt_459, kt_5, (by decide : 1 ≤ 45), by decide +kernel⟩
theorem mt_81 : mMt mInf 81 1 := ⟨kt_462, kt_5, (by decide : 1 ≤ 45), by decide +kernel⟩
theorem mt_82 : mMt mInf 82 1 := ⟨kt_466, kt_5, (by decide : 2 ≤ 45), by decide +kernel⟩
theorem mt_83 : mMt mInf 83 1 := ⟨kt_469, kt_5, (by decide : 1 ≤ 45), by decide +kernel⟩
theorem mt_84 : mMt mInf 84 1 := ⟨kt_472, kt_5, (by decide : 1 ≤ 45), by decide +kernel⟩
theorem mt_85 : mMt mInf 85 2 := ⟨kt_480, kt_5, (by decide : 3 ≤ 45), by decide +kernel⟩
theorem mt_86 : mMt mInf 86 2 := ⟨kt_484, kt_5, (by decide : 3 ≤ 45), by decide +kernel⟩
theorem mt_87 : mMt mInf 87 1 := ⟨kt_488, kt_5, (by decide : 2 ≤ 45), by decide +kernel⟩
theorem mt_88 : mMt mInf 88 2 := ⟨kt_492, kt_5, (by decide : 3 ≤ 45), by decide +kernel⟩
theorem mt_89 : mMt mInf 89 2 := ⟨kt_504, kt_5, (by decide : 3 ≤ 45), by decide +kernel⟩
theorem mt_90 : mMt mInf 90 1 := ⟨kt_496, kt_5, (by decide : 2 ≤ 45), by decide +kernel⟩
theorem mt_91 : mMt mInf 91 2 := ⟨kt_508, kt_5, (by decide : 3 ≤ 45), by decide +kernel⟩
theorem mt_92 : mMt mInf 92 1 := ⟨kt_511, kt_5, (by decide : 1 ≤ 45), by decide +kernel⟩
theorem mt_93 : mMt mInf 93 0 := ⟨kt_229, kt_7, (by decide : 1 ≤ 45), by decide +kernel⟩
theorem mt_94 : mMt mInf 94 0 := ⟨kt_339, kt_7, (by decide : 1 ≤ 45), by decide +kernel⟩
theorem mt_95 : mMt mInf 95 1 := ⟨kt_500, kt_7, (by decide : 2 ≤ 45), by decide +kernel⟩
theorem mt_96 : mMt mInf 96 1 := ⟨kt_518, kt_7, (by decide : 2 ≤ 45), by decide +kernel⟩
theorem mt_97 : mMt mInf 97 1 := ⟨kt_790, kt_7, (by decide : 5 ≤ 45), by decide +kernel⟩
theorem mt_98 : mMt mInf 98 2 := ⟨kt_794, kt_7, (by decide : 7 ≤ 45), by decide +kernel⟩
theorem mt_99 : mMt mInf 99 2 := ⟨kt_802, kt_7, (by decide : 2 ≤ 45), by decide +kernel⟩
theorem mt_100 : mMt mInf 100 3 := ⟨kt_799, kt_7, (by decide : 3 ≤ 45), by decide +kernel⟩
theorem mt_101 : mMt mInf 101 0 := ⟨kt_26, kt_1, (by decide : 1 ≤ 45), by decide +kernel⟩
theorem mt_102 : mMt mInf 102 5 := ⟨kt_315, kt_1, (by decide : 6 ≤ 45), by decide +kernel⟩
theorem mt_103 : mMt mInf 103 1 := ⟨kt_323, kt_1, (by decide : 2 ≤ 45), by decide +kernel⟩
theorem mt_104 : mMt mInf 104 0 := ⟨kt_327, kt_1, (by decide : 2 ≤ 45), by decide +kernel⟩
theorem mt_105 : mMt mInf 105 0 := ⟨kt_522, kt_1, (by decide : 1 ≤ 45), by decide +kernel⟩
theorem mt_106 : mMt mInf 106 1 := ⟨kt_526, kt_1, (by decide : 2 ≤ 45), by decide +kernel⟩
theorem mt_107 : mMt mInf 107 1 := ⟨kt_530, kt_1, (by decide : 2 ≤ 45), by decide +kernel⟩
theorem mt_108 : mMt mInf 108 7 := ⟨kt_557, kt_1, (by decide : 9 ≤ 45), by decide +kernel⟩
theorem mt_109 : mMt mInf 109 3 := ⟨kt_610, kt_1, (by decide : 4 ≤ 45), by decide +kernel⟩
theorem mt_110 : mMt mInf 110 4 := ⟨kt_614, kt_1, (by decide : 5 ≤ 45), by decide +kernel⟩
theorem mt_111 : mMt mInf 111 1 := ⟨kt_618, kt_1, (by decide : 2 ≤ 45), by decide +kernel⟩
theorem mt_112 : mMt mInf 112 3 := ⟨kt_622, kt_1, (by decide : 4 ≤ 45), by decide +kernel⟩
theorem mt_113 : mMt mInf 113 4 := ⟨kt_764, kt_1, (by decide : 6 ≤ 45), by decide +kernel⟩
theorem mt_114 : mMt mInf 114 3 := ⟨kt_778, kt_1, (by decide : 5 ≤ 45), by decide +kernel⟩
theorem mt_115 : mMt mInf 115 1 := ⟨kt_815, kt_1, (by decide : 2 ≤ 45), by decide +kernel⟩
theorem mt_116 : mMt mInf 116 3 := ⟨kt_819, kt_1, (by decide : 5 ≤ 45), by decide +kernel⟩
theorem mt_117 : mMt mInf 117 1 := ⟨kt_824, kt_1, (by decide : 3 ≤ 45), by decide +kernel⟩
theorem mt_118 : mMt mInf 118 2 := ⟨kt_1014, kt_1, (by decide : 4 ≤ 45), by decide +kernel⟩
theorem mt_119 : mMt mInf 119 1 := ⟨kt_1019, kt_1, (by decide : 2 ≤ 45), by decide +kernel⟩
theorem mt_120 : mMt mInf 120 1 := ⟨kt_1023, kt_1, (by decide : 2 ≤ 45), by decide +kernel⟩
theorem mt_121 : mMt mInf 121 2 := ⟨kt_782, kt_1, (by decide : 3 ≤ 45), by decide +kernel⟩
theorem mt_122 : mMt mInf 122 0 := ⟨kt_1028, kt_9, (by decide : 1 ≤ 45), by decide +kernel⟩
theorem mt_123 : mMt mInf 123 5 := ⟨kt_1288, kt_9, (by decide : 6 ≤ 45), by decide +kernel⟩
theorem mt_124 : mMt mInf 124 1 := ⟨kt_1292, kt_9, (by decide : 3 ≤ 45), by decide +kernel⟩
theorem mt_125 : mMt mInf 125 1 := ⟨kt_1296, kt_9, (by decide : 2 ≤ 45), by decide +kernel⟩
theorem mt_126 : mMt mInf 126 1 := ⟨kt_1308, kt_9, (by decide : 2 ≤ 45), by decide +kernel⟩
theorem mt_127 : mMt mInf 127 1 := ⟨kt_1318, kt_9, (by decide : 1 ≤ 45), by decide +kernel⟩
theorem mt_128 : mMt mInf 128 1 := ⟨kt_1315, kt_9, (by decide : 1 ≤ 45), by decide +kernel⟩
theorem mt_129 : mMt mInf 129 2 := ⟨kt_1035, kt_9, (by decide : 3 ≤ 45), by decide +kernel⟩
theorem mt_130 : mMt mInf 130 7 := ⟨kt_1032, kt_9, (by decide : 7 ≤ 45), by decide +kernel⟩
theorem mt_131 : mMt mInf 131 4 := ⟨kt_1312, kt_9, (by decide : 6 ≤ 45), by decide +kernel⟩
theorem mt_132 : mMt mInf 132 0 := ⟨kt_1304, kt_9, (by decide : 8 ≤ 45), by decide +kernel⟩
theorem mt_133 : mMt mInf 133 3 := ⟨kt_1322, kt_9, (by decide : 6 ≤ 45), by decide +kernel⟩
theorem mt_134 : mMt mInf 134 1 := ⟨kt_1326, kt_9, (by decide : 2 ≤ 45), by decide +kernel⟩
theorem mt_135 : mMt mInf 135 1 := ⟨kt_1334, kt_9, (by decide : 2 ≤ 45), by decide +kernel⟩
theorem mt_136 : mMt mInf 136 2 := ⟨kt_1346, kt_9, (by decide : 4 ≤ 45), by decide +kernel⟩
theorem mt_137 : mMt mInf 137 0 := ⟨kt_1338, kt_9, (by decide : 1 ≤ 45), by decide +kernel⟩
theorem mt_138 : mMt mInf 138 1 := ⟨kt_1342, kt_9, (by decide : 2 ≤ 45), by decide +kernel⟩
theorem mt_139 : mMt mInf 139 0 := ⟨kt_1300, kt_9, (by decide : 2 ≤ 45), by decide +kernel⟩
theorem mt_140 : mMt mInf 140 0 := ⟨kt_1366, kt_9, (by decide : 1 ≤ 45), by decide +kernel⟩
theorem mt_141 : mMt mInf 141 0 := ⟨kt_1330, kt_9, (by decide : 5 ≤ 45), by decide +kernel⟩
theorem mt_142 : mMt mInf 142 1 := ⟨kt_1350, kt_9, (by decide : 6 ≤ 45), by decide +kernel⟩
theorem mt_143 : mMt mInf 143 2 := ⟨kt_1358, kt_9, (by decide : 3 ≤ 45), by decide +kernel⟩
theorem mt_144 : mMt mInf 144 1 := ⟨kt_1362, kt_9, (by decide : 3 ≤ 45), by decide +kernel⟩
theorem mt_145 : mMt mInf 145 0 := ⟨kt_1354, kt_9, (by decide : 5 ≤ 45), by decide +kernel⟩
theorem mt_146 : mMt mInf 146 1 := ⟨kt_1382, kt_9, (by decide : 2 ≤ 45), by decide +kernel⟩
theorem mt_147 : mMt mInf 147 1 := ⟨kt_1397, kt_9, (by decide : 1 ≤ 45), by decide +kernel⟩
theorem mt_148 : mMt mInf 148 1 := ⟨kt_1405, kt_9, (by decide : 2 ≤ 45), by decide +kernel⟩
theorem mt_149 : mMt mInf 149 1 := ⟨kt_1370, kt_9, (by decide : 2 ≤ 45), by decide +kernel⟩
theorem mt_150 : mMt mInf 150 1 := ⟨kt_1374, kt_9, (by decide : 2 ≤ 45), by decide +kernel⟩
theorem mt_151 : mMt mInf 151 7 := ⟨kt_1378, kt_9, (by decide : 8 ≤ 45), by decide +kernel⟩
theorem mt_152 : mMt mInf 152 3 := ⟨kt_1386, kt_9, (by decide : 4 ≤ 45), by decide +kernel⟩
theorem mt_153 : mMt mInf 153 4 := ⟨kt_1390, kt_9, (by decide : 5 ≤ 45), by decide +kernel⟩
theorem mt_154 : mMt mInf 154 1 := ⟨kt_1394, kt_9, (by decide : 2 ≤ 45), by decide +kernel⟩
theorem mt_155 : mMt mInf 155 3 := ⟨kt_1413, kt_9, (by decide : 6 ≤ 45), by decide +kernel⟩
theorem mt_156 : mMt mInf 156 1 := ⟨kt_1409, kt_9, (by decide : 6 ≤ 45), by decide +kernel⟩
theorem mt_157 : mMt mInf 157 3 := ⟨kt_1417, kt_9, (by decide : 7 ≤ 45), by decide +kernel⟩
theorem mt_158 : mMt mInf 158 0 := ⟨kt_1421, kt_9, (by decide : 5 ≤ 45), by decide +kernel⟩
theorem mt_159 : mMt mInf 159 2 := ⟨kt_1453, kt_9, (by decide : 3 ≤ 45), by decide +kernel⟩
theorem mt_160 : mMt mInf 160 3 := ⟨kt_1401, kt_9, (by decide : 4 ≤ 45), by decide +kernel⟩
theorem mt_161 : mMt mInf 161 4 := ⟨kt_1425, kt_9, (by decide : 5 ≤ 45), by decide +kernel⟩
theorem mt_162 : mMt mInf 162 2 := ⟨kt_1461, kt_9, (by decide : 4 ≤ 45), by decide +kernel⟩
theorem mt_163 : mMt mInf 163 3 := ⟨kt_1457, kt_9, (by decide : 8 ≤ 45), by decide +kernel⟩
theorem mt_164 : mMt mInf 164 1 := ⟨kt_1449, kt_9, (by decide : 3 ≤ 45), by decide +kernel⟩
theorem mt_165 : mMt mInf 165 2 := ⟨kt_1445, kt_9, (by decide : 5 ≤ 45), by decide +kernel⟩
theorem mt_166 : mMt mInf 166 2 := ⟨kt_1441, kt_9, (by decide : 6 ≤ 45), by decide +kernel⟩
theorem mt_167 : mMt mInf 167 1 := ⟨kt_1437, kt_9, (by decide : 5 ≤ 45), by decide +kernel⟩
theorem mt_168 : mMt mInf 168 1 := ⟨kt_1429, kt_9, (by decide : 2 ≤ 45), by decide +kernel⟩
theorem mt_169 : mMt mInf 169 3 := ⟨kt_1433, kt_9, (by decide : 6 ≤ 45), by decide +kernel⟩
theorem mt_170 : mMt mInf 170 3 := ⟨kt_1465, kt_9, (by decide : 4 ≤ 45), by decide +kernel⟩
theorem mt_171 : mMt mInf 171 0 := ⟨kt_1473, kt_9, (by decide : 2 ≤ 45), by decide +kernel⟩
theorem mt_172 : mMt mInf 172 2 := ⟨kt_1501, kt_9, (by decide : 3 ≤ 45), by decide +kernel⟩
theorem mt_173 : mMt mInf 173 2 := ⟨kt_1489, kt_9, (by decide : 3 ≤ 45), by decide +kernel⟩
theorem mt_174 : mMt mInf 174 1 := ⟨kt_1481, kt_9, (by decide : 4 ≤ 45), by decide +kernel⟩
theorem mt_175 : mMt mInf 175 1 := ⟨kt_1493, kt_9, (by decide : 5 ≤ 45), by decide +kernel⟩
theorem mt_176 : mMt mInf 176 1 := ⟨kt_1485, kt_9, (by decide : 4 ≤ 45), by decide +kernel⟩
theorem mt_177 : mMt mInf 177 1 := ⟨kt_1469, kt_9, (by decide : 7 ≤ 45), by decide +kernel⟩
theorem mt_178 : mMt mInf 178 0 := ⟨kt_1477, kt_9, (by decide : 9 ≤ 45), by decide +kernel⟩
theorem mt_179 : mMt mInf 179 1 := ⟨kt_1497, kt_9, (by decide : 3 ≤ 45), by decide +kernel⟩
theorem mt_180 : mMt mInf 180 2 := ⟨kt_1505, kt_9, (by decide : 3 ≤ 45), by decide +kernel⟩
theorem mt_181 : mMt mInf 181 1 := ⟨kt_1509, kt_9, (by decide : 4 ≤ 45), by decide +kernel⟩
theorem mt_182 : mMt mInf 182 1 := ⟨kt_962, kt_21, (by decide : 1 ≤ 45), by decide +kernel⟩
theorem mt_183 : mMt mInf 183 2 := ⟨kt_636, kt_17, (by decide : 4 ≤ 45), by decide +kernel⟩
