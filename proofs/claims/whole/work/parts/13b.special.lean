theorem kc_1 : Cond.methodLink "GuideDesk$Day" (125 : Nat) ({ cls := "java/lang/System", name := "arraycopy", desc := "(Ljava/lang/Object;ILjava/lang/Object;II)V" } : Jvm.MethodName) ∈ TB := TB_of (sub_3 _ (List.mem_of_getElem? (i := 189) rfl)) rfl
theorem kc_2 : Cond.native ({ cls := "java/lang/System", name := "arraycopy", desc := "(Ljava/lang/Object;ILjava/lang/Object;II)V" } : Jvm.MethodName) ∈ TB := TB_of (sub_3 _ (List.mem_of_getElem? (i := 191) rfl)) rfl
theorem kc_3 : Cond.static ({ cls := "java/lang/System", name := "arraycopy", desc := "(Ljava/lang/Object;ILjava/lang/Object;II)V" } : Jvm.MethodName) ∈ TB := TB_of (sub_3 _ (List.mem_of_getElem? (i := 190) rfl)) rfl
theorem kc_4 : Cond.initialized "java/lang/System" ∈ TB := TB_of (sub_1 _ (List.mem_of_getElem? (i := 18) rfl)) rfl
theorem sn_copy_at : mSnd mInf iX1_pushByOver 69 (o_copy 72) := sn_copy kc_1 kc_2 kc_3 kc_4 dX1_pushByOver_69 rfl
theorem sn_lconst0 {F : mF} {I : mI} {pc n : Nat} (hd : decode I.2.1 pc = .ok (.lconst 0, 1)) (hn : pc + 1 = n) : mSnd F I pc (o_const (vl 0) n) := sn_lconst (k := 0) hd hn
