/-! ===== what the tables say at the law's entry ===== -/
theorem kt_23 : Cond.instantiable "GuideDesk" (9 : Nat) ∈ TB := TB_of (sub_1 _ (List.mem_of_getElem? (i := 23) rfl)) rfl
theorem kt_1025 : Cond.instantiable "GuideDeskModel" (82 : Nat) ∈ TB := TB_of (sub_5 _ (List.mem_of_getElem? (i := 65) rfl)) rfl
theorem ks_32 : Cond.methodLinkNest "GuideDesk" (11 : Nat) ({ cls := "GuideDesk$Ledger", name := "<init>", desc := "()V" } : Jvm.MethodName) "GuideDesk" ∈ lw_tbl := sub_1 _ (List.mem_of_getElem? (i := 32) rfl)
theorem ks_66 : Cond.methodLinkNest "GuideDesk" (18 : Nat) ({ cls := "GuideDesk$Day", name := "<init>", desc := "()V" } : Jvm.MethodName) "GuideDesk" ∈ lw_tbl := sub_1 _ (List.mem_of_getElem? (i := 66) rfl)
theorem ks_102 : Cond.methodLinkNest "GuideDesk" (25 : Nat) ({ cls := "GuideDesk$Tape", name := "<init>", desc := "()V" } : Jvm.MethodName) "GuideDesk" ∈ lw_tbl := sub_1 _ (List.mem_of_getElem? (i := 102) rfl)
theorem ks_133 : Cond.methodLinkNest "GuideDesk" (32 : Nat) ({ cls := "GuideDesk$WishReader", name := "<init>", desc := "()V" } : Jvm.MethodName) "GuideDesk" ∈ lw_tbl := sub_1 _ (List.mem_of_getElem? (i := 133) rfl)
theorem ks_172 : Cond.methodLinkNest "GuideDesk" (39 : Nat) ({ cls := "GuideDesk$Recorder", name := "<init>", desc := "()V" } : Jvm.MethodName) "GuideDesk" ∈ lw_tbl := sub_1 _ (List.mem_of_getElem? (i := 172) rfl)
theorem ks_227 : Cond.methodLinkNest "GuideDesk" (46 : Nat) ({ cls := "GuideDesk$Wishes", name := "<init>", desc := "()V" } : Jvm.MethodName) "GuideDesk" ∈ lw_tbl := sub_1 _ (List.mem_of_getElem? (i := 227) rfl)
theorem ks_254 : Cond.methodLinkNest "GuideDesk" (56 : Nat) ({ cls := "GuideDesk$Plan", name := "<init>", desc := "()V" } : Jvm.MethodName) "GuideDesk" ∈ lw_tbl := sub_2 _ (List.mem_of_getElem? (i := 14) rfl)
theorem ks_684 : Cond.methodLinkNest "GuideDesk$Day" (139 : Nat) ({ cls := "GuideDesk$Showing", name := "<init>", desc := "()V" } : Jvm.MethodName) "GuideDesk" ∈ lw_tbl := sub_3 _ (List.mem_of_getElem? (i := 204) rfl)
theorem ks_832 : Cond.methodLinkNest "GuideDesk$Plan" (47 : Nat) ({ cls := "GuideDesk$Candidate", name := "<init>", desc := "()V" } : Jvm.MethodName) "GuideDesk" ∈ lw_tbl := sub_4 _ (List.mem_of_getElem? (i := 112) rfl)
theorem ks_37 : Cond.arrayOver (Jvm.ClassFile.FieldType.object "GuideDesk$Source") ∈ lw_tbl := sub_1 _ (List.mem_of_getElem? (i := 37) rfl)
theorem ks_39 : Cond.arrayOver (Jvm.ClassFile.FieldType.object "GuideDesk$Fact") ∈ lw_tbl := sub_1 _ (List.mem_of_getElem? (i := 39) rfl)
theorem ks_71 : Cond.arrayOver (Jvm.ClassFile.FieldType.array Jvm.ClassFile.FieldType.int) ∈ lw_tbl := sub_1 _ (List.mem_of_getElem? (i := 71) rfl)
theorem ks_73 : Cond.arrayOver (Jvm.ClassFile.FieldType.object "GuideDesk$Showing") ∈ lw_tbl := sub_1 _ (List.mem_of_getElem? (i := 73) rfl)
theorem ks_259 : Cond.arrayOver (Jvm.ClassFile.FieldType.object "GuideDesk$Candidate") ∈ lw_tbl := sub_2 _ (List.mem_of_getElem? (i := 19) rfl)
theorem lw_arr {s : State} {b : Nat} {ty : FieldType} (h : (Cond.arrayClass ty).before #[Value.ref b] s = true) : ∃ cA : ClassId, ArrOfT s cA ty ∧ s.vm.findClass ("[" ++ ty.toString) = some cA := by
  obtain ⟨cA, kA, comp, h1, h2, h3⟩ := Cond.arrayClass_spec h
  exact ⟨cA, fun N z => ⟨(fun k h => by cases h), kA, h2, comp, h3⟩, h1⟩
theorem lw_arro {s : State} {b : Nat} {C : String} (h : (Cond.arrayOver (.object C)).before #[Value.ref b] s = true) : ∃ cA : ClassId, ArrOfT s cA (.object C) ∧ va_RA s cA (.object C) := by
  obtain ⟨comp, cA, kA, h1, -, h2, h3, h4⟩ := Cond.arrayOver_spec h
  exact ⟨cA, fun N z => ⟨(fun k h => by cases h), kA, h2, comp, h3⟩, kA, comp, h2, h3, h1, h4⟩
theorem lw_arra {s : State} {b : Nat} (h : (Cond.arrayOver (.array .int)).before #[Value.ref b] s = true) : ∃ cA : ClassId, ArrOfT s cA (.array .int) ∧ va_RA s cA (.array .int) := by
  simp only [Cond.before, Cond.holds, Cond.value, beq_iff_eq] at h
  cases hc : s.vm.findClass (FieldType.array .int).toString with
  | none => simp [hc] at h
  | some comp =>
    simp only [hc, Option.bind_some, Option.bind_eq_some_iff, Option.map_eq_some_iff] at h
    obtain ⟨cA, -, kA, h2, h3⟩ := h
    cases hkind : kA.kind with
    | array component ty =>
      rw [hkind] at h3
      simp at h3
      exact ⟨cA, fun N z => ⟨(fun k h => by cases h), kA, h2, component, by rw [hkind, h3.1]⟩, h3.2⟩
    | _ => rw [hkind] at h3; simp at h3
theorem law_K {s : State} {b : Nat} (hts : ∀ w ∈ lw_tbl, w.before #[Value.ref b] s = true) (h : Nat) : ∃ G : mG, G.1 = h ∧ mK G s := by
  have htT : ∀ w ∈ TB, w.before #[Value.ref b] s = true := fun w hw => hts w (List.mem_filter.mp hw).1
  have hC : ∀ c : Nat, ∃ P : ClassId × (Nat → Nat), ∀ q, vwCl[c]? = some q → u_Kn s q.1 q.2.1 q.2.2 P.1 P.2 := by
    intro c
    by_cases hc : ∃ q, vwCl[c]? = some q
    · obtain ⟨q, hq⟩ := hc
      have : ∃ (cC : ClassId) (iS : Nat → Nat), u_Kn s q.1 q.2.1 q.2.2 cC iS := by
        match c, hq with
        | 0, hq => cases hq; exact u_known htT inT0 (htT _ kt_831)
        | 1, hq => cases hq; exact u_known htT inT1 (htT _ kt_65)
        | 2, hq => cases hq; exact u_known htT inT2 (htT _ kt_567)
        | 3, hq => cases hq; exact u_known htT inT3 (htT _ kt_31)
        | 4, hq => cases hq; exact u_known htT inT4 (htT _ kt_253)
        | 5, hq => cases hq; exact u_known htT inT5 (htT _ kt_171)
        | 6, hq => cases hq; exact u_known htT inT6 (htT _ kt_683)
        | 7, hq => cases hq; exact u_known htT inT7 (htT _ kt_535)
        | 8, hq => cases hq; exact u_known htT inT8 (htT _ kt_101)
        | 9, hq => cases hq; exact u_known htT inT9 (htT _ kt_132)
        | 10, hq => cases hq; exact u_known htT inT10 (htT _ kt_226)
        | 11, hq => cases hq; exact u_known htT inT11 (htT _ kt_23)
        | 12, hq => cases hq; exact u_known htT inT12 (htT _ kt_1025)
        | k + 13, hq => simp [vwCl] at hq
      obtain ⟨cC, iS, h1⟩ := this
      exact ⟨(cC, iS), fun q2 h2 => by rw [hq] at h2; cases h2; exact h1⟩
    · exact ⟨(0, fun _ => 0), fun q hq => absurd ⟨q, hq⟩ hc⟩
  obtain ⟨f, hf⟩ := Classical.axiomOfChoice hC
  obtain ⟨a13, x13, y13⟩ := lw_arr (htT _ kt_130)
  obtain ⟨a14, x14, y14⟩ := lw_arr (htT _ kt_99)
  obtain ⟨a15, x15, y15⟩ := lw_arr (htT _ kt_1283)
  obtain ⟨a16, x16, y16⟩ := lw_arr (htT _ kt_1284)
  obtain ⟨a17, x17, y17⟩ := lw_arro (hts _ ks_259)
  obtain ⟨a18, x18, y18⟩ := lw_arro (hts _ ks_39)
  obtain ⟨a19, x19, y19⟩ := lw_arro (hts _ ks_73)
  obtain ⟨a20, x20, y20⟩ := lw_arro (hts _ ks_37)
  obtain ⟨a21, x21, y21⟩ := lw_arra (hts _ ks_71)
  refine ⟨(h, (fun c => (f c).1, fun c => (f c).2), fun k => if k = 13 then a13 else if k = 14 then a14 else if k = 15 then a15 else if k = 16 then a16 else if k = 17 then a17 else if k = 18 then a18 else if k = 19 then a19 else if k = 20 then a20 else a21), rfl, ⟨fun c q hq => hf c q hq, fun k q hk => ?_⟩, ?_, ?_⟩
  · match k, hk with
    | 0, hk => cases hk; exact ⟨x13, y13⟩
    | 1, hk => cases hk; exact ⟨x14, y14⟩
    | 2, hk => cases hk; exact ⟨x15, y15⟩
    | 3, hk => cases hk; exact ⟨x16, y16⟩
    | 4, hk => cases hk; exact ⟨x17, y17⟩
    | 5, hk => cases hk; exact ⟨x18, y18⟩
    | 6, hk => cases hk; exact ⟨x19, y19⟩
    | 7, hk => cases hk; exact ⟨x20, y20⟩
    | 8, hk => cases hk; exact ⟨x21, y21⟩
    | k + 9, hk => simp [mTys] at hk
  · intro q hq
    simp only [mNst, List.mem_cons, List.not_mem_nil, or_false] at hq
    rcases hq with rfl | rfl | rfl | rfl | rfl | rfl | rfl | rfl | rfl
    · exact va_Nw.of rfl (hts _ ks_32)
    · exact va_Nw.of rfl (hts _ ks_66)
    · exact va_Nw.of rfl (hts _ ks_102)
    · exact va_Nw.of rfl (hts _ ks_133)
    · exact va_Nw.of rfl (hts _ ks_172)
    · exact va_Nw.of rfl (hts _ ks_227)
    · exact va_Nw.of rfl (hts _ ks_254)
    · exact va_Nw.of rfl (hts _ ks_684)
    · exact va_Nw.of rfl (hts _ ks_832)
  · intro C hq
    simp only [List.mem_cons, List.not_mem_nil, or_false] at hq
    rcases hq with rfl | rfl | rfl | rfl
    · exact va_AO.of (hts _ ks_259)
    · exact va_AO.of (hts _ ks_39)
    · exact va_AO.of (hts _ ks_73)
    · exact va_AO.of (hts _ ks_37)
