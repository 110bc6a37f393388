/-! ===== what the tables say at the law's entry ===== -/
theorem kt_23 : Cond.instantiable "GuideDesk" (9 : Nat) ∈ TB := TB_of (sub_1 _ (List.mem_of_getElem? (i := 23) rfl)) rfl
theorem kt_1025 : Cond.instantiable "GuideDeskModel" (82 : Nat) ∈ TB := TB_of (sub_5 _ (List.mem_of_getElem? (i := 65) rfl)) rfl
theorem ks_32 : Cond.methodLinkNest "GuideDesk" (11 : Nat) ({ cls := "GuideDesk$Ledger", name := "<init>", desc := "()V" } : Jvm.MethodName) "GuideDesk" ∈ lw_tbl := sub_1 _ (List.mem_of_getElem? (i := 32) rfl)
theorem ks_66 : Cond.methodLinkNest "GuideDesk" (18 : Nat) ({ cls := "GuideDesk$Day", name := "<init>", desc := "()V" } : Jvm.MethodName) "GuideDesk" ∈ lw_tbl := sub_1 _ (List.mem_of_getElem? (i := 66) rfl)
theorem ks_102 : Cond.methodLinkNest "GuideDesk" (25 : Nat) ({ cls := "GuideDesk$Tape", name := "<init>", desc := "()V" } : Jvm.MethodName) "GuideDesk" ∈ lw_tbl := sub_1 _ (List.mem_of_getElem? (i := 102) rfl)
theorem ks_133 : Cond.methodLinkNest "GuideDesk" (32 : Nat) ({ cls := "GuideDesk$WishReader", name := "<init>", desc := "()V" } : Jvm.MethodName) "GuideDesk" ∈ lw_tbl := sub_1 _ (List.mem_of_getElem? (i := 133) rfl)
theorem ks_172 : Cond.methodLinkNest "GuideDesk" (39 : Nat) ({ cls := "GuideDesk$Recorder", name := "<init>", desc := "()V" } : Jvm.MethodName) "GuideDesk" ∈ lw_tbl := sub_1 _ (List.mem_of_getElem? (i := 172) rfl)
theorem ks_227 : Cond.methodLinkNest "GuideDesk" (46 : Nat) ({ cls := "GuideDesk$Wishes", name := "<init>", desc := "()V" } : Jvm.MethodName) "GuideDesk" ∈ lw_tbl := sub_1 _ (List.mem_of_getElem? (i := 227) rfl)
theorem ks_254 : Cond.methodLinkNest "GuideDesk" (56 : Nat) ({ cls := "GuideDesk$Plan", name := "<init>", desc := "()V" } : Jvm.MethodName) "GuideDesk" ∈ lw_tbl := sub_2 _ (List.mem_of_getElem? (i := 14) rfl)
theorem ks_684 : Cond.methodLinkNest "GuideDesk$Day" (139 : Nat) ({ cls := "GuideDesk$Showing", name := "<init>", desc := "()V" } : Jvm.MethodName) "GuideDesk" ∈ lw_tbl := sub_3 _ (List.mem_of_getElem? (i := 204) rfl)
theorem ks_832 : Cond.methodLinkNest "GuideDesk$Plan" (47 : Nat) ({ cls := "GuideDesk$Candidate", name := "<init>", desc := "()V" } : Jvm.MethodName) "GuideDesk" ∈ lw_tbl := sub_4 _ (List.mem_of_getElem? (i := 112) rfl)
theorem ks_37 : Cond.arrayOver (Jvm.ClassFile.FieldType.object "GuideDesk$Source") ∈ lw_tbl := sub_1 _ (List.mem_of_getElem? (i := 37) rfl)
theorem ks_39 : Cond.arrayOver (Jvm.ClassFile.FieldType.object "GuideDesk$Fact") ∈ lw_tbl := sub_1 _ (List.mem_of_getElem? (i := 39) rfl)
theorem ks_71 : Cond.arrayOver (Jvm.ClassFile.FieldType.array Jvm.ClassFile.FieldType.int) ∈ lw_tbl := sub_1 _ (List.mem_of_getElem? (i := 71) rfl)
theorem ks_73 : Cond.arrayOver (Jvm.ClassFile.FieldType.object "GuideDesk$Showing") ∈ lw_tbl := sub_1 _ (List.mem_of_getElem? (i := 73) rfl)
theorem ks_259 : Cond.arrayOver (Jvm.ClassFile.FieldType.object "GuideDesk$Candidate") ∈ lw_tbl := sub_2 _ (List.mem_of_getElem? (i := 19) rfl)
theorem lw_arr {s : State} {b : Nat} {ty : FieldType} (h : (Cond.arrayClass ty).before #[Value.ref b] s = true) : ∃ cA : ClassId, ArrOfT s cA ty ∧ s.vm.findClass ("[" ++ ty.toString) = some cA := by
  obtain ⟨cA, kA, comp, h1, h2, h3⟩ := Cond.arrayClass_spec h
  exact ⟨cA, fun N z => ⟨(fun k h => by cases h), kA, h2, comp, h3⟩, h1⟩
theorem lw_arro {s : State} {b : Nat} {C : String} (h : (Cond.arrayOver (.object C)).before #[Value.ref b] s = true) : ∃ cA : ClassId, ArrOfT s cA (.object C) ∧ va_RA s cA (.object C) := by
  obtain ⟨comp, cA, kA, h1, -, h2, h3, h4⟩ := Cond.arrayOver_spec h
  exact ⟨cA, fun N z => ⟨(fun k h => by cases h), kA, h2, comp, h3⟩, kA, comp, h2, h3, h1, h4⟩
theorem lw_arra {s : State} {b : Nat} (h : (Cond.arrayOver (.array .int)).before #[Value.ref b] s = true) : ∃ cA : ClassId, ArrOfT s cA (.array .int) ∧ va_RA s cA (.array .int) := by
  simp only [Cond.before, Cond.holds, Cond.value, beq_iff_eq] at h
  cases hc : s.vm.findClass (FieldType.array .int).toString with
  | none => simp [hc] at h
  | some comp =>
    simp only [hc, Option.bind_some, Option.bind_eq_some_iff, Option.map_eq_some_iff] at h
    obtain ⟨cA, -, kA, h2, h3⟩ := h
    cases hkind : kA.kind with
    | array component ty =>
      rw [hkind] at h3
      simp at h3
      exact ⟨cA, fun N z => ⟨(fun k h => by cases h), kA, h2, component, by rw [hkind, h3.1]⟩, h3.2⟩
    | _ => rw [hkind] at h3; simp at h3
theorem ks_380 : Cond.laysStatic "java/lang/String" "COMPACT_STRINGS" "Z" ∈ lw_tbl := sub_2 _ (List.mem_of_getElem? (i := 140) rfl)
theorem ks_396 : Cond.laysStatic "jdk/internal/util/Preconditions" "SIOOBE_FORMATTER" "Ljava/util/function/BiFunction;" ∈ lw_tbl := sub_2 _ (List.mem_of_getElem? (i := 156) rfl)
theorem ks_10 : Cond.initialized "java/lang/String" ∈ lw_tbl := sub_1 _ (List.mem_of_getElem? (i := 10) rfl)
theorem ks_12 : Cond.initialized "jdk/internal/util/Preconditions" ∈ lw_tbl := sub_1 _ (List.mem_of_getElem? (i := 12) rfl)
theorem ks_366 : Cond.stringRef "GuideDesk$Tape" (65 : Nat) "wish" ∈ lw_tbl := sub_2 _ (List.mem_of_getElem? (i := 126) rfl)
theorem ks_419 : Cond.stringRef "GuideDesk$Tape" (71 : Nat) "never" ∈ lw_tbl := sub_2 _ (List.mem_of_getElem? (i := 179) rfl)
theorem ks_420 : Cond.stringRef "GuideDesk$Tape" (73 : Nat) "if" ∈ lw_tbl := sub_2 _ (List.mem_of_getElem? (i := 180) rfl)
theorem ks_421 : Cond.stringRef "GuideDesk$Tape" (75 : Nat) "or" ∈ lw_tbl := sub_2 _ (List.mem_of_getElem? (i := 181) rfl)
theorem ks_422 : Cond.stringRef "GuideDesk$Tape" (77 : Nat) "and" ∈ lw_tbl := sub_2 _ (List.mem_of_getElem? (i := 182) rfl)
theorem ks_423 : Cond.stringRef "GuideDesk$Tape" (79 : Nat) "live" ∈ lw_tbl := sub_2 _ (List.mem_of_getElem? (i := 183) rfl)
theorem ks_424 : Cond.stringRef "GuideDesk$Tape" (81 : Nat) "first" ∈ lw_tbl := sub_2 _ (List.mem_of_getElem? (i := 184) rfl)
theorem ks_425 : Cond.stringRef "GuideDesk$Tape" (83 : Nat) "title" ∈ lw_tbl := sub_2 _ (List.mem_of_getElem? (i := 185) rfl)
theorem ks_426 : Cond.stringRef "GuideDesk$Tape" (85 : Nat) "episode" ∈ lw_tbl := sub_2 _ (List.mem_of_getElem? (i := 186) rfl)
theorem ks_427 : Cond.stringRef "GuideDesk$Tape" (87 : Nat) "channel" ∈ lw_tbl := sub_2 _ (List.mem_of_getElem? (i := 187) rfl)
theorem ks_428 : Cond.stringRef "GuideDesk$Tape" (89 : Nat) "from" ∈ lw_tbl := sub_2 _ (List.mem_of_getElem? (i := 188) rfl)
theorem ks_429 : Cond.stringRef "GuideDesk$Tape" (91 : Nat) "until" ∈ lw_tbl := sub_2 _ (List.mem_of_getElem? (i := 189) rfl)
theorem ks_430 : Cond.stringRef "GuideDesk$Tape" (93 : Nat) "length" ∈ lw_tbl := sub_2 _ (List.mem_of_getElem? (i := 190) rfl)
theorem ks_431 : Cond.stringRef "GuideDesk$Tape" (95 : Nat) "trust" ∈ lw_tbl := sub_2 _ (List.mem_of_getElem? (i := 191) rfl)
def tmJ (i : Nat) : Term := .string "GuideDesk$Tape" ((tmK.getD i (0, 0, "")).2.1)
theorem q_hex : ∀ i, i < 14 → (Cond.exactly (tmJ i) "java/lang/String") ∈ flatC (Jvm.Cond.and given_1 narrow_1) := by decide +kernel
theorem q_hco : ∀ i, i < 14 → (Cond.eq (.field (tmJ i) "java/lang/String" "coder" "B") (.int 0)) ∈ flatC (Jvm.Cond.and given_1 narrow_1) := by decide +kernel
theorem q_har : ∀ i, i < 14 → (Cond.arrayOf (.field (tmJ i) "java/lang/String" "value" "[B") .byte) ∈ flatC (Jvm.Cond.and given_1 narrow_1) := by decide +kernel
theorem q_hle : ∀ i, i < 14 → (Cond.eq (.length (.field (tmJ i) "java/lang/String" "value" "[B")) (.int (Int32.ofNat (lnK.getD i 0)))) ∈ flatC (Jvm.Cond.and given_1 narrow_1) := by decide +kernel
theorem q_hel : ∀ i, i < 14 → ∀ j, j < lnK.getD i 0 → (Cond.eq (.elem (.field (tmJ i) "java/lang/String" "value" "[B") (.int (Int32.ofNat j))) (.int ((byK.getD i []).getD j 0))) ∈ flatC (Jvm.Cond.and given_1 narrow_1) := by decide +kernel
theorem q_hne : ∀ j, j < 14 → ∀ i, i < j → (Cond.not (Cond.eq (tmJ i) (tmJ j))) ∈ flatC (Jvm.Cond.and given_1 narrow_1) := by decide +kernel
theorem lw_J {s : State} {b : Nat} (hts : ∀ w ∈ lw_tbl, w.before #[Value.ref b] s = true) (hgv : (Jvm.Cond.and given_1 narrow_1).before #[Value.ref b] s = true) : ∃ adK adV : Nat → Nat, ∀ (D : va_G) (A : Nat → ClassId), (∀ i, i < 14 → A (100 + i) = adK i) → (∀ i, i < 14 → A (200 + i) = adV i) → mJ (s.heap.size, D, A) s s.heap := by
  have hs := flat_of_before _ hgv
  have hA : ∀ a : Nat, a < s.heap.size → ¬ (fun q : Nat => s.heap.size ≤ q) a := fun a ha => Nat.not_le.mpr ha
  obtain ⟨adK, adV, hE, hV⟩ := vk_Sof (args := #[Value.ref b]) (s := s) (N := 14) (tm := tmJ) (len := lnK) (byt := byK) (A := fun q : Nat => s.heap.size ≤ q) (fun i hi => by have := lnK_s i hi; omega) (fun i hi => hs _ (q_hex i hi)) (fun i hi => hs _ (q_hco i hi)) (fun i hi => hs _ (q_har i hi)) (fun i hi => hs _ (q_hle i hi)) (fun i hi j hj => hs _ (q_hel i hi j hj)) (fun i j hi hj hij => by
    rcases Nat.lt_or_ge i j with w | w
    · exact Or.inl (hs _ (q_hne j hj i w))
    · exact Or.inr (hs _ (q_hne i hi j (by omega)))) hA
  refine ⟨adK, adV, fun D A h1 h2 => ⟨va_Zof (hts _ ks_380) (hts _ ks_10) (va_eqt (hs _ (by decide +kernel))) hA, ?_, ⟨fun i hi => ?_, fun i j hi hj e => ?_⟩, fun q hq => ?_⟩⟩
  · obtain ⟨v, hv, hr⟩ := Cond.isRef_spec (hs (Cond.isRef (.static "jdk/internal/util/Preconditions" "SIOOBE_FORMATTER" "Ljava/util/function/BiFunction;")) (by decide +kernel))
    cases v with
    | ref q => exact Or.inl ⟨q, va_Zof (hts _ ks_396) (hts _ ks_12) hv hA⟩
    | null => exact Or.inr (va_Zof (hts _ ks_396) (hts _ ks_12) hv hA)
    | _ => cases hr
  · show va_O "java/lang/String" (A (100 + i)) _ s s.heap ∧ va_OF "java/lang/String" "coder" "B" (.int 0) (A (100 + i)) _ s s.heap ∧ va_OF "java/lang/String" "value" "[B" (.ref (A (200 + i))) (A (100 + i)) _ s s.heap ∧ va_T .byte (A (200 + i)) (lnK.getD i 0) _ _ s s.heap
    rw [h1 i hi, h2 i hi]
    exact hE.1 i hi
  · have e2 : A (100 + i) = A (100 + j) := e
    rw [h1 i hi, h1 j hj] at e2
    exact hE.2 i j hi hj e2
  · simp only [tmK, List.mem_cons, List.not_mem_nil, or_false] at hq
    rcases hq with rfl | rfl | rfl | rfl | rfl | rfl | rfl | rfl | rfl | rfl | rfl | rfl | rfl | rfl
    · show vk_R "GuideDesk$Tape" 65 "wish" (A (100 + 0)) s
      rw [h1 0 (by decide)]
      exact vk_R.of (hts _ ks_366) (hV 0 (by decide))
    · show vk_R "GuideDesk$Tape" 71 "never" (A (100 + 1)) s
      rw [h1 1 (by decide)]
      exact vk_R.of (hts _ ks_419) (hV 1 (by decide))
    · show vk_R "GuideDesk$Tape" 73 "if" (A (100 + 2)) s
      rw [h1 2 (by decide)]
      exact vk_R.of (hts _ ks_420) (hV 2 (by decide))
    · show vk_R "GuideDesk$Tape" 75 "or" (A (100 + 3)) s
      rw [h1 3 (by decide)]
      exact vk_R.of (hts _ ks_421) (hV 3 (by decide))
    · show vk_R "GuideDesk$Tape" 77 "and" (A (100 + 4)) s
      rw [h1 4 (by decide)]
      exact vk_R.of (hts _ ks_422) (hV 4 (by decide))
    · show vk_R "GuideDesk$Tape" 79 "live" (A (100 + 5)) s
      rw [h1 5 (by decide)]
      exact vk_R.of (hts _ ks_423) (hV 5 (by decide))
    · show vk_R "GuideDesk$Tape" 81 "first" (A (100 + 6)) s
      rw [h1 6 (by decide)]
      exact vk_R.of (hts _ ks_424) (hV 6 (by decide))
    · show vk_R "GuideDesk$Tape" 83 "title" (A (100 + 7)) s
      rw [h1 7 (by decide)]
      exact vk_R.of (hts _ ks_425) (hV 7 (by decide))
    · show vk_R "GuideDesk$Tape" 85 "episode" (A (100 + 8)) s
      rw [h1 8 (by decide)]
      exact vk_R.of (hts _ ks_426) (hV 8 (by decide))
    · show vk_R "GuideDesk$Tape" 87 "channel" (A (100 + 9)) s
      rw [h1 9 (by decide)]
      exact vk_R.of (hts _ ks_427) (hV 9 (by decide))
    · show vk_R "GuideDesk$Tape" 89 "from" (A (100 + 10)) s
      rw [h1 10 (by decide)]
      exact vk_R.of (hts _ ks_428) (hV 10 (by decide))
    · show vk_R "GuideDesk$Tape" 91 "until" (A (100 + 11)) s
      rw [h1 11 (by decide)]
      exact vk_R.of (hts _ ks_429) (hV 11 (by decide))
    · show vk_R "GuideDesk$Tape" 93 "length" (A (100 + 12)) s
      rw [h1 12 (by decide)]
      exact vk_R.of (hts _ ks_430) (hV 12 (by decide))
    · show vk_R "GuideDesk$Tape" 95 "trust" (A (100 + 13)) s
      rw [h1 13 (by decide)]
      exact vk_R.of (hts _ ks_431) (hV 13 (by decide))
theorem law_K {s : State} {b : Nat} (hts : ∀ w ∈ lw_tbl, w.before #[Value.ref b] s = true) (hgv : (Jvm.Cond.and given_1 narrow_1).before #[Value.ref b] s = true) : ∃ G : mG, G.1 = s.heap.size ∧ mK G s := by
  obtain ⟨adK, adV, hJ⟩ := lw_J hts hgv
  have htT : ∀ w ∈ TB, w.before #[Value.ref b] s = true := fun w hw => hts w (List.mem_filter.mp hw).1
  have hC : ∀ c : Nat, ∃ P : ClassId × (Nat → Nat), ∀ q, vwCl[c]? = some q → u_Kn s q.1 q.2.1 q.2.2 P.1 P.2 := by
    intro c
    by_cases hc : ∃ q, vwCl[c]? = some q
    · obtain ⟨q, hq⟩ := hc
      have : ∃ (cC : ClassId) (iS : Nat → Nat), u_Kn s q.1 q.2.1 q.2.2 cC iS := by
        match c, hq with
        | 0, hq => cases hq; exact u_known htT inT0 (htT _ kt_831)
        | 1, hq => cases hq; exact u_known htT inT1 (htT _ kt_65)
        | 2, hq => cases hq; exact u_known htT inT2 (htT _ kt_567)
        | 3, hq => cases hq; exact u_known htT inT3 (htT _ kt_31)
        | 4, hq => cases hq; exact u_known htT inT4 (htT _ kt_253)
        | 5, hq => cases hq; exact u_known htT inT5 (htT _ kt_171)
        | 6, hq => cases hq; exact u_known htT inT6 (htT _ kt_683)
        | 7, hq => cases hq; exact u_known htT inT7 (htT _ kt_535)
        | 8, hq => cases hq; exact u_known htT inT8 (htT _ kt_101)
        | 9, hq => cases hq; exact u_known htT inT9 (htT _ kt_132)
        | 10, hq => cases hq; exact u_known htT inT10 (htT _ kt_226)
        | 11, hq => cases hq; exact u_known htT inT11 (htT _ kt_23)
        | 12, hq => cases hq; exact u_known htT inT12 (htT _ kt_1025)
        | k + 13, hq => simp [vwCl] at hq
      obtain ⟨cC, iS, h1⟩ := this
      exact ⟨(cC, iS), fun q2 h2 => by rw [hq] at h2; cases h2; exact h1⟩
    · exact ⟨(0, fun _ => 0), fun q hq => absurd ⟨q, hq⟩ hc⟩
  obtain ⟨f, hf⟩ := Classical.axiomOfChoice hC
  obtain ⟨a13, x13, y13⟩ := lw_arr (htT _ kt_130)
  obtain ⟨a14, x14, y14⟩ := lw_arr (htT _ kt_99)
  obtain ⟨a15, x15, y15⟩ := lw_arr (htT _ kt_1283)
  obtain ⟨a16, x16, y16⟩ := lw_arr (htT _ kt_1284)
  obtain ⟨a17, x17, y17⟩ := lw_arro (hts _ ks_259)
  obtain ⟨a18, x18, y18⟩ := lw_arro (hts _ ks_39)
  obtain ⟨a19, x19, y19⟩ := lw_arro (hts _ ks_73)
  obtain ⟨a20, x20, y20⟩ := lw_arro (hts _ ks_37)
  obtain ⟨a21, x21, y21⟩ := lw_arra (hts _ ks_71)
  refine ⟨(s.heap.size, (fun c => (f c).1, fun c => (f c).2), fun k => if k = 13 then a13 else if k = 14 then a14 else if k = 15 then a15 else if k = 16 then a16 else if k = 17 then a17 else if k = 18 then a18 else if k = 19 then a19 else if k = 20 then a20 else if k < 100 then a21 else if k < 200 then adK (k - 100) else adV (k - 200)), rfl, ⟨fun c q hq => hf c q hq, fun k q hk => ?_⟩, ?_, ?_, hts _ ks_71, hJ _ _ (fun i hi => ?_) (fun i hi => ?_)⟩
  · match k, hk with
    | 0, hk => cases hk; exact ⟨x13, y13⟩
    | 1, hk => cases hk; exact ⟨x14, y14⟩
    | 2, hk => cases hk; exact ⟨x15, y15⟩
    | 3, hk => cases hk; exact ⟨x16, y16⟩
    | 4, hk => cases hk; exact ⟨x17, y17⟩
    | 5, hk => cases hk; exact ⟨x18, y18⟩
    | 6, hk => cases hk; exact ⟨x19, y19⟩
    | 7, hk => cases hk; exact ⟨x20, y20⟩
    | 8, hk => cases hk; exact ⟨x21, y21⟩
    | k + 9, hk => simp [mTys] at hk
  · intro q hq
    simp only [mNst, List.mem_cons, List.not_mem_nil, or_false] at hq
    rcases hq with rfl | rfl | rfl | rfl | rfl | rfl | rfl | rfl | rfl
    · exact va_Nw.of rfl (hts _ ks_32)
    · exact va_Nw.of rfl (hts _ ks_66)
    · exact va_Nw.of rfl (hts _ ks_102)
    · exact va_Nw.of rfl (hts _ ks_133)
    · exact va_Nw.of rfl (hts _ ks_172)
    · exact va_Nw.of rfl (hts _ ks_227)
    · exact va_Nw.of rfl (hts _ ks_254)
    · exact va_Nw.of rfl (hts _ ks_684)
    · exact va_Nw.of rfl (hts _ ks_832)
  · intro C hq
    simp only [List.mem_cons, List.not_mem_nil, or_false] at hq
    rcases hq with rfl | rfl | rfl | rfl
    · exact va_AO.of (hts _ ks_259)
    · exact va_AO.of (hts _ ks_39)
    · exact va_AO.of (hts _ ks_73)
    · exact va_AO.of (hts _ ks_37)
  · show (if 100 + i = 13 then a13 else if 100 + i = 14 then a14 else if 100 + i = 15 then a15 else if 100 + i = 16 then a16 else if 100 + i = 17 then a17 else if 100 + i = 18 then a18 else if 100 + i = 19 then a19 else if 100 + i = 20 then a20 else if 100 + i < 100 then a21 else if 100 + i < 200 then adK (100 + i - 100) else adV (100 + i - 200)) = adK i
    rw [if_neg (by omega), if_neg (by omega), if_neg (by omega), if_neg (by omega), if_neg (by omega), if_neg (by omega), if_neg (by omega), if_neg (by omega), if_neg (by omega), if_pos (by omega), Nat.add_sub_cancel_left]
  · show (if 200 + i = 13 then a13 else if 200 + i = 14 then a14 else if 200 + i = 15 then a15 else if 200 + i = 16 then a16 else if 200 + i = 17 then a17 else if 200 + i = 18 then a18 else if 200 + i = 19 then a19 else if 200 + i = 20 then a20 else if 200 + i < 100 then a21 else if 200 + i < 200 then adK (200 + i - 100) else adV (200 + i - 200)) = adV i
    rw [if_neg (by omega), if_neg (by omega), if_neg (by omega), if_neg (by omega), if_neg (by omega), if_neg (by omega), if_neg (by omega), if_neg (by omega), if_neg (by omega), if_neg (by omega), Nat.add_sub_cancel_left]
