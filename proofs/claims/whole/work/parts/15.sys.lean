theorem sys_all (hmna : mSnd mInf iX1_init 25 (o_mna 29)) (hkow : mSnd mInf iX8_kindOfWord 0 o_kow) : ∀ e ∈ mAll, ∀ q ∈ e.2, mSnd mInf e.1.2 q.1 q.2 := by
  unfold mAll
  refine List.forall_mem_cons.mpr ⟨sX0_init, ?_⟩
  refine List.forall_mem_cons.mpr ⟨sX0_fill, ?_⟩
  refine List.forall_mem_cons.mpr ⟨sX0_span, ?_⟩
  refine List.forall_mem_cons.mpr ⟨sX0_spansSlot, ?_⟩
  refine List.forall_mem_cons.mpr ⟨sX0_meets, ?_⟩
  refine List.forall_mem_cons.mpr ⟨sX0_isOneWith, ?_⟩
  refine List.forall_mem_cons.mpr ⟨sX0_isSameAs, ?_⟩
  refine List.forall_mem_cons.mpr ⟨sX1_init hmna, ?_⟩
  refine List.forall_mem_cons.mpr ⟨sX1_survey, ?_⟩
  refine List.forall_mem_cons.mpr ⟨sX1_factAt, ?_⟩
  refine List.forall_mem_cons.mpr ⟨sX1_at, ?_⟩
  refine List.forall_mem_cons.mpr ⟨sX1_firstDoubted, ?_⟩
  refine List.forall_mem_cons.mpr ⟨sX1_layNotices, ?_⟩
  refine List.forall_mem_cons.mpr ⟨sX1_layNotice, ?_⟩
  refine List.forall_mem_cons.mpr ⟨sX1_pushByOvers, ?_⟩
  refine List.forall_mem_cons.mpr ⟨sX1_pushByOver, ?_⟩
  refine List.forall_mem_cons.mpr ⟨sX1_collectShowings, ?_⟩
  refine List.forall_mem_cons.mpr ⟨sX1_endOfRun, ?_⟩
  refine List.forall_mem_cons.mpr ⟨sX1_addShowing, ?_⟩
  refine List.forall_mem_cons.mpr ⟨sX1_leastOneOf, ?_⟩
  refine List.forall_mem_cons.mpr ⟨sX2_init, ?_⟩
  refine List.forall_mem_cons.mpr ⟨sX2_isNotice, ?_⟩
  refine List.forall_mem_cons.mpr ⟨sX2_isWordOf, ?_⟩
  refine List.forall_mem_cons.mpr ⟨sX2_hasSlot, ?_⟩
  refine List.forall_mem_cons.mpr ⟨sX2_trust, ?_⟩
  refine List.forall_mem_cons.mpr ⟨sX3_init, ?_⟩
  refine List.forall_mem_cons.mpr ⟨sX3_hasChannel, ?_⟩
  refine List.forall_mem_cons.mpr ⟨sX3_isKnown, ?_⟩
  refine List.forall_mem_cons.mpr ⟨sX3_sourceAt, ?_⟩
  refine List.forall_mem_cons.mpr ⟨sX3_rankedAt, ?_⟩
  refine List.forall_mem_cons.mpr ⟨sX3_factAt, ?_⟩
  refine List.forall_mem_cons.mpr ⟨sX3_addSource, ?_⟩
  refine List.forall_mem_cons.mpr ⟨sX3_tell, ?_⟩
  refine List.forall_mem_cons.mpr ⟨sX3_latestWord, ?_⟩
  refine List.forall_mem_cons.mpr ⟨sX4_init, ?_⟩
  refine List.forall_mem_cons.mpr ⟨sX4_at, ?_⟩
  refine List.forall_mem_cons.mpr ⟨sX4_gather, ?_⟩
  refine List.forall_mem_cons.mpr ⟨sX4_prepare, ?_⟩
  refine List.forall_mem_cons.mpr ⟨sX4_hasUnderWay, ?_⟩
  refine List.forall_mem_cons.mpr ⟨sX4_markEarlier, ?_⟩
  refine List.forall_mem_cons.mpr ⟨sX4_settle, ?_⟩
  refine List.forall_mem_cons.mpr ⟨sX4_explain, ?_⟩
  refine List.forall_mem_cons.mpr ⟨sX4_whyNot, ?_⟩
  refine List.forall_mem_cons.mpr ⟨sX4_rivalOf, ?_⟩
  refine List.forall_mem_cons.mpr ⟨sX4_memberOneWith, ?_⟩
  refine List.forall_mem_cons.mpr ⟨sX4_isCrowdedWith, ?_⟩
  refine List.forall_mem_cons.mpr ⟨sX4_membersOn, ?_⟩
  refine List.forall_mem_cons.mpr ⟨sX4_lightestMemberMeeting, ?_⟩
  refine List.forall_mem_cons.mpr ⟨sX5_init, ?_⟩
  refine List.forall_mem_cons.mpr ⟨sX5_choose, ?_⟩
  refine List.forall_mem_cons.mpr ⟨sX5_search, ?_⟩
  refine List.forall_mem_cons.mpr ⟨sX5_canBeatBest, ?_⟩
  refine List.forall_mem_cons.mpr ⟨sX5_keepAsBest, ?_⟩
  refine List.forall_mem_cons.mpr ⟨sX5_canAdd, ?_⟩
  refine List.forall_mem_cons.mpr ⟨sX5_addOrDrop, ?_⟩
  refine List.forall_mem_cons.mpr ⟨sX6_init, ?_⟩
  refine List.forall_mem_cons.mpr ⟨sX6_fill, ?_⟩
  refine List.forall_mem_cons.mpr ⟨sX6_isDoubtedWith, ?_⟩
  refine List.forall_mem_cons.mpr ⟨sX7_init, ?_⟩
  refine List.forall_mem_cons.mpr ⟨sX7_outranks, ?_⟩
  refine List.forall_mem_cons.mpr ⟨sX8_init, ?_⟩
  refine List.forall_mem_cons.mpr ⟨sX8_append, ?_⟩
  refine List.forall_mem_cons.mpr ⟨sX8_rewind, ?_⟩
  refine List.forall_mem_cons.mpr ⟨sX8_advance, ?_⟩
  refine List.forall_mem_cons.mpr ⟨sX8_scanWord, ?_⟩
  refine List.forall_mem_cons.mpr ⟨sX8_scanInt, ?_⟩
  refine List.forall_mem_cons.mpr ⟨sX8_scanSign, ?_⟩
  refine List.forall_mem_cons.mpr ⟨sX8_byteAt, ?_⟩
  refine List.forall_mem_cons.mpr ⟨sX8_isBlank, ?_⟩
  refine List.forall_mem_cons.mpr ⟨sX8_isLetter, ?_⟩
  refine List.forall_mem_cons.mpr ⟨sX8_isDigit, ?_⟩
  refine List.forall_mem_cons.mpr ⟨sX8_kindOfPair, ?_⟩
  refine List.forall_mem_cons.mpr ⟨sX8_kindOfSign, ?_⟩
  refine List.forall_mem_cons.mpr ⟨fun q h => by rcases List.mem_singleton.mp h with rfl; exact hkow, ?_⟩
  refine List.forall_mem_cons.mpr ⟨sX9_init, ?_⟩
  refine List.forall_mem_cons.mpr ⟨sX9_compile, ?_⟩
  refine List.forall_mem_cons.mpr ⟨sX9_startOver, ?_⟩
  refine List.forall_mem_cons.mpr ⟨sX9_fail, ?_⟩
  refine List.forall_mem_cons.mpr ⟨sX9_accept, ?_⟩
  refine List.forall_mem_cons.mpr ⟨sX9_goesOnWith, ?_⟩
  refine List.forall_mem_cons.mpr ⟨sX9_beginsOperand, ?_⟩
  refine List.forall_mem_cons.mpr ⟨sX9_followsLiteral, ?_⟩
  refine List.forall_mem_cons.mpr ⟨sX9_followsOperand, ?_⟩
  refine List.forall_mem_cons.mpr ⟨sX9_isArithmetic, ?_⟩
  refine List.forall_mem_cons.mpr ⟨sX9_isComparison, ?_⟩
  refine List.forall_mem_cons.mpr ⟨sX9_isTooMuch, ?_⟩
  refine List.forall_mem_cons.mpr ⟨sX9_take, ?_⟩
  refine List.forall_mem_cons.mpr ⟨sX9_takeAmount, ?_⟩
  refine List.forall_mem_cons.mpr ⟨sX9_takeOperand, ?_⟩
  refine List.forall_mem_cons.mpr ⟨sX9_takeOperator, ?_⟩
  refine List.forall_mem_cons.mpr ⟨sX9_putOff, ?_⟩
  refine List.forall_mem_cons.mpr ⟨sX9_writeTighter, ?_⟩
  refine List.forall_mem_cons.mpr ⟨sX9_tightness, ?_⟩
  refine List.forall_mem_cons.mpr ⟨sX10_init, ?_⟩
  refine List.forall_mem_cons.mpr ⟨sX10_clear, ?_⟩
  refine List.forall_mem_cons.mpr ⟨sX10_write, ?_⟩
  refine List.forall_mem_cons.mpr ⟨sX10_endRule, ?_⟩
  refine List.forall_mem_cons.mpr ⟨sX10_weigh, ?_⟩
  refine List.forall_mem_cons.mpr ⟨sX10_isMet, ?_⟩
  refine List.forall_mem_cons.mpr ⟨sX10_valueOf, ?_⟩
  refine List.forall_mem_cons.mpr ⟨sX10_join, ?_⟩
  refine List.forall_mem_cons.mpr ⟨sX11_init, ?_⟩
  refine List.forall_mem_cons.mpr ⟨sX11_feed, ?_⟩
  refine List.forall_mem_cons.mpr ⟨sX11_back, ?_⟩
  refine List.forall_mem_cons.mpr ⟨sX11_read, ?_⟩
  refine List.forall_mem_cons.mpr ⟨sX11_place, ?_⟩
  refine List.forall_mem_cons.mpr ⟨sX11_channels, ?_⟩
  refine List.forall_mem_cons.mpr ⟨sX11_source, ?_⟩
  refine List.forall_mem_cons.mpr ⟨sX11_notice, ?_⟩
  refine List.forall_mem_cons.mpr ⟨sX11_over, ?_⟩
  refine List.forall_mem_cons.mpr ⟨sX11_recorder, ?_⟩
  refine List.forall_mem_cons.mpr ⟨sX11_clock, ?_⟩
  refine List.forall_mem_cons.mpr ⟨sX11_sent, ?_⟩
  refine List.forall_mem_cons.mpr ⟨sX11_says, ?_⟩
  refine List.forall_mem_cons.mpr ⟨sX11_showing, ?_⟩
  refine List.forall_mem_cons.mpr ⟨sX11_showings, ?_⟩
  refine List.forall_mem_cons.mpr ⟨sX11_holds, ?_⟩
  refine List.forall_mem_cons.mpr ⟨sX11_plan, ?_⟩
  refine List.forall_mem_cons.mpr ⟨sX11_candidate, ?_⟩
  refine List.forall_mem_cons.mpr ⟨sX11_count, ?_⟩
  refine List.forall_mem_cons.mpr ⟨sX11_countInPlan, ?_⟩
  refine List.forall_mem_cons.mpr ⟨sX11_findShowing, ?_⟩
  refine List.forall_mem_cons.mpr ⟨sX12_init, ?_⟩
  refine List.forall_mem_cons.mpr ⟨sX12_feed, ?_⟩
  refine List.forall_mem_cons.mpr ⟨sX12_put, ?_⟩
  refine List.forall_mem_cons.mpr ⟨sX12_back, ?_⟩
  refine List.forall_mem_cons.mpr ⟨sX12_at, ?_⟩
  refine List.forall_mem_cons.mpr ⟨sX12_isDigit, ?_⟩
  refine List.forall_mem_cons.mpr ⟨sX12_isLetter, ?_⟩
  refine List.forall_mem_cons.mpr ⟨sX12_more, ?_⟩
  refine List.forall_mem_cons.mpr ⟨sX12_word, ?_⟩
  refine List.forall_mem_cons.mpr ⟨sX12_token, ?_⟩
  refine List.forall_mem_cons.mpr ⟨sX12_cut, ?_⟩
  refine List.forall_mem_cons.mpr ⟨sX12_sign, ?_⟩
  refine List.forall_mem_cons.mpr ⟨sX12_is, ?_⟩
  refine List.forall_mem_cons.mpr ⟨sX12_fail, ?_⟩
  refine List.forall_mem_cons.mpr ⟨sX12_wrong, ?_⟩
  refine List.forall_mem_cons.mpr ⟨sX12_next, ?_⟩
  refine List.forall_mem_cons.mpr ⟨sX12_must, ?_⟩
  refine List.forall_mem_cons.mpr ⟨sX12_read, ?_⟩
  refine List.forall_mem_cons.mpr ⟨sX12_place, ?_⟩
  refine List.forall_mem_cons.mpr ⟨sX12_tellRule, ?_⟩
  refine List.forall_mem_cons.mpr ⟨sX12_literal, ?_⟩
  refine List.forall_mem_cons.mpr ⟨sX12_emit, ?_⟩
  refine List.forall_mem_cons.mpr ⟨sX12_comesOut, ?_⟩
  refine List.forall_mem_cons.mpr ⟨sX12_expression, ?_⟩
  refine List.forall_mem_cons.mpr ⟨sX12_isChannel, ?_⟩
  refine List.forall_mem_cons.mpr ⟨sX12_isSlot, ?_⟩
  refine List.forall_mem_cons.mpr ⟨sX12_isKnown, ?_⟩
  refine List.forall_mem_cons.mpr ⟨sX12_channels, ?_⟩
  refine List.forall_mem_cons.mpr ⟨sX12_source, ?_⟩
  refine List.forall_mem_cons.mpr ⟨sX12_notice, ?_⟩
  refine List.forall_mem_cons.mpr ⟨sX12_over, ?_⟩
  refine List.forall_mem_cons.mpr ⟨sX12_recorder, ?_⟩
  refine List.forall_mem_cons.mpr ⟨sX12_clock, ?_⟩
  refine List.forall_mem_cons.mpr ⟨sX12_hears, ?_⟩
  refine List.forall_mem_cons.mpr ⟨sX12_makes, ?_⟩
  refine List.forall_mem_cons.mpr ⟨sX12_pushes, ?_⟩
  refine List.forall_mem_cons.mpr ⟨sX12_shows, ?_⟩
  refine List.forall_mem_cons.mpr ⟨sX12_areOne, ?_⟩
  refine List.forall_mem_cons.mpr ⟨sX12_sent, ?_⟩
  refine List.forall_mem_cons.mpr ⟨sX12_says, ?_⟩
  refine List.forall_mem_cons.mpr ⟨sX12_variable, ?_⟩
  refine List.forall_mem_cons.mpr ⟨sX12_value, ?_⟩
  refine List.forall_mem_cons.mpr ⟨sX12_leastOne, ?_⟩
  refine List.forall_mem_cons.mpr ⟨sX12_isTrue, ?_⟩
  refine List.forall_mem_cons.mpr ⟨sX12_isHeld, ?_⟩
  refine List.forall_mem_cons.mpr ⟨sX12_weightOf, ?_⟩
  refine List.forall_mem_cons.mpr ⟨sX12_showings, ?_⟩
  refine List.forall_mem_cons.mpr ⟨sX12_showing, ?_⟩
  refine List.forall_mem_cons.mpr ⟨sX12_holds, ?_⟩
  refine List.forall_mem_cons.mpr ⟨sX12_begins, ?_⟩
  refine List.forall_mem_cons.mpr ⟨sX12_meet, ?_⟩
  refine List.forall_mem_cons.mpr ⟨sX12_areAlike, ?_⟩
  refine List.forall_mem_cons.mpr ⟨sX12_roomOf, ?_⟩
  refine List.forall_mem_cons.mpr ⟨sX12_isThin, ?_⟩
  refine List.forall_mem_cons.mpr ⟨sX12_isPlan, ?_⟩
  refine List.forall_mem_cons.mpr ⟨sX12_plan, ?_⟩
  refine List.forall_mem_cons.mpr ⟨sX12_finds, ?_⟩
  refine List.forall_mem_cons.mpr ⟨sX12_reasons, ?_⟩
  refine List.forall_mem_cons.mpr ⟨sX12_candidate, ?_⟩
  refine List.forall_mem_cons.mpr ⟨sX12_count, ?_⟩
  refine List.forall_mem_cons.mpr ⟨sJ6_bitCount_0f7a4, ?_⟩
  refine List.forall_mem_cons.mpr ⟨sJ7_fill_53178, ?_⟩
  exact List.forall_mem_nil _
theorem sys_dec : mAll.all (fun e => decide (e.1.2.1 = e.1.1.cls) && plainName e.1.1.cls && (!e.1.2.2.2.2.2 || decide (e.1.1.name = "<init>"))) = true := by decide +kernel
theorem sys_ok (hmna : mSnd mInf iX1_init 25 (o_mna 29)) (hkow : mSnd mInf iX8_kindOfWord 0 o_kow) : mSys mInf mProg := by
  intro y
  have h : (mAll.getD y mDf) ∈ mAll ∨ mAll.getD y mDf = mDf := by
    rw [List.getD_eq_getElem?_getD]
    cases hy : mAll[y]? with
    | none => exact Or.inr rfl
    | some e => exact Or.inl (List.mem_of_getElem? hy)
  refine ⟨rfl, ?_⟩
  show (mAll.getD y mDf).1.2.1 = (mAll.getD y mDf).1.1.cls ∧ plainName (mAll.getD y mDf).1.1.cls = true ∧ ((mAll.getD y mDf).1.2.2.2.2.2 = true → (mAll.getD y mDf).1.1.name = "<init>") ∧ ∀ q ∈ (mAll.getD y mDf).2, mSnd mInf (mAll.getD y mDf).1.2 q.1 q.2
  rcases h with h | h
  · have h2 := List.all_eq_true.mp sys_dec _ h
    simp only [Bool.and_eq_true, decide_eq_true_eq, Bool.or_eq_true, Bool.not_eq_true'] at h2
    refine ⟨h2.1.1, h2.1.2, fun q => ?_, sys_all hmna hkow _ h⟩
    rcases h2.2 with h3 | h3
    · rw [q] at h3
      cases h3
    · exact h3
  · rw [h]
    exact ⟨rfl, by decide +kernel, fun _ => rfl, fun q hq => by cases hq⟩
