theorem x_scanInt {d : Nat} {M : mM} {Q : mV → mM → Prop} {sz i : Nat} (h : SH M) (hs : gi M 16 0 = sz) (h2 : sz ≤ 2000) (h3 : gi M 16 3 = i) (hi : i < sz) (hl : ¬ isLt (gi M 17 i)) (hg : isDg (gi M 17 i))
    (hQ : ∀ v : Int, (tkK (gi M 17) sz i = 1 → v = tkV (gi M 17) sz i) → Q vj (si (si (si M 16 2 v) 16 4 (tkE (gi M 17) sz i : Nat)) 16 1 (tkK (gi M 17) sz i))) :
    CP (mc (d + 2)) 65 [vr (some 16)] M Q := by
  have hE : dgE (gi M 17) (sz - i) i = tkE (gi M 17) sz i := by unfold tkE; rw [if_neg hl, if_pos hg]
  have hb := tkE_lt (B := gi M 17) hi
  have hK : tkK (gi M 17) sz i = if 4 < tkE (gi M 17) sz i - i then 0 else 1 := by rw [tkK, if_neg hl, if_pos hg]
  simp only [↓cpX8_scanInt, ↓eX8_scanInt_0, ↓eX8_scanInt_1, ↓eX8_scanInt_2, ↓eX8_scanInt_5, ↓eX8_scanInt_6, ↓eX8_scanInt_7, ↓eX8_scanInt_10, hk16 h, h3, Int.cast_ofNat_Int, kd_si, gr_si, ln_si, gi_same, gi_na, gi_ni, nl_i, nl_r, nl_j, nj_i, nj_l, nj_r, true_and, and_true, and_self, cs_0, cs_1, cs_2, cs_3, cs_4, ↓reduceIte, Nat.reduceLeDiff, Nat.reduceEqDiff, Nat.reduceAdd, Int.reduceLE, Int.reduceLT, Int.reduceEq, Int.reduceAdd, Int.reduceNeg, Int.reduceToNat, Int.toNat_natCast, ne_eq, not_false_eq_true, not_true_eq_false, or_true, true_or, or_false, false_or]
  refine x_dg_loop (b := i) h hs h2 (fun v hv => ?_) (sz - i) i 0 (by omega) (Nat.le_refl i) rfl (fun _ => ⟨by rw [Nat.sub_self]; rfl, by omega, by rw [Nat.sub_self]; decide⟩)
  rw [hE] at hv ⊢
  have hQ' := hQ v (fun z => by
    rw [hK] at z
    refine hv ?_
    by_cases q : 4 < tkE (gi M 17) sz i - i
    · rw [if_pos q] at z; omega
    · omega)
  rw [hK] at hQ'
  clear hQ
  generalize tkE (gi M 17) sz i = e at *
  have hN : SH (si (si M 16 2 v) 16 4 (e : Int)) := h
  have w1 : wr ((e : Int) - (i : Int)) = ((e - i : Nat) : Int) := by rw [wr_id (by omega) (by omega)]; omega
  by_cases q : 4 < e - i
  · have q1 : (((e - i : Nat) : Int) ≤ 4) = False := eq_false (by omega)
    rw [if_pos q] at hQ'
    simp only [↓eX8_scanInt_74, ↓eX8_scanInt_75, ↓eX8_scanInt_76, ↓eX8_scanInt_79, ↓eX8_scanInt_80, ↓eX8_scanInt_83, ↓eX8_scanInt_84, ↓eX8_scanInt_85, ↓eX8_scanInt_88, ↓eX8_scanInt_89, ↓eX8_scanInt_92, ↓eX8_scanInt_93, ↓eX8_scanInt_96, hk16 hN, h3, w1, q1, Int.cast_ofNat_Int, kd_si, gr_si, ln_si, gi_same, gi_na, gi_ni, nl_i, nl_r, nl_j, nj_i, nj_l, nj_r, true_and, and_true, and_self, cs_0, cs_1, cs_2, cs_3, cs_4, ↓reduceIte, Nat.reduceLeDiff, Nat.reduceEqDiff, Nat.reduceAdd, Int.reduceLE, Int.reduceLT, Int.reduceEq, Int.reduceAdd, Int.reduceNeg, Int.reduceToNat, Int.toNat_natCast, ne_eq, not_false_eq_true, not_true_eq_false, or_true, true_or, or_false, false_or]
    exact hQ'
  · have q1 : (((e - i : Nat) : Int) ≤ 4) = True := eq_true (by omega)
    rw [if_neg q] at hQ'
    simp only [↓eX8_scanInt_74, ↓eX8_scanInt_75, ↓eX8_scanInt_76, ↓eX8_scanInt_79, ↓eX8_scanInt_80, ↓eX8_scanInt_83, ↓eX8_scanInt_84, ↓eX8_scanInt_85, ↓eX8_scanInt_88, ↓eX8_scanInt_89, ↓eX8_scanInt_92, ↓eX8_scanInt_93, ↓eX8_scanInt_96, hk16 hN, h3, w1, q1, Int.cast_ofNat_Int, kd_si, gr_si, ln_si, gi_same, gi_na, gi_ni, nl_i, nl_r, nl_j, nj_i, nj_l, nj_r, true_and, and_true, and_self, cs_0, cs_1, cs_2, cs_3, cs_4, ↓reduceIte, Nat.reduceLeDiff, Nat.reduceEqDiff, Nat.reduceAdd, Int.reduceLE, Int.reduceLT, Int.reduceEq, Int.reduceAdd, Int.reduceNeg, Int.reduceToNat, Int.toNat_natCast, ne_eq, not_false_eq_true, not_true_eq_false, or_true, true_or, or_false, false_or]
    exact hQ'
theorem x_scanSign {d : Nat} {M : mM} {Q : mV → mM → Prop} {sz i : Nat} (h : SH M) (hs : gi M 16 0 = sz) (h2 : sz ≤ 2000) (h3 : gi M 16 3 = i) (hi : i < sz) (hl : ¬ isLt (gi M 17 i)) (hg : ¬ isDg (gi M 17 i))
    (hQ : ∀ N, YF tpS M N → gi N 16 1 = tkK (gi M 17) sz i → gi N 16 3 = i → gi N 16 4 = (tkE (gi M 17) sz i : Nat) → Q vj N) :
    CP (mc (d + 2)) 66 [vr (some 16), vi (gi M 17 i)] M Q := by
  have e2 : wr ((i : Int) + 1) = ((i + 1 : Nat) : Int) := by rw [wr_id (by omega) (by omega)]; omega
  have e3 : wr ((i : Int) + 2) = ((i + 2 : Nat) : Int) := by rw [wr_id (by omega) (by omega)]; omega
  have fb := fun (Q : mV → mM → Prop) => x_byteAt (d := d) (Q := Q) (M := M) (sz := sz) (i := i + 1) h hs h2
  have hK : tkK (gi M 17) sz i = if prd (gi M 17) sz i then kp (gi M 17 i) else ks (gi M 17 i) := by rw [tkK, if_neg hl, if_neg hg]
  have hE : tkE (gi M 17) sz i = if prd (gi M 17) sz i then i + 2 else i + 1 := by unfold tkE; rw [if_neg hl, if_neg hg]
  have t1 : tpS 16 1 := ⟨rfl, by decide, by decide⟩
  have t4 : tpS 16 4 := ⟨rfl, by decide, by decide⟩
  by_cases q1 : bt (gi M 17) sz (i + 1) = 61
  · by_cases q2 : kp (gi M 17 i) = 0
    · have q : ¬ prd (gi M 17) sz i := fun w => w.2 q2
      rw [if_neg q] at hK hE
      simp only [↓cpX8_scanSign, ↓eX8_scanSign_0, ↓eX8_scanSign_1, ↓eX8_scanSign_2, ↓eX8_scanSign_5, ↓eX8_scanSign_6, ↓eX8_scanSign_7, ↓eX8_scanSign_10, ↓eX8_scanSign_12, ↓eX8_scanSign_15, ↓eX8_scanSign_16, ↓eX8_scanSign_19, ↓eX8_scanSign_20, ↓eX8_scanSign_21, ↓eX8_scanSign_22, ↓eX8_scanSign_23, ↓eX8_scanSign_26, ↓eX8_scanSign_27, ↓eX8_scanSign_30, ↓eX8_scanSign_33, ↓eX8_scanSign_34, ↓eX8_scanSign_37, ↓eX8_scanSign_38, ↓eX8_scanSign_39, ↓eX8_scanSign_42, ↓eX8_scanSign_43, ↓eX8_scanSign_44, ↓eX8_scanSign_47, ↓eX8_scanSign_48, ↓eX8_scanSign_51, ↓eX8_scanSign_54, ↓eX8_scanSign_55, ↓eX8_scanSign_56, ↓eX8_scanSign_59, ↓eX8_scanSign_62, ↓eX8_scanSign_63, ↓eX8_scanSign_64, ↓eX8_scanSign_67, ↓eX8_scanSign_68, ↓eX8_scanSign_69, ↓eX8_scanSign_72, hk16 h, h3, e2, e3, ↓fb, ↓x_kindOfPair, ↓x_kindOfSign, q1, q2, Int.cast_ofNat_Int, kd_si, gr_si, ln_si, gi_same, gi_na, gi_ni, nl_i, nl_r, nl_j, nj_i, nj_l, nj_r, true_and, and_true, and_self, cs_0, cs_1, cs_2, cs_3, cs_4, ↓reduceIte, Nat.reduceLeDiff, Nat.reduceEqDiff, Nat.reduceAdd, Int.reduceLE, Int.reduceLT, Int.reduceEq, Int.reduceAdd, Int.reduceNeg, Int.reduceToNat, Int.toNat_natCast, ne_eq, not_false_eq_true, not_true_eq_false, or_true, true_or, or_false, false_or]
      refine hQ _ (YF_si t4 (YF_si t1 (YF_si t4 (YF_si t1 YF_refl)))) ?_ ?_ ?_
      · rw [hK]; simp only [Int.cast_ofNat_Int, kd_si, gr_si, ln_si, gi_same, gi_na, gi_ni, nl_i, nl_r, nl_j, nj_i, nj_l, nj_r, true_and, and_true, and_self, cs_0, cs_1, cs_2, cs_3, cs_4, ↓reduceIte, Nat.reduceLeDiff, Nat.reduceEqDiff, Nat.reduceAdd, Int.reduceLE, Int.reduceLT, Int.reduceEq, Int.reduceAdd, Int.reduceNeg, Int.reduceToNat, Int.toNat_natCast, ne_eq, not_false_eq_true, not_true_eq_false, or_true, true_or, or_false, false_or]
      · simp only [h3, Int.cast_ofNat_Int, kd_si, gr_si, ln_si, gi_same, gi_na, gi_ni, nl_i, nl_r, nl_j, nj_i, nj_l, nj_r, true_and, and_true, and_self, cs_0, cs_1, cs_2, cs_3, cs_4, ↓reduceIte, Nat.reduceLeDiff, Nat.reduceEqDiff, Nat.reduceAdd, Int.reduceLE, Int.reduceLT, Int.reduceEq, Int.reduceAdd, Int.reduceNeg, Int.reduceToNat, Int.toNat_natCast, ne_eq, not_false_eq_true, not_true_eq_false, or_true, true_or, or_false, false_or]
      · rw [hE]; simp only [Int.cast_ofNat_Int, kd_si, gr_si, ln_si, gi_same, gi_na, gi_ni, nl_i, nl_r, nl_j, nj_i, nj_l, nj_r, true_and, and_true, and_self, cs_0, cs_1, cs_2, cs_3, cs_4, ↓reduceIte, Nat.reduceLeDiff, Nat.reduceEqDiff, Nat.reduceAdd, Int.reduceLE, Int.reduceLT, Int.reduceEq, Int.reduceAdd, Int.reduceNeg, Int.reduceToNat, Int.toNat_natCast, ne_eq, not_false_eq_true, not_true_eq_false, or_true, true_or, or_false, false_or]
    · have q : prd (gi M 17) sz i := ⟨q1, q2⟩
      rw [if_pos q] at hK hE
      simp only [↓cpX8_scanSign, ↓eX8_scanSign_0, ↓eX8_scanSign_1, ↓eX8_scanSign_2, ↓eX8_scanSign_5, ↓eX8_scanSign_6, ↓eX8_scanSign_7, ↓eX8_scanSign_10, ↓eX8_scanSign_12, ↓eX8_scanSign_15, ↓eX8_scanSign_16, ↓eX8_scanSign_19, ↓eX8_scanSign_20, ↓eX8_scanSign_21, ↓eX8_scanSign_22, ↓eX8_scanSign_23, ↓eX8_scanSign_26, ↓eX8_scanSign_27, ↓eX8_scanSign_30, ↓eX8_scanSign_33, ↓eX8_scanSign_34, ↓eX8_scanSign_37, ↓eX8_scanSign_38, ↓eX8_scanSign_39, ↓eX8_scanSign_42, ↓eX8_scanSign_43, ↓eX8_scanSign_44, ↓eX8_scanSign_47, ↓eX8_scanSign_48, ↓eX8_scanSign_51, ↓eX8_scanSign_54, ↓eX8_scanSign_55, ↓eX8_scanSign_56, ↓eX8_scanSign_59, ↓eX8_scanSign_62, ↓eX8_scanSign_63, ↓eX8_scanSign_64, ↓eX8_scanSign_67, ↓eX8_scanSign_68, ↓eX8_scanSign_69, ↓eX8_scanSign_72, hk16 h, h3, e2, e3, ↓fb, ↓x_kindOfPair, ↓x_kindOfSign, q1, q2, Int.cast_ofNat_Int, kd_si, gr_si, ln_si, gi_same, gi_na, gi_ni, nl_i, nl_r, nl_j, nj_i, nj_l, nj_r, true_and, and_true, and_self, cs_0, cs_1, cs_2, cs_3, cs_4, ↓reduceIte, Nat.reduceLeDiff, Nat.reduceEqDiff, Nat.reduceAdd, Int.reduceLE, Int.reduceLT, Int.reduceEq, Int.reduceAdd, Int.reduceNeg, Int.reduceToNat, Int.toNat_natCast, ne_eq, not_false_eq_true, not_true_eq_false, or_true, true_or, or_false, false_or]
      refine hQ _ (YF_si t4 (YF_si t1 YF_refl)) ?_ ?_ ?_
      · rw [hK]; simp only [Int.cast_ofNat_Int, kd_si, gr_si, ln_si, gi_same, gi_na, gi_ni, nl_i, nl_r, nl_j, nj_i, nj_l, nj_r, true_and, and_true, and_self, cs_0, cs_1, cs_2, cs_3, cs_4, ↓reduceIte, Nat.reduceLeDiff, Nat.reduceEqDiff, Nat.reduceAdd, Int.reduceLE, Int.reduceLT, Int.reduceEq, Int.reduceAdd, Int.reduceNeg, Int.reduceToNat, Int.toNat_natCast, ne_eq, not_false_eq_true, not_true_eq_false, or_true, true_or, or_false, false_or]
      · simp only [h3, Int.cast_ofNat_Int, kd_si, gr_si, ln_si, gi_same, gi_na, gi_ni, nl_i, nl_r, nl_j, nj_i, nj_l, nj_r, true_and, and_true, and_self, cs_0, cs_1, cs_2, cs_3, cs_4, ↓reduceIte, Nat.reduceLeDiff, Nat.reduceEqDiff, Nat.reduceAdd, Int.reduceLE, Int.reduceLT, Int.reduceEq, Int.reduceAdd, Int.reduceNeg, Int.reduceToNat, Int.toNat_natCast, ne_eq, not_false_eq_true, not_true_eq_false, or_true, true_or, or_false, false_or]
      · rw [hE]; simp only [Int.cast_ofNat_Int, kd_si, gr_si, ln_si, gi_same, gi_na, gi_ni, nl_i, nl_r, nl_j, nj_i, nj_l, nj_r, true_and, and_true, and_self, cs_0, cs_1, cs_2, cs_3, cs_4, ↓reduceIte, Nat.reduceLeDiff, Nat.reduceEqDiff, Nat.reduceAdd, Int.reduceLE, Int.reduceLT, Int.reduceEq, Int.reduceAdd, Int.reduceNeg, Int.reduceToNat, Int.toNat_natCast, ne_eq, not_false_eq_true, not_true_eq_false, or_true, true_or, or_false, false_or]
  · have q : ¬ prd (gi M 17) sz i := fun w => q1 w.1
    rw [if_neg q] at hK hE
    simp only [↓cpX8_scanSign, ↓eX8_scanSign_0, ↓eX8_scanSign_1, ↓eX8_scanSign_2, ↓eX8_scanSign_5, ↓eX8_scanSign_6, ↓eX8_scanSign_7, ↓eX8_scanSign_10, ↓eX8_scanSign_12, ↓eX8_scanSign_15, ↓eX8_scanSign_16, ↓eX8_scanSign_19, ↓eX8_scanSign_20, ↓eX8_scanSign_21, ↓eX8_scanSign_22, ↓eX8_scanSign_23, ↓eX8_scanSign_26, ↓eX8_scanSign_27, ↓eX8_scanSign_30, ↓eX8_scanSign_33, ↓eX8_scanSign_34, ↓eX8_scanSign_37, ↓eX8_scanSign_38, ↓eX8_scanSign_39, ↓eX8_scanSign_42, ↓eX8_scanSign_43, ↓eX8_scanSign_44, ↓eX8_scanSign_47, ↓eX8_scanSign_48, ↓eX8_scanSign_51, ↓eX8_scanSign_54, ↓eX8_scanSign_55, ↓eX8_scanSign_56, ↓eX8_scanSign_59, ↓eX8_scanSign_62, ↓eX8_scanSign_63, ↓eX8_scanSign_64, ↓eX8_scanSign_67, ↓eX8_scanSign_68, ↓eX8_scanSign_69, ↓eX8_scanSign_72, hk16 h, h3, e2, e3, ↓fb, ↓x_kindOfPair, ↓x_kindOfSign, q1, Int.cast_ofNat_Int, kd_si, gr_si, ln_si, gi_same, gi_na, gi_ni, nl_i, nl_r, nl_j, nj_i, nj_l, nj_r, true_and, and_true, and_self, cs_0, cs_1, cs_2, cs_3, cs_4, ↓reduceIte, Nat.reduceLeDiff, Nat.reduceEqDiff, Nat.reduceAdd, Int.reduceLE, Int.reduceLT, Int.reduceEq, Int.reduceAdd, Int.reduceNeg, Int.reduceToNat, Int.toNat_natCast, ne_eq, not_false_eq_true, not_true_eq_false, or_true, true_or, or_false, false_or]
    refine hQ _ (YF_si t4 (YF_si t1 (YF_si t4 (YF_si t1 YF_refl)))) ?_ ?_ ?_
    · rw [hK]; simp only [Int.cast_ofNat_Int, kd_si, gr_si, ln_si, gi_same, gi_na, gi_ni, nl_i, nl_r, nl_j, nj_i, nj_l, nj_r, true_and, and_true, and_self, cs_0, cs_1, cs_2, cs_3, cs_4, ↓reduceIte, Nat.reduceLeDiff, Nat.reduceEqDiff, Nat.reduceAdd, Int.reduceLE, Int.reduceLT, Int.reduceEq, Int.reduceAdd, Int.reduceNeg, Int.reduceToNat, Int.toNat_natCast, ne_eq, not_false_eq_true, not_true_eq_false, or_true, true_or, or_false, false_or]
    · simp only [h3, Int.cast_ofNat_Int, kd_si, gr_si, ln_si, gi_same, gi_na, gi_ni, nl_i, nl_r, nl_j, nj_i, nj_l, nj_r, true_and, and_true, and_self, cs_0, cs_1, cs_2, cs_3, cs_4, ↓reduceIte, Nat.reduceLeDiff, Nat.reduceEqDiff, Nat.reduceAdd, Int.reduceLE, Int.reduceLT, Int.reduceEq, Int.reduceAdd, Int.reduceNeg, Int.reduceToNat, Int.toNat_natCast, ne_eq, not_false_eq_true, not_true_eq_false, or_true, true_or, or_false, false_or]
    · rw [hE]; simp only [Int.cast_ofNat_Int, kd_si, gr_si, ln_si, gi_same, gi_na, gi_ni, nl_i, nl_r, nl_j, nj_i, nj_l, nj_r, true_and, and_true, and_self, cs_0, cs_1, cs_2, cs_3, cs_4, ↓reduceIte, Nat.reduceLeDiff, Nat.reduceEqDiff, Nat.reduceAdd, Int.reduceLE, Int.reduceLT, Int.reduceEq, Int.reduceAdd, Int.reduceNeg, Int.reduceToNat, Int.toNat_natCast, ne_eq, not_false_eq_true, not_true_eq_false, or_true, true_or, or_false, false_or]
/-- advance: the next token, or none -/
theorem x_advance {d : Nat} {M : mM} {Q : mV → mM → Prop} {sz e : Nat} (h : SH M) (hs : gi M 16 0 = sz) (h2 : sz ≤ 2000) (h4 : gi M 16 4 = e) (he : e ≤ sz)
    (hQ0 : skp (gi M 17) (sz - e) e = sz → ∀ N, YF tpS M N → Q (vi 0) N)
    (hQ1 : skp (gi M 17) (sz - e) e < sz → ∀ N, YF tpS M N → gi N 16 1 = tkK (gi M 17) sz (skp (gi M 17) (sz - e) e) → gi N 16 3 = (skp (gi M 17) (sz - e) e : Nat) → gi N 16 4 = (tkE (gi M 17) sz (skp (gi M 17) (sz - e) e) : Nat) → (tkK (gi M 17) sz (skp (gi M 17) (sz - e) e) = 1 → gi N 16 2 = tkV (gi M 17) sz (skp (gi M 17) (sz - e) e)) → Q (vi 1) N) :
    CP (mc (d + 3)) 63 [vr (some 16)] M Q := by
  have hb := skp_le (gi M 17) (sz - e) e
  simp only [↓cpX8_advance, ↓eX8_advance_0, ↓eX8_advance_1, ↓eX8_advance_2, ↓eX8_advance_5, hk16 h, h4, Int.cast_ofNat_Int, kd_si, gr_si, ln_si, gi_same, gi_na, gi_ni, nl_i, nl_r, nl_j, nj_i, nj_l, nj_r, true_and, and_true, and_self, cs_0, cs_1, cs_2, cs_3, cs_4, ↓reduceIte, Nat.reduceLeDiff, Nat.reduceEqDiff, Nat.reduceAdd, Int.reduceLE, Int.reduceLT, Int.reduceEq, Int.reduceAdd, Int.reduceNeg, Int.reduceToNat, Int.toNat_natCast, ne_eq, not_false_eq_true, not_true_eq_false, or_true, true_or, or_false, false_or]
  rw [x_adv_loop h hs h2 (sz - e) e (by omega)]
  generalize skp (gi M 17) (sz - e) e = i at *
  have t1 : tpS 16 1 := ⟨rfl, by decide, by decide⟩
  have t2 : tpS 16 2 := ⟨rfl, by decide, by decide⟩
  have t3 : tpS 16 3 := ⟨rfl, by decide, by decide⟩
  have t4 : tpS 16 4 := ⟨rfl, by decide, by decide⟩
  obtain ⟨N, hN⟩ : ∃ N, N = si M 16 3 i := ⟨_, rfl⟩
  rw [← hN]
  have yN : YF tpS M N := by rw [hN]; exact YF_si t3 YF_refl
  have sN := YF_SH yN h
  have g0 : gi N 16 0 = sz := by rw [yN.2 16 0 (by unfold tpS; omega)]; exact hs
  have g3 : gi N 16 3 = i := by rw [hN, gi_same]
  have g17 : gi N 17 = gi M 17 := by funext j; exact yN.2 17 j (by unfold tpS; omega)
  by_cases q : i = sz
  · have e1 : ((i : Int) < (sz : Int)) = False := eq_false (by omega)
    simp only [↓eX8_advance_46, ↓eX8_advance_47, ↓eX8_advance_50, ↓eX8_advance_51, ↓eX8_advance_54, ↓eX8_advance_57, ↓eX8_advance_58, hk16 sN, g0, g3, e1, Int.cast_ofNat_Int, kd_si, gr_si, ln_si, gi_same, gi_na, gi_ni, nl_i, nl_r, nl_j, nj_i, nj_l, nj_r, true_and, and_true, and_self, cs_0, cs_1, cs_2, cs_3, cs_4, ↓reduceIte, Nat.reduceLeDiff, Nat.reduceEqDiff, Nat.reduceAdd, Int.reduceLE, Int.reduceLT, Int.reduceEq, Int.reduceAdd, Int.reduceNeg, Int.reduceToNat, Int.toNat_natCast, ne_eq, not_false_eq_true, not_true_eq_false, or_true, true_or, or_false, false_or]
    exact hQ0 q N yN
  · have e1 : ((i : Int) < (sz : Int)) = True := eq_true (by omega)
    have q' : i < sz := by omega
    have fb := fun (Q : mV → mM → Prop) => x_byteAt (d := d + 1) (Q := Q) (M := N) (sz := sz) (i := i) sN g0 h2
    have bb : bt (gi N 17) sz i = gi M 17 i := by unfold bt; rw [if_pos q', g17]
    rw [bb] at fb
    have tail : ∀ (c : Int) R, WP (mc (d + 2)) tX8_advance 101 [vr (some 16), vi c] [] R Q = Q (vi 1) R := fun c R => by simp only [↓eX8_advance_101, ↓eX8_advance_102, Int.cast_ofNat_Int, kd_si, gr_si, ln_si, gi_same, gi_na, gi_ni, nl_i, nl_r, nl_j, nj_i, nj_l, nj_r, true_and, and_true, and_self, cs_0, cs_1, cs_2, cs_3, cs_4, ↓reduceIte, Nat.reduceLeDiff, Nat.reduceEqDiff, Nat.reduceAdd, Int.reduceLE, Int.reduceLT, Int.reduceEq, Int.reduceAdd, Int.reduceNeg, Int.reduceToNat, Int.toNat_natCast, ne_eq, not_false_eq_true, not_true_eq_false, or_true, true_or, or_false, false_or]
    simp only [↓eX8_advance_46, ↓eX8_advance_47, ↓eX8_advance_50, ↓eX8_advance_51, ↓eX8_advance_54, ↓eX8_advance_57, ↓eX8_advance_58, ↓eX8_advance_59, ↓eX8_advance_60, ↓eX8_advance_61, ↓eX8_advance_64, ↓eX8_advance_67, ↓eX8_advance_68, ↓eX8_advance_69, ↓eX8_advance_72, hk16 sN, g0, g3, e1, ↓fb, ↓x_isLetter, Int.cast_ofNat_Int, kd_si, gr_si, ln_si, gi_same, gi_na, gi_ni, nl_i, nl_r, nl_j, nj_i, nj_l, nj_r, true_and, and_true, and_self, cs_0, cs_1, cs_2, cs_3, cs_4, ↓reduceIte, Nat.reduceLeDiff, Nat.reduceEqDiff, Nat.reduceAdd, Int.reduceLE, Int.reduceLT, Int.reduceEq, Int.reduceAdd, Int.reduceNeg, Int.reduceToNat, Int.toNat_natCast, ne_eq, not_false_eq_true, not_true_eq_false, or_true, true_or, or_false, false_or]
    by_cases l : isLt (gi M 17 i)
    · have fw := fun (Q : mV → mM → Prop) => x_scanWord (d := d) (Q := Q) (M := N) (sz := sz) (i := i) sN g0 h2 g3 q' (by rw [g17]; exact l)
      rw [g17] at fw
      rw [if_pos l]
      simp only [↓eX8_advance_72, ↓eX8_advance_75, ↓eX8_advance_76, ↓eX8_advance_79, hk16 sN, ↓fw, tail, Int.cast_ofNat_Int, kd_si, gr_si, ln_si, gi_same, gi_na, gi_ni, nl_i, nl_r, nl_j, nj_i, nj_l, nj_r, true_and, and_true, and_self, cs_0, cs_1, cs_2, cs_3, cs_4, ↓reduceIte, Nat.reduceLeDiff, Nat.reduceEqDiff, Nat.reduceAdd, Int.reduceLE, Int.reduceLT, Int.reduceEq, Int.reduceAdd, Int.reduceNeg, Int.reduceToNat, Int.toNat_natCast, ne_eq, not_false_eq_true, not_true_eq_false, or_true, true_or, or_false, false_or]
      refine hQ1 q' _ (YF_si t1 (YF_si t4 yN)) (gi_same _ _ _ _) ?_ ?_ ?_
      · simp only [g3, Int.cast_ofNat_Int, kd_si, gr_si, ln_si, gi_same, gi_na, gi_ni, nl_i, nl_r, nl_j, nj_i, nj_l, nj_r, true_and, and_true, and_self, cs_0, cs_1, cs_2, cs_3, cs_4, ↓reduceIte, Nat.reduceLeDiff, Nat.reduceEqDiff, Nat.reduceAdd, Int.reduceLE, Int.reduceLT, Int.reduceEq, Int.reduceAdd, Int.reduceNeg, Int.reduceToNat, Int.toNat_natCast, ne_eq, not_false_eq_true, not_true_eq_false, or_true, true_or, or_false, false_or]
      · simp only [Int.cast_ofNat_Int, kd_si, gr_si, ln_si, gi_same, gi_na, gi_ni, nl_i, nl_r, nl_j, nj_i, nj_l, nj_r, true_and, and_true, and_self, cs_0, cs_1, cs_2, cs_3, cs_4, ↓reduceIte, Nat.reduceLeDiff, Nat.reduceEqDiff, Nat.reduceAdd, Int.reduceLE, Int.reduceLT, Int.reduceEq, Int.reduceAdd, Int.reduceNeg, Int.reduceToNat, Int.toNat_natCast, ne_eq, not_false_eq_true, not_true_eq_false, or_true, true_or, or_false, false_or]
      · intro z
        exfalso
        rw [tkK, if_pos l] at z
        by_cases y : 8 < tkE (gi M 17) sz i - i
        · rw [if_pos y] at z; omega
        · rw [if_neg y] at z
          unfold kw at z
          revert z
          (repeat' split) <;> omega
    · by_cases g : isDg (gi M 17 i)
      · have si1 := x_scanInt (d := d) (Q := fun v R => v = vj ∧ WP (mc (d + 2)) tX8_advance 93 [vr (some 16), vi (gi M 17 i)] [] R Q) (M := N) (sz := sz) (i := i) sN g0 h2 g3 q' (by rw [g17]; exact l) (by rw [g17]; exact g) (fun v hv => ⟨rfl, by
          rw [g17] at hv ⊢
          simp only [↓eX8_advance_93, tail, Int.cast_ofNat_Int, kd_si, gr_si, ln_si, gi_same, gi_na, gi_ni, nl_i, nl_r, nl_j, nj_i, nj_l, nj_r, true_and, and_true, and_self, cs_0, cs_1, cs_2, cs_3, cs_4, ↓reduceIte, Nat.reduceLeDiff, Nat.reduceEqDiff, Nat.reduceAdd, Int.reduceLE, Int.reduceLT, Int.reduceEq, Int.reduceAdd, Int.reduceNeg, Int.reduceToNat, Int.toNat_natCast, ne_eq, not_false_eq_true, not_true_eq_false, or_true, true_or, or_false, false_or]
          refine hQ1 q' _ (YF_si t1 (YF_si t4 (YF_si t2 yN))) (gi_same _ _ _ _) ?_ ?_ ?_
          · simp only [g3, Int.cast_ofNat_Int, kd_si, gr_si, ln_si, gi_same, gi_na, gi_ni, nl_i, nl_r, nl_j, nj_i, nj_l, nj_r, true_and, and_true, and_self, cs_0, cs_1, cs_2, cs_3, cs_4, ↓reduceIte, Nat.reduceLeDiff, Nat.reduceEqDiff, Nat.reduceAdd, Int.reduceLE, Int.reduceLT, Int.reduceEq, Int.reduceAdd, Int.reduceNeg, Int.reduceToNat, Int.toNat_natCast, ne_eq, not_false_eq_true, not_true_eq_false, or_true, true_or, or_false, false_or]
          · simp only [Int.cast_ofNat_Int, kd_si, gr_si, ln_si, gi_same, gi_na, gi_ni, nl_i, nl_r, nl_j, nj_i, nj_l, nj_r, true_and, and_true, and_self, cs_0, cs_1, cs_2, cs_3, cs_4, ↓reduceIte, Nat.reduceLeDiff, Nat.reduceEqDiff, Nat.reduceAdd, Int.reduceLE, Int.reduceLT, Int.reduceEq, Int.reduceAdd, Int.reduceNeg, Int.reduceToNat, Int.toNat_natCast, ne_eq, not_false_eq_true, not_true_eq_false, or_true, true_or, or_false, false_or]
          · intro z
            simp only [Int.cast_ofNat_Int, kd_si, gr_si, ln_si, gi_same, gi_na, gi_ni, nl_i, nl_r, nl_j, nj_i, nj_l, nj_r, true_and, and_true, and_self, cs_0, cs_1, cs_2, cs_3, cs_4, ↓reduceIte, Nat.reduceLeDiff, Nat.reduceEqDiff, Nat.reduceAdd, Int.reduceLE, Int.reduceLT, Int.reduceEq, Int.reduceAdd, Int.reduceNeg, Int.reduceToNat, Int.toNat_natCast, ne_eq, not_false_eq_true, not_true_eq_false, or_true, true_or, or_false, false_or]
            exact hv z⟩)
        rw [if_neg l]
        simp only [↓eX8_advance_72, ↓eX8_advance_75, ↓eX8_advance_76, ↓eX8_advance_79, ↓eX8_advance_82, ↓eX8_advance_83, ↓eX8_advance_86, ↓eX8_advance_89, ↓eX8_advance_90, hk16 sN, ↓x_isDigit, Int.cast_ofNat_Int, kd_si, gr_si, ln_si, gi_same, gi_na, gi_ni, nl_i, nl_r, nl_j, nj_i, nj_l, nj_r, true_and, and_true, and_self, cs_0, cs_1, cs_2, cs_3, cs_4, ↓reduceIte, Nat.reduceLeDiff, Nat.reduceEqDiff, Nat.reduceAdd, Int.reduceLE, Int.reduceLT, Int.reduceEq, Int.reduceAdd, Int.reduceNeg, Int.reduceToNat, Int.toNat_natCast, ne_eq, not_false_eq_true, not_true_eq_false, or_true, true_or, or_false, false_or]
        rw [if_pos g]
        exact si1
      · have sg := x_scanSign (d := d) (Q := fun v R => v = vj ∧ WP (mc (d + 2)) tX8_advance 101 [vr (some 16), vi (gi M 17 i)] [] R Q) (M := N) (sz := sz) (i := i) sN g0 h2 g3 q' (by rw [g17]; exact l) (by rw [g17]; exact g) (fun R yR k1 k3 k4 => ⟨rfl, by
          rw [tail]
          rw [g17] at k1 k4
          refine hQ1 q' R (YF_trans yN yR) k1 k3 k4 (fun z => ?_)
          exfalso
          rw [tkK, if_neg l, if_neg g] at z
          by_cases y : prd (gi M 17) sz i
          · rw [if_pos y] at z
            have := kp_v (gi M 17 i)
            omega
          · rw [if_neg y] at z
            unfold ks at z
            revert z
            (repeat' split) <;> omega⟩)
        rw [g17] at sg
        rw [if_neg l]
        simp only [↓eX8_advance_72, ↓eX8_advance_75, ↓eX8_advance_76, ↓eX8_advance_79, ↓eX8_advance_82, ↓eX8_advance_83, ↓eX8_advance_86, ↓eX8_advance_89, ↓eX8_advance_90, ↓eX8_advance_93, ↓eX8_advance_96, ↓eX8_advance_97, ↓eX8_advance_98, hk16 sN, ↓x_isDigit, Int.cast_ofNat_Int, kd_si, gr_si, ln_si, gi_same, gi_na, gi_ni, nl_i, nl_r, nl_j, nj_i, nj_l, nj_r, true_and, and_true, and_self, cs_0, cs_1, cs_2, cs_3, cs_4, ↓reduceIte, Nat.reduceLeDiff, Nat.reduceEqDiff, Nat.reduceAdd, Int.reduceLE, Int.reduceLT, Int.reduceEq, Int.reduceAdd, Int.reduceNeg, Int.reduceToNat, Int.toNat_natCast, ne_eq, not_false_eq_true, not_true_eq_false, or_true, true_or, or_false, false_or]
        rw [if_neg g]
        exact sg
