/-! ===== which token may follow ===== -/
theorem ifc {α : Type} {P : Prop} [Decidable P] {A B X : α} (h1 : P → X = A) (h2 : ¬ P → X = B) : X = if P then A else B := by
  by_cases h : P
  · rw [if_pos h]; exact h1 h
  · rw [if_neg h]; exact h2 h
theorem x_beginsOperand {d : Nat} {M : mM} {Q : mV → mM → Prop} {k : Int} : CP (mc (d + 1)) 80 [vi k] M Q = if bo k then Q (vi 1) M else Q (vi 0) M := by
  simp only [↓cpX9_beginsOperand, ↓eX9_beginsOperand_0, ↓eX9_beginsOperand_1, ↓eX9_beginsOperand_2, ↓eX9_beginsOperand_5, ↓eX9_beginsOperand_6, ↓eX9_beginsOperand_8, ↓eX9_beginsOperand_11, ↓eX9_beginsOperand_12, ↓eX9_beginsOperand_13, ↓eX9_beginsOperand_16, ↓eX9_beginsOperand_17, ↓eX9_beginsOperand_19, ↓eX9_beginsOperand_22, ↓eX9_beginsOperand_23, ↓eX9_beginsOperand_26, ↓eX9_beginsOperand_27, Int.cast_ofNat_Int, kd_si, gr_si, ln_si, gi_same, gi_na, gi_ni, nl_i, nl_r, nl_j, nj_i, nj_l, nj_r, true_and, and_true, and_self, cs_0, cs_1, cs_2, cs_3, cs_4, ↓reduceIte, Nat.reduceLeDiff, Nat.reduceEqDiff, Nat.reduceAdd, Int.reduceLE, Int.reduceLT, Int.reduceEq, Int.reduceAdd, Int.reduceNeg, Int.reduceToNat, Int.toNat_natCast, ne_eq, not_false_eq_true, not_true_eq_false, or_true, true_or, or_false, false_or]
  unfold bo
  (repeat' split) <;> first | rfl | (exfalso; omega)
theorem x_followsLiteral {d : Nat} {M : mM} {Q : mV → mM → Prop} {k : Int} : CP (mc (d + 1)) 81 [vi k] M Q = if fl3 k then Q (vi 1) M else Q (vi 0) M := by
  simp only [↓cpX9_followsLiteral, ↓eX9_followsLiteral_0, ↓eX9_followsLiteral_1, ↓eX9_followsLiteral_3, ↓eX9_followsLiteral_6, ↓eX9_followsLiteral_7, ↓eX9_followsLiteral_9, ↓eX9_followsLiteral_12, ↓eX9_followsLiteral_13, ↓eX9_followsLiteral_15, ↓eX9_followsLiteral_18, ↓eX9_followsLiteral_19, ↓eX9_followsLiteral_22, ↓eX9_followsLiteral_23, Int.cast_ofNat_Int, kd_si, gr_si, ln_si, gi_same, gi_na, gi_ni, nl_i, nl_r, nl_j, nj_i, nj_l, nj_r, true_and, and_true, and_self, cs_0, cs_1, cs_2, cs_3, cs_4, ↓reduceIte, Nat.reduceLeDiff, Nat.reduceEqDiff, Nat.reduceAdd, Int.reduceLE, Int.reduceLT, Int.reduceEq, Int.reduceAdd, Int.reduceNeg, Int.reduceToNat, Int.toNat_natCast, ne_eq, not_false_eq_true, not_true_eq_false, or_true, true_or, or_false, false_or]
  unfold fl3
  (repeat' split) <;> first | rfl | (exfalso; omega)
theorem x_isArithmetic {d : Nat} {M : mM} {Q : mV → mM → Prop} {k : Int} : CP (mc (d + 1)) 83 [vi k] M Q = if 17 ≤ k ∧ k ≤ 19 then Q (vi 1) M else Q (vi 0) M := by
  simp only [↓cpX9_isArithmetic, ↓eX9_isArithmetic_0, ↓eX9_isArithmetic_1, ↓eX9_isArithmetic_3, ↓eX9_isArithmetic_6, ↓eX9_isArithmetic_7, ↓eX9_isArithmetic_9, ↓eX9_isArithmetic_12, ↓eX9_isArithmetic_13, ↓eX9_isArithmetic_16, ↓eX9_isArithmetic_17, Int.cast_ofNat_Int, kd_si, gr_si, ln_si, gi_same, gi_na, gi_ni, nl_i, nl_r, nl_j, nj_i, nj_l, nj_r, true_and, and_true, and_self, cs_0, cs_1, cs_2, cs_3, cs_4, ↓reduceIte, Nat.reduceLeDiff, Nat.reduceEqDiff, Nat.reduceAdd, Int.reduceLE, Int.reduceLT, Int.reduceEq, Int.reduceAdd, Int.reduceNeg, Int.reduceToNat, Int.toNat_natCast, ne_eq, not_false_eq_true, not_true_eq_false, or_true, true_or, or_false, false_or]
  (repeat' split) <;> first | rfl | (exfalso; omega)
theorem x_isComparison {d : Nat} {M : mM} {Q : mV → mM → Prop} {k : Int} : CP (mc (d + 1)) 84 [vi k] M Q = if 13 ≤ k ∧ k ≤ 16 then Q (vi 1) M else Q (vi 0) M := by
  simp only [↓cpX9_isComparison, ↓eX9_isComparison_0, ↓eX9_isComparison_1, ↓eX9_isComparison_3, ↓eX9_isComparison_6, ↓eX9_isComparison_7, ↓eX9_isComparison_9, ↓eX9_isComparison_12, ↓eX9_isComparison_13, ↓eX9_isComparison_16, ↓eX9_isComparison_17, Int.cast_ofNat_Int, kd_si, gr_si, ln_si, gi_same, gi_na, gi_ni, nl_i, nl_r, nl_j, nj_i, nj_l, nj_r, true_and, and_true, and_self, cs_0, cs_1, cs_2, cs_3, cs_4, ↓reduceIte, Nat.reduceLeDiff, Nat.reduceEqDiff, Nat.reduceAdd, Int.reduceLE, Int.reduceLT, Int.reduceEq, Int.reduceAdd, Int.reduceNeg, Int.reduceToNat, Int.toNat_natCast, ne_eq, not_false_eq_true, not_true_eq_false, or_true, true_or, or_false, false_or]
  (repeat' split) <;> first | rfl | (exfalso; omega)
theorem x_followsOperand {d : Nat} {M : mM} {Q : mV → mM → Prop} {k : Int} {dp : Nat} {cm : Bool} (h : SH M) (h5 : gi M 18 5 = dp) (h6 : gi M 18 6 = if cm = true then 1 else 0) : CP (mc (d + 2)) 82 [vr (some 18), vi k] M Q = if fo dp cm k then Q (vi 1) M else Q (vi 0) M := by
  refine ifc (fun g => ?_) (fun g => ?_)
  · rcases g with g | g | g | g
    · simp only [↓cpX9_followsOperand, ↓eX9_followsOperand_0, ↓eX9_followsOperand_1, ↓eX9_followsOperand_4, ↓eX9_followsOperand_7, ↓eX9_followsOperand_8, ↓eX9_followsOperand_9, ↓eX9_followsOperand_10, ↓eX9_followsOperand_13, ↓eX9_followsOperand_16, ↓eX9_followsOperand_17, ↓eX9_followsOperand_19, ↓eX9_followsOperand_22, ↓eX9_followsOperand_23, ↓eX9_followsOperand_26, ↓eX9_followsOperand_27, ↓eX9_followsOperand_28, ↓eX9_followsOperand_29, ↓eX9_followsOperand_32, ↓eX9_followsOperand_35, ↓eX9_followsOperand_36, ↓eX9_followsOperand_39, ↓eX9_followsOperand_42, ↓eX9_followsOperand_43, ↓eX9_followsOperand_46, ↓x_isArithmetic, ↓x_isComparison, ↓x_followsLiteral, hk18 h, h5, h6, g, Int.cast_ofNat_Int, kd_si, gr_si, ln_si, gi_same, gi_na, gi_ni, nl_i, nl_r, nl_j, nj_i, nj_l, nj_r, true_and, and_true, and_self, cs_0, cs_1, cs_2, cs_3, cs_4, ↓reduceIte, Nat.reduceLeDiff, Nat.reduceEqDiff, Nat.reduceAdd, Int.reduceLE, Int.reduceLT, Int.reduceEq, Int.reduceAdd, Int.reduceNeg, Int.reduceToNat, Int.toNat_natCast, ne_eq, not_false_eq_true, not_true_eq_false, or_true, true_or, or_false, false_or]
    · have a : ¬ (17 ≤ k ∧ k ≤ 19) := by omega
      have e : ((dp : Int) ≤ 0) = False := eq_false (by omega)
      simp only [↓cpX9_followsOperand, ↓eX9_followsOperand_0, ↓eX9_followsOperand_1, ↓eX9_followsOperand_4, ↓eX9_followsOperand_7, ↓eX9_followsOperand_8, ↓eX9_followsOperand_9, ↓eX9_followsOperand_10, ↓eX9_followsOperand_13, ↓eX9_followsOperand_16, ↓eX9_followsOperand_17, ↓eX9_followsOperand_19, ↓eX9_followsOperand_22, ↓eX9_followsOperand_23, ↓eX9_followsOperand_26, ↓eX9_followsOperand_27, ↓eX9_followsOperand_28, ↓eX9_followsOperand_29, ↓eX9_followsOperand_32, ↓eX9_followsOperand_35, ↓eX9_followsOperand_36, ↓eX9_followsOperand_39, ↓eX9_followsOperand_42, ↓eX9_followsOperand_43, ↓eX9_followsOperand_46, ↓x_isArithmetic, ↓x_isComparison, ↓x_followsLiteral, hk18 h, h5, h6, a, e, g, Int.cast_ofNat_Int, kd_si, gr_si, ln_si, gi_same, gi_na, gi_ni, nl_i, nl_r, nl_j, nj_i, nj_l, nj_r, true_and, and_true, and_self, cs_0, cs_1, cs_2, cs_3, cs_4, ↓reduceIte, Nat.reduceLeDiff, Nat.reduceEqDiff, Nat.reduceAdd, Int.reduceLE, Int.reduceLT, Int.reduceEq, Int.reduceAdd, Int.reduceNeg, Int.reduceToNat, Int.toNat_natCast, ne_eq, not_false_eq_true, not_true_eq_false, or_true, true_or, or_false, false_or]
    · have a : ¬ (17 ≤ k ∧ k ≤ 19) := by unfold fl3 at g; omega
      have e : ((dp : Int) ≤ 0) = True := eq_true (by omega)
      obtain ⟨-, g2, g3⟩ := g
      subst g2
      simp only [↓cpX9_followsOperand, ↓eX9_followsOperand_0, ↓eX9_followsOperand_1, ↓eX9_followsOperand_4, ↓eX9_followsOperand_7, ↓eX9_followsOperand_8, ↓eX9_followsOperand_9, ↓eX9_followsOperand_10, ↓eX9_followsOperand_13, ↓eX9_followsOperand_16, ↓eX9_followsOperand_17, ↓eX9_followsOperand_19, ↓eX9_followsOperand_22, ↓eX9_followsOperand_23, ↓eX9_followsOperand_26, ↓eX9_followsOperand_27, ↓eX9_followsOperand_28, ↓eX9_followsOperand_29, ↓eX9_followsOperand_32, ↓eX9_followsOperand_35, ↓eX9_followsOperand_36, ↓eX9_followsOperand_39, ↓eX9_followsOperand_42, ↓eX9_followsOperand_43, ↓eX9_followsOperand_46, ↓x_isArithmetic, ↓x_isComparison, ↓x_followsLiteral, hk18 h, h5, h6, a, e, Int.cast_ofNat_Int, kd_si, gr_si, ln_si, gi_same, gi_na, gi_ni, nl_i, nl_r, nl_j, nj_i, nj_l, nj_r, true_and, and_true, and_self, cs_0, cs_1, cs_2, cs_3, cs_4, ↓reduceIte, Nat.reduceLeDiff, Nat.reduceEqDiff, Nat.reduceAdd, Int.reduceLE, Int.reduceLT, Int.reduceEq, Int.reduceAdd, Int.reduceNeg, Int.reduceToNat, Int.toNat_natCast, ne_eq, not_false_eq_true, not_true_eq_false, or_true, true_or, or_false, false_or]
      rw [if_pos g3]
    · have a : ¬ (17 ≤ k ∧ k ≤ 19) := by omega
      have e : ((dp : Int) ≤ 0) = True := eq_true (by omega)
      obtain ⟨-, g2, g3⟩ := g
      subst g2
      simp only [↓cpX9_followsOperand, ↓eX9_followsOperand_0, ↓eX9_followsOperand_1, ↓eX9_followsOperand_4, ↓eX9_followsOperand_7, ↓eX9_followsOperand_8, ↓eX9_followsOperand_9, ↓eX9_followsOperand_10, ↓eX9_followsOperand_13, ↓eX9_followsOperand_16, ↓eX9_followsOperand_17, ↓eX9_followsOperand_19, ↓eX9_followsOperand_22, ↓eX9_followsOperand_23, ↓eX9_followsOperand_26, ↓eX9_followsOperand_27, ↓eX9_followsOperand_28, ↓eX9_followsOperand_29, ↓eX9_followsOperand_32, ↓eX9_followsOperand_35, ↓eX9_followsOperand_36, ↓eX9_followsOperand_39, ↓eX9_followsOperand_42, ↓eX9_followsOperand_43, ↓eX9_followsOperand_46, ↓x_isArithmetic, ↓x_isComparison, ↓x_followsLiteral, hk18 h, h5, h6, a, e, g3, Bool.false_eq_true, Int.cast_ofNat_Int, kd_si, gr_si, ln_si, gi_same, gi_na, gi_ni, nl_i, nl_r, nl_j, nj_i, nj_l, nj_r, true_and, and_true, and_self, cs_0, cs_1, cs_2, cs_3, cs_4, ↓reduceIte, Nat.reduceLeDiff, Nat.reduceEqDiff, Nat.reduceAdd, Int.reduceLE, Int.reduceLT, Int.reduceEq, Int.reduceAdd, Int.reduceNeg, Int.reduceToNat, Int.toNat_natCast, ne_eq, not_false_eq_true, not_true_eq_false, or_true, true_or, or_false, false_or]
  · have a : ¬ (17 ≤ k ∧ k ≤ 19) := fun w => g (Or.inl w)
    by_cases z : 0 < dp
    · have e : ((dp : Int) ≤ 0) = False := eq_false (by omega)
      have e2 : ¬ k = 21 := fun w => g (Or.inr (Or.inl ⟨z, w⟩))
      simp only [↓cpX9_followsOperand, ↓eX9_followsOperand_0, ↓eX9_followsOperand_1, ↓eX9_followsOperand_4, ↓eX9_followsOperand_7, ↓eX9_followsOperand_8, ↓eX9_followsOperand_9, ↓eX9_followsOperand_10, ↓eX9_followsOperand_13, ↓eX9_followsOperand_16, ↓eX9_followsOperand_17, ↓eX9_followsOperand_19, ↓eX9_followsOperand_22, ↓eX9_followsOperand_23, ↓eX9_followsOperand_26, ↓eX9_followsOperand_27, ↓eX9_followsOperand_28, ↓eX9_followsOperand_29, ↓eX9_followsOperand_32, ↓eX9_followsOperand_35, ↓eX9_followsOperand_36, ↓eX9_followsOperand_39, ↓eX9_followsOperand_42, ↓eX9_followsOperand_43, ↓eX9_followsOperand_46, ↓x_isArithmetic, ↓x_isComparison, ↓x_followsLiteral, hk18 h, h5, h6, a, e, e2, Int.cast_ofNat_Int, kd_si, gr_si, ln_si, gi_same, gi_na, gi_ni, nl_i, nl_r, nl_j, nj_i, nj_l, nj_r, true_and, and_true, and_self, cs_0, cs_1, cs_2, cs_3, cs_4, ↓reduceIte, Nat.reduceLeDiff, Nat.reduceEqDiff, Nat.reduceAdd, Int.reduceLE, Int.reduceLT, Int.reduceEq, Int.reduceAdd, Int.reduceNeg, Int.reduceToNat, Int.toNat_natCast, ne_eq, not_false_eq_true, not_true_eq_false, or_true, true_or, or_false, false_or]
    · have e : ((dp : Int) ≤ 0) = True := eq_true (by omega)
      cases cm with
      | true =>
        have e2 : ¬ fl3 k := fun w => g (Or.inr (Or.inr (Or.inl ⟨by omega, rfl, w⟩)))
        simp only [↓cpX9_followsOperand, ↓eX9_followsOperand_0, ↓eX9_followsOperand_1, ↓eX9_followsOperand_4, ↓eX9_followsOperand_7, ↓eX9_followsOperand_8, ↓eX9_followsOperand_9, ↓eX9_followsOperand_10, ↓eX9_followsOperand_13, ↓eX9_followsOperand_16, ↓eX9_followsOperand_17, ↓eX9_followsOperand_19, ↓eX9_followsOperand_22, ↓eX9_followsOperand_23, ↓eX9_followsOperand_26, ↓eX9_followsOperand_27, ↓eX9_followsOperand_28, ↓eX9_followsOperand_29, ↓eX9_followsOperand_32, ↓eX9_followsOperand_35, ↓eX9_followsOperand_36, ↓eX9_followsOperand_39, ↓eX9_followsOperand_42, ↓eX9_followsOperand_43, ↓eX9_followsOperand_46, ↓x_isArithmetic, ↓x_isComparison, ↓x_followsLiteral, hk18 h, h5, h6, a, e, Int.cast_ofNat_Int, kd_si, gr_si, ln_si, gi_same, gi_na, gi_ni, nl_i, nl_r, nl_j, nj_i, nj_l, nj_r, true_and, and_true, and_self, cs_0, cs_1, cs_2, cs_3, cs_4, ↓reduceIte, Nat.reduceLeDiff, Nat.reduceEqDiff, Nat.reduceAdd, Int.reduceLE, Int.reduceLT, Int.reduceEq, Int.reduceAdd, Int.reduceNeg, Int.reduceToNat, Int.toNat_natCast, ne_eq, not_false_eq_true, not_true_eq_false, or_true, true_or, or_false, false_or]
        rw [if_neg e2]
      | false =>
        have e2 : ¬ (13 ≤ k ∧ k ≤ 16) := fun w => g (Or.inr (Or.inr (Or.inr ⟨by omega, rfl, w⟩)))
        simp only [↓cpX9_followsOperand, ↓eX9_followsOperand_0, ↓eX9_followsOperand_1, ↓eX9_followsOperand_4, ↓eX9_followsOperand_7, ↓eX9_followsOperand_8, ↓eX9_followsOperand_9, ↓eX9_followsOperand_10, ↓eX9_followsOperand_13, ↓eX9_followsOperand_16, ↓eX9_followsOperand_17, ↓eX9_followsOperand_19, ↓eX9_followsOperand_22, ↓eX9_followsOperand_23, ↓eX9_followsOperand_26, ↓eX9_followsOperand_27, ↓eX9_followsOperand_28, ↓eX9_followsOperand_29, ↓eX9_followsOperand_32, ↓eX9_followsOperand_35, ↓eX9_followsOperand_36, ↓eX9_followsOperand_39, ↓eX9_followsOperand_42, ↓eX9_followsOperand_43, ↓eX9_followsOperand_46, ↓x_isArithmetic, ↓x_isComparison, ↓x_followsLiteral, hk18 h, h5, h6, a, e, e2, Bool.false_eq_true, Int.cast_ofNat_Int, kd_si, gr_si, ln_si, gi_same, gi_na, gi_ni, nl_i, nl_r, nl_j, nj_i, nj_l, nj_r, true_and, and_true, and_self, cs_0, cs_1, cs_2, cs_3, cs_4, ↓reduceIte, Nat.reduceLeDiff, Nat.reduceEqDiff, Nat.reduceAdd, Int.reduceLE, Int.reduceLT, Int.reduceEq, Int.reduceAdd, Int.reduceNeg, Int.reduceToNat, Int.toNat_natCast, ne_eq, not_false_eq_true, not_true_eq_false, or_true, true_or, or_false, false_or]
theorem x_goesOnWith {d : Nat} {M : mM} {Q : mV → mM → Prop} {k : Int} {st dp : Nat} {cm : Bool} (h : SH M) (h3 : gi M 18 3 = st) (h5 : gi M 18 5 = dp) (h6 : gi M 18 6 = if cm = true then 1 else 0) (hst : st ≤ 6) : CP (mc (d + 3)) 79 [vr (some 18), vi k] M Q = if goes st dp cm k then Q (vi 1) M else Q (vi 0) M := by
  have ff := fun (Q : mV → mM → Prop) => x_followsOperand (d := d) (Q := Q) (k := k) h h5 h6
  rcases (show st = 0 ∨ st = 1 ∨ st = 2 ∨ st = 3 ∨ st = 4 ∨ st = 5 ∨ st = 6 by omega) with z | z | z | z | z | z | z
  · subst z
    simp only [↓cpX9_goesOnWith, ↓eX9_goesOnWith_0, ↓eX9_goesOnWith_1, ↓eX9_goesOnWith_4, ↓eX9_goesOnWith_44, ↓eX9_goesOnWith_45, ↓eX9_goesOnWith_47, ↓eX9_goesOnWith_50, ↓eX9_goesOnWith_51, ↓eX9_goesOnWith_53, ↓eX9_goesOnWith_56, ↓eX9_goesOnWith_57, ↓eX9_goesOnWith_60, ↓eX9_goesOnWith_61, ↓eX9_goesOnWith_62, ↓eX9_goesOnWith_63, ↓eX9_goesOnWith_64, ↓eX9_goesOnWith_67, ↓eX9_goesOnWith_68, ↓eX9_goesOnWith_71, ↓eX9_goesOnWith_72, ↓eX9_goesOnWith_73, ↓eX9_goesOnWith_74, ↓eX9_goesOnWith_76, ↓eX9_goesOnWith_79, ↓eX9_goesOnWith_80, ↓eX9_goesOnWith_83, ↓eX9_goesOnWith_84, ↓eX9_goesOnWith_85, ↓eX9_goesOnWith_86, ↓eX9_goesOnWith_88, ↓eX9_goesOnWith_91, ↓eX9_goesOnWith_92, ↓eX9_goesOnWith_94, ↓eX9_goesOnWith_97, ↓eX9_goesOnWith_98, ↓eX9_goesOnWith_101, ↓eX9_goesOnWith_104, ↓eX9_goesOnWith_105, ↓eX9_goesOnWith_108, ↓eX9_goesOnWith_109, ↓eX9_goesOnWith_110, ↓eX9_goesOnWith_111, ↓eX9_goesOnWith_114, ↓eX9_goesOnWith_115, ↓eX9_goesOnWith_116, ↓eX9_goesOnWith_119, ↓eX9_goesOnWith_120, ↓eX9_goesOnWith_121, ↓eX9_goesOnWith_122, ↓eX9_goesOnWith_125, hk18 h, h3, Int.cast_ofNat_Int, kd_si, gr_si, ln_si, gi_same, gi_na, gi_ni, nl_i, nl_r, nl_j, nj_i, nj_l, nj_r, true_and, and_true, and_self, cs_0, cs_1, cs_2, cs_3, cs_4, ↓reduceIte, Nat.reduceLeDiff, Nat.reduceEqDiff, Nat.reduceAdd, Int.reduceLE, Int.reduceLT, Int.reduceEq, Int.reduceAdd, Int.reduceNeg, Int.reduceToNat, Int.toNat_natCast, ne_eq, not_false_eq_true, not_true_eq_false, or_true, true_or, or_false, false_or]
    refine ifc (fun g => ?_) (fun g => ?_) <;> unfold goes bo fl3 at g <;> (repeat' split) <;> first | rfl | (exfalso; omega)
  · subst z
    simp only [↓cpX9_goesOnWith, ↓eX9_goesOnWith_0, ↓eX9_goesOnWith_1, ↓eX9_goesOnWith_4, ↓eX9_goesOnWith_44, ↓eX9_goesOnWith_45, ↓eX9_goesOnWith_47, ↓eX9_goesOnWith_50, ↓eX9_goesOnWith_51, ↓eX9_goesOnWith_53, ↓eX9_goesOnWith_56, ↓eX9_goesOnWith_57, ↓eX9_goesOnWith_60, ↓eX9_goesOnWith_61, ↓eX9_goesOnWith_62, ↓eX9_goesOnWith_63, ↓eX9_goesOnWith_64, ↓eX9_goesOnWith_67, ↓eX9_goesOnWith_68, ↓eX9_goesOnWith_71, ↓eX9_goesOnWith_72, ↓eX9_goesOnWith_73, ↓eX9_goesOnWith_74, ↓eX9_goesOnWith_76, ↓eX9_goesOnWith_79, ↓eX9_goesOnWith_80, ↓eX9_goesOnWith_83, ↓eX9_goesOnWith_84, ↓eX9_goesOnWith_85, ↓eX9_goesOnWith_86, ↓eX9_goesOnWith_88, ↓eX9_goesOnWith_91, ↓eX9_goesOnWith_92, ↓eX9_goesOnWith_94, ↓eX9_goesOnWith_97, ↓eX9_goesOnWith_98, ↓eX9_goesOnWith_101, ↓eX9_goesOnWith_104, ↓eX9_goesOnWith_105, ↓eX9_goesOnWith_108, ↓eX9_goesOnWith_109, ↓eX9_goesOnWith_110, ↓eX9_goesOnWith_111, ↓eX9_goesOnWith_114, ↓eX9_goesOnWith_115, ↓eX9_goesOnWith_116, ↓eX9_goesOnWith_119, ↓eX9_goesOnWith_120, ↓eX9_goesOnWith_121, ↓eX9_goesOnWith_122, ↓eX9_goesOnWith_125, hk18 h, h3, Int.cast_ofNat_Int, kd_si, gr_si, ln_si, gi_same, gi_na, gi_ni, nl_i, nl_r, nl_j, nj_i, nj_l, nj_r, true_and, and_true, and_self, cs_0, cs_1, cs_2, cs_3, cs_4, ↓reduceIte, Nat.reduceLeDiff, Nat.reduceEqDiff, Nat.reduceAdd, Int.reduceLE, Int.reduceLT, Int.reduceEq, Int.reduceAdd, Int.reduceNeg, Int.reduceToNat, Int.toNat_natCast, ne_eq, not_false_eq_true, not_true_eq_false, or_true, true_or, or_false, false_or]
    refine ifc (fun g => ?_) (fun g => ?_) <;> unfold goes bo fl3 at g <;> (repeat' split) <;> first | rfl | (exfalso; omega)
  · subst z
    simp only [↓cpX9_goesOnWith, ↓eX9_goesOnWith_0, ↓eX9_goesOnWith_1, ↓eX9_goesOnWith_4, ↓eX9_goesOnWith_44, ↓eX9_goesOnWith_45, ↓eX9_goesOnWith_47, ↓eX9_goesOnWith_50, ↓eX9_goesOnWith_51, ↓eX9_goesOnWith_53, ↓eX9_goesOnWith_56, ↓eX9_goesOnWith_57, ↓eX9_goesOnWith_60, ↓eX9_goesOnWith_61, ↓eX9_goesOnWith_62, ↓eX9_goesOnWith_63, ↓eX9_goesOnWith_64, ↓eX9_goesOnWith_67, ↓eX9_goesOnWith_68, ↓eX9_goesOnWith_71, ↓eX9_goesOnWith_72, ↓eX9_goesOnWith_73, ↓eX9_goesOnWith_74, ↓eX9_goesOnWith_76, ↓eX9_goesOnWith_79, ↓eX9_goesOnWith_80, ↓eX9_goesOnWith_83, ↓eX9_goesOnWith_84, ↓eX9_goesOnWith_85, ↓eX9_goesOnWith_86, ↓eX9_goesOnWith_88, ↓eX9_goesOnWith_91, ↓eX9_goesOnWith_92, ↓eX9_goesOnWith_94, ↓eX9_goesOnWith_97, ↓eX9_goesOnWith_98, ↓eX9_goesOnWith_101, ↓eX9_goesOnWith_104, ↓eX9_goesOnWith_105, ↓eX9_goesOnWith_108, ↓eX9_goesOnWith_109, ↓eX9_goesOnWith_110, ↓eX9_goesOnWith_111, ↓eX9_goesOnWith_114, ↓eX9_goesOnWith_115, ↓eX9_goesOnWith_116, ↓eX9_goesOnWith_119, ↓eX9_goesOnWith_120, ↓eX9_goesOnWith_121, ↓eX9_goesOnWith_122, ↓eX9_goesOnWith_125, hk18 h, h3, Int.cast_ofNat_Int, kd_si, gr_si, ln_si, gi_same, gi_na, gi_ni, nl_i, nl_r, nl_j, nj_i, nj_l, nj_r, true_and, and_true, and_self, cs_0, cs_1, cs_2, cs_3, cs_4, ↓reduceIte, Nat.reduceLeDiff, Nat.reduceEqDiff, Nat.reduceAdd, Int.reduceLE, Int.reduceLT, Int.reduceEq, Int.reduceAdd, Int.reduceNeg, Int.reduceToNat, Int.toNat_natCast, ne_eq, not_false_eq_true, not_true_eq_false, or_true, true_or, or_false, false_or]
    refine ifc (fun g => ?_) (fun g => ?_) <;> unfold goes bo fl3 at g <;> (repeat' split) <;> first | rfl | (exfalso; omega)
  · subst z
    simp only [↓cpX9_goesOnWith, ↓eX9_goesOnWith_0, ↓eX9_goesOnWith_1, ↓eX9_goesOnWith_4, ↓eX9_goesOnWith_44, ↓eX9_goesOnWith_45, ↓eX9_goesOnWith_47, ↓eX9_goesOnWith_50, ↓eX9_goesOnWith_51, ↓eX9_goesOnWith_53, ↓eX9_goesOnWith_56, ↓eX9_goesOnWith_57, ↓eX9_goesOnWith_60, ↓eX9_goesOnWith_61, ↓eX9_goesOnWith_62, ↓eX9_goesOnWith_63, ↓eX9_goesOnWith_64, ↓eX9_goesOnWith_67, ↓eX9_goesOnWith_68, ↓eX9_goesOnWith_71, ↓eX9_goesOnWith_72, ↓eX9_goesOnWith_73, ↓eX9_goesOnWith_74, ↓eX9_goesOnWith_76, ↓eX9_goesOnWith_79, ↓eX9_goesOnWith_80, ↓eX9_goesOnWith_83, ↓eX9_goesOnWith_84, ↓eX9_goesOnWith_85, ↓eX9_goesOnWith_86, ↓eX9_goesOnWith_88, ↓eX9_goesOnWith_91, ↓eX9_goesOnWith_92, ↓eX9_goesOnWith_94, ↓eX9_goesOnWith_97, ↓eX9_goesOnWith_98, ↓eX9_goesOnWith_101, ↓eX9_goesOnWith_104, ↓eX9_goesOnWith_105, ↓eX9_goesOnWith_108, ↓eX9_goesOnWith_109, ↓eX9_goesOnWith_110, ↓eX9_goesOnWith_111, ↓eX9_goesOnWith_114, ↓eX9_goesOnWith_115, ↓eX9_goesOnWith_116, ↓eX9_goesOnWith_119, ↓eX9_goesOnWith_120, ↓eX9_goesOnWith_121, ↓eX9_goesOnWith_122, ↓eX9_goesOnWith_125, hk18 h, h3, ↓x_beginsOperand, Int.cast_ofNat_Int, kd_si, gr_si, ln_si, gi_same, gi_na, gi_ni, nl_i, nl_r, nl_j, nj_i, nj_l, nj_r, true_and, and_true, and_self, cs_0, cs_1, cs_2, cs_3, cs_4, ↓reduceIte, Nat.reduceLeDiff, Nat.reduceEqDiff, Nat.reduceAdd, Int.reduceLE, Int.reduceLT, Int.reduceEq, Int.reduceAdd, Int.reduceNeg, Int.reduceToNat, Int.toNat_natCast, ne_eq, not_false_eq_true, not_true_eq_false, or_true, true_or, or_false, false_or]
    refine ifc (fun g => ?_) (fun g => ?_) <;> unfold goes bo fl3 at g <;> unfold bo <;> (repeat' split) <;> first | rfl | (exfalso; omega)
  · subst z
    simp only [↓cpX9_goesOnWith, ↓eX9_goesOnWith_0, ↓eX9_goesOnWith_1, ↓eX9_goesOnWith_4, ↓eX9_goesOnWith_44, ↓eX9_goesOnWith_45, ↓eX9_goesOnWith_47, ↓eX9_goesOnWith_50, ↓eX9_goesOnWith_51, ↓eX9_goesOnWith_53, ↓eX9_goesOnWith_56, ↓eX9_goesOnWith_57, ↓eX9_goesOnWith_60, ↓eX9_goesOnWith_61, ↓eX9_goesOnWith_62, ↓eX9_goesOnWith_63, ↓eX9_goesOnWith_64, ↓eX9_goesOnWith_67, ↓eX9_goesOnWith_68, ↓eX9_goesOnWith_71, ↓eX9_goesOnWith_72, ↓eX9_goesOnWith_73, ↓eX9_goesOnWith_74, ↓eX9_goesOnWith_76, ↓eX9_goesOnWith_79, ↓eX9_goesOnWith_80, ↓eX9_goesOnWith_83, ↓eX9_goesOnWith_84, ↓eX9_goesOnWith_85, ↓eX9_goesOnWith_86, ↓eX9_goesOnWith_88, ↓eX9_goesOnWith_91, ↓eX9_goesOnWith_92, ↓eX9_goesOnWith_94, ↓eX9_goesOnWith_97, ↓eX9_goesOnWith_98, ↓eX9_goesOnWith_101, ↓eX9_goesOnWith_104, ↓eX9_goesOnWith_105, ↓eX9_goesOnWith_108, ↓eX9_goesOnWith_109, ↓eX9_goesOnWith_110, ↓eX9_goesOnWith_111, ↓eX9_goesOnWith_114, ↓eX9_goesOnWith_115, ↓eX9_goesOnWith_116, ↓eX9_goesOnWith_119, ↓eX9_goesOnWith_120, ↓eX9_goesOnWith_121, ↓eX9_goesOnWith_122, ↓eX9_goesOnWith_125, hk18 h, h3, ↓x_beginsOperand, Int.cast_ofNat_Int, kd_si, gr_si, ln_si, gi_same, gi_na, gi_ni, nl_i, nl_r, nl_j, nj_i, nj_l, nj_r, true_and, and_true, and_self, cs_0, cs_1, cs_2, cs_3, cs_4, ↓reduceIte, Nat.reduceLeDiff, Nat.reduceEqDiff, Nat.reduceAdd, Int.reduceLE, Int.reduceLT, Int.reduceEq, Int.reduceAdd, Int.reduceNeg, Int.reduceToNat, Int.toNat_natCast, ne_eq, not_false_eq_true, not_true_eq_false, or_true, true_or, or_false, false_or]
    refine ifc (fun g => ?_) (fun g => ?_) <;> unfold goes bo fl3 at g <;> unfold bo <;> (repeat' split) <;> first | rfl | (exfalso; omega)
  · subst z
    simp only [↓cpX9_goesOnWith, ↓eX9_goesOnWith_0, ↓eX9_goesOnWith_1, ↓eX9_goesOnWith_4, ↓eX9_goesOnWith_44, ↓eX9_goesOnWith_45, ↓eX9_goesOnWith_47, ↓eX9_goesOnWith_50, ↓eX9_goesOnWith_51, ↓eX9_goesOnWith_53, ↓eX9_goesOnWith_56, ↓eX9_goesOnWith_57, ↓eX9_goesOnWith_60, ↓eX9_goesOnWith_61, ↓eX9_goesOnWith_62, ↓eX9_goesOnWith_63, ↓eX9_goesOnWith_64, ↓eX9_goesOnWith_67, ↓eX9_goesOnWith_68, ↓eX9_goesOnWith_71, ↓eX9_goesOnWith_72, ↓eX9_goesOnWith_73, ↓eX9_goesOnWith_74, ↓eX9_goesOnWith_76, ↓eX9_goesOnWith_79, ↓eX9_goesOnWith_80, ↓eX9_goesOnWith_83, ↓eX9_goesOnWith_84, ↓eX9_goesOnWith_85, ↓eX9_goesOnWith_86, ↓eX9_goesOnWith_88, ↓eX9_goesOnWith_91, ↓eX9_goesOnWith_92, ↓eX9_goesOnWith_94, ↓eX9_goesOnWith_97, ↓eX9_goesOnWith_98, ↓eX9_goesOnWith_101, ↓eX9_goesOnWith_104, ↓eX9_goesOnWith_105, ↓eX9_goesOnWith_108, ↓eX9_goesOnWith_109, ↓eX9_goesOnWith_110, ↓eX9_goesOnWith_111, ↓eX9_goesOnWith_114, ↓eX9_goesOnWith_115, ↓eX9_goesOnWith_116, ↓eX9_goesOnWith_119, ↓eX9_goesOnWith_120, ↓eX9_goesOnWith_121, ↓eX9_goesOnWith_122, ↓eX9_goesOnWith_125, hk18 h, h3, ↓x_followsLiteral, Int.cast_ofNat_Int, kd_si, gr_si, ln_si, gi_same, gi_na, gi_ni, nl_i, nl_r, nl_j, nj_i, nj_l, nj_r, true_and, and_true, and_self, cs_0, cs_1, cs_2, cs_3, cs_4, ↓reduceIte, Nat.reduceLeDiff, Nat.reduceEqDiff, Nat.reduceAdd, Int.reduceLE, Int.reduceLT, Int.reduceEq, Int.reduceAdd, Int.reduceNeg, Int.reduceToNat, Int.toNat_natCast, ne_eq, not_false_eq_true, not_true_eq_false, or_true, true_or, or_false, false_or]
    refine ifc (fun g => ?_) (fun g => ?_) <;> unfold goes bo fl3 at g <;> unfold fl3 <;> (repeat' split) <;> first | rfl | (exfalso; omega)
  · subst z
    simp only [↓cpX9_goesOnWith, ↓eX9_goesOnWith_0, ↓eX9_goesOnWith_1, ↓eX9_goesOnWith_4, ↓eX9_goesOnWith_44, ↓eX9_goesOnWith_45, ↓eX9_goesOnWith_47, ↓eX9_goesOnWith_50, ↓eX9_goesOnWith_51, ↓eX9_goesOnWith_53, ↓eX9_goesOnWith_56, ↓eX9_goesOnWith_57, ↓eX9_goesOnWith_60, ↓eX9_goesOnWith_61, ↓eX9_goesOnWith_62, ↓eX9_goesOnWith_63, ↓eX9_goesOnWith_64, ↓eX9_goesOnWith_67, ↓eX9_goesOnWith_68, ↓eX9_goesOnWith_71, ↓eX9_goesOnWith_72, ↓eX9_goesOnWith_73, ↓eX9_goesOnWith_74, ↓eX9_goesOnWith_76, ↓eX9_goesOnWith_79, ↓eX9_goesOnWith_80, ↓eX9_goesOnWith_83, ↓eX9_goesOnWith_84, ↓eX9_goesOnWith_85, ↓eX9_goesOnWith_86, ↓eX9_goesOnWith_88, ↓eX9_goesOnWith_91, ↓eX9_goesOnWith_92, ↓eX9_goesOnWith_94, ↓eX9_goesOnWith_97, ↓eX9_goesOnWith_98, ↓eX9_goesOnWith_101, ↓eX9_goesOnWith_104, ↓eX9_goesOnWith_105, ↓eX9_goesOnWith_108, ↓eX9_goesOnWith_109, ↓eX9_goesOnWith_110, ↓eX9_goesOnWith_111, ↓eX9_goesOnWith_114, ↓eX9_goesOnWith_115, ↓eX9_goesOnWith_116, ↓eX9_goesOnWith_119, ↓eX9_goesOnWith_120, ↓eX9_goesOnWith_121, ↓eX9_goesOnWith_122, ↓eX9_goesOnWith_125, hk18 h, h3, ↓ff, Int.cast_ofNat_Int, kd_si, gr_si, ln_si, gi_same, gi_na, gi_ni, nl_i, nl_r, nl_j, nj_i, nj_l, nj_r, true_and, and_true, and_self, cs_0, cs_1, cs_2, cs_3, cs_4, ↓reduceIte, Nat.reduceLeDiff, Nat.reduceEqDiff, Nat.reduceAdd, Int.reduceLE, Int.reduceLT, Int.reduceEq, Int.reduceAdd, Int.reduceNeg, Int.reduceToNat, Int.toNat_natCast, ne_eq, not_false_eq_true, not_true_eq_false, or_true, true_or, or_false, false_or]
    by_cases g : fo dp cm k
    · have g' : goes 6 dp cm k := Or.inr (Or.inr (Or.inr (Or.inr (Or.inr (Or.inr ⟨rfl, g⟩)))))
      rw [if_pos g, if_pos g']
    · have g' : ¬ goes 6 dp cm k := by
        intro w
        unfold goes at w
        rcases w with w | w | w | w | w | w | w
        all_goals first | omega | exact g w.2
      rw [if_neg g, if_neg g']
theorem x_isTooMuch {d : Nat} {M : mM} {Q : mV → mM → Prop} {u : Nat} {k : Int} {st dp nt R : Nat} (h : SH M) (hu : u = 21 ∨ u = 26) (h3 : gi M 18 3 = st) (h4 : gi M 18 4 = nt) (h5 : gi M 18 5 = dp) (h0 : gi M u 0 = R) : CP (mc (d + 1)) 85 [vr (some 18), vi k, vr (some u)] M Q = if much st dp nt R k then Q (vi 1) M else Q (vi 0) M := by
  have ku : kd M u = 10 := (wsh h hu).1
  simp only [↓cpX9_isTooMuch, ↓eX9_isTooMuch_0, ↓eX9_isTooMuch_1, ↓eX9_isTooMuch_4, ↓eX9_isTooMuch_7, ↓eX9_isTooMuch_10, ↓eX9_isTooMuch_11, ↓eX9_isTooMuch_14, ↓eX9_isTooMuch_17, ↓eX9_isTooMuch_18, ↓eX9_isTooMuch_21, ↓eX9_isTooMuch_23, ↓eX9_isTooMuch_26, ↓eX9_isTooMuch_27, ↓eX9_isTooMuch_29, ↓eX9_isTooMuch_32, ↓eX9_isTooMuch_33, ↓eX9_isTooMuch_36, ↓eX9_isTooMuch_38, ↓eX9_isTooMuch_41, ↓eX9_isTooMuch_42, ↓eX9_isTooMuch_45, ↓eX9_isTooMuch_46, hk18 h, ku, h3, h4, h5, h0, Int.cast_ofNat_Int, kd_si, gr_si, ln_si, gi_same, gi_na, gi_ni, nl_i, nl_r, nl_j, nj_i, nj_l, nj_r, true_and, and_true, and_self, cs_0, cs_1, cs_2, cs_3, cs_4, ↓reduceIte, Nat.reduceLeDiff, Nat.reduceEqDiff, Nat.reduceAdd, Int.reduceLE, Int.reduceLT, Int.reduceEq, Int.reduceAdd, Int.reduceNeg, Int.reduceToNat, Int.toNat_natCast, ne_eq, not_false_eq_true, not_true_eq_false, or_true, true_or, or_false, false_or]
  refine ifc (fun g => ?_) (fun g => ?_) <;> unfold much at g <;> (repeat' split) <;> first | rfl | (exfalso; omega)
/-! lists -/
def cmW (cm : Bool) (ck : Int) : List Int := if cm = true then [ck] else []
def cmV (cm : Bool) (L : Env → Int) (e : Env) : List Int := if cm = true then [L e] else []
def bW (bs : Nat) : List Int := if bs = 1 then [11] else if bs = 2 then [12] else if bs = 3 then [12, 11] else []
def bV (bs : Nat) (a o : Int) : List Int := if bs = 1 then [o] else if bs = 2 then [a] else if bs = 3 then [a, o] else []
theorem ap_app {k : Int} {v r : List Int} (h : 2 ≤ v.length) : ap k (v ++ r) = ap k v ++ r := by
  match v, h with
  | b :: a :: t, _ => rfl
theorem okw_el : ∀ (w : List Int) (d : Nat), okw w d → ∀ x ∈ w, 17 ≤ x ∧ x ≤ 20 := by
  intro w
  induction w with
  | nil => intro d _ x hx; cases hx
  | cons k w ih =>
    intro d h x hx
    rw [okw] at h
    rcases List.mem_cons.mp hx with z | z
    · rcases h with h | h | h <;> omega
    · rcases h with ⟨-, -, h⟩ | ⟨-, h, -⟩ | ⟨-, h, -⟩
      · exact ih _ h x z
      · exact ih _ h x z
      · exact ih _ h x z
theorem tg_op {x : Int} (h1 : 17 ≤ x) (h2 : x ≤ 19) : 5 ≤ tg x := by
  rcases (show x = 17 ∨ x = 18 ∨ x = 19 by omega) with rfl | rfl | rfl <;> decide
theorem pg_W {t : Int} (h1 : 1 ≤ t) (h5 : t ≤ 5) {r : List Int} : ∀ (w : List Int), (∀ x ∈ w, 17 ≤ x ∧ x ≤ 20) → pgW t (w ++ r) = if popW w = [] then pgW t r else popW w ++ r := by
  intro w
  induction w with
  | nil => intro _; rw [popW, if_pos rfl]; rfl
  | cons k w ih =>
    intro h
    have hk := h k (List.mem_cons_self ..)
    rw [List.cons_append, pgW, popW]
    by_cases q : k = 20
    · subst q
      have : ¬ t ≤ tg 20 := by
        have : tg 20 = 0 := rfl
        omega
      rw [if_neg this, if_pos rfl, if_neg (by intro w; cases w)]
      rfl
    · have := tg_op (x := k) (by omega) (by omega)
      rw [if_pos (by omega), if_neg q]
      exact ih (fun x hx => h x (List.mem_cons_of_mem _ hx))
theorem pg_V {t : Int} (h1 : 1 ≤ t) (h5 : t ≤ 5) {r rv : List Int} : ∀ (w v : List Int), (∀ x ∈ w, 17 ≤ x ∧ x ≤ 20) → v.length = nops w + 1 → pgV t (w ++ r) (v ++ rv) = if popW w = [] then pgV t r (popV w v ++ rv) else popV w v ++ rv := by
  intro w
  induction w with
  | nil => intro v _ _; rw [popW, if_pos rfl]; rfl
  | cons k w ih =>
    intro v h hv
    have hk := h k (List.mem_cons_self ..)
    rw [List.cons_append, pgV, popW, popV]
    by_cases q : k = 20
    · subst q
      have : ¬ t ≤ tg 20 := by
        have : tg 20 = 0 := rfl
        omega
      rw [if_neg this, if_pos rfl, if_neg (by intro w; cases w), if_pos rfl]
    · have := tg_op (x := k) (by omega) (by omega)
      rw [nops, if_neg q] at hv
      rw [if_pos (by omega), if_neg q, if_neg q, ap_app (by omega)]
      exact ih (ap k v) (fun x hx => h x (List.mem_cons_of_mem _ hx)) (by rw [ap_len (by omega)]; omega)
theorem pt_W {r : List Int} (hr : pgW 6 r = r) : ∀ (w : List Int), (∀ x ∈ w, 17 ≤ x ∧ x ≤ 20) → pgW 6 (w ++ r) = potW w ++ r := by
  intro w
  induction w with
  | nil => intro _; exact hr
  | cons k w ih =>
    intro h
    have hk := h k (List.mem_cons_self ..)
    rw [List.cons_append, pgW, potW]
    by_cases q : k = 19
    · subst q
      rw [if_pos (by decide), if_pos rfl]
      exact ih (fun x hx => h x (List.mem_cons_of_mem _ hx))
    · have : ¬ 6 ≤ tg k := by
        rcases (show k = 17 ∨ k = 18 ∨ k = 20 by omega) with rfl | rfl | rfl <;> decide
      rw [if_neg this, if_neg q]
      rfl
theorem pt_V {r rv : List Int} (hr : ∀ v, pgV 6 r v = v) : ∀ (w v : List Int), (∀ x ∈ w, 17 ≤ x ∧ x ≤ 20) → v.length = nops w + 1 → pgV 6 (w ++ r) (v ++ rv) = potV w v ++ rv := by
  intro w
  induction w with
  | nil => intro v _ _; exact hr _
  | cons k w ih =>
    intro v h hv
    have hk := h k (List.mem_cons_self ..)
    rw [List.cons_append, pgV, potV]
    by_cases q : k = 19
    · subst q
      rw [nops, if_neg (by decide)] at hv
      rw [if_pos (by decide), if_pos rfl, ap_app (by omega)]
      exact ih (ap 19 v) (fun x hx => h x (List.mem_cons_of_mem _ hx)) (by rw [ap_len (by omega)]; omega)
    · have : ¬ 6 ≤ tg k := by
        rcases (show k = 17 ∨ k = 18 ∨ k = 20 by omega) with rfl | rfl | rfl <;> decide
      rw [if_neg this, if_neg q]
theorem tg_c {c : Int} (h1 : 13 ≤ c) (h2 : c ≤ 16) : tg c = 4 := by
  rcases (show c = 13 ∨ c = 14 ∨ c = 15 ∨ c = 16 by omega) with rfl | rfl | rfl | rfl <;> rfl
/-- nothing of the rest is taken out by arithmetic -/
theorem rest_W {t : Int} (ht : 5 ≤ t) {cm : Bool} {ck : Int} {bs : Nat} (hc : cm = true → 13 ≤ ck ∧ ck ≤ 16) (hb : bs ≤ 3) : pgW t (cmW cm ck ++ bW bs) = cmW cm ck ++ bW bs ∧ ∀ v, pgV t (cmW cm ck ++ bW bs) v = v := by
  have t11 : ¬ t ≤ tg 11 := by
    have : tg 11 = 2 := rfl
    omega
  have t12 : ¬ t ≤ tg 12 := by
    have : tg 12 = 3 := rfl
    omega
  cases cm with
  | true =>
    have tc : ¬ t ≤ tg ck := by rw [tg_c (hc rfl).1 (hc rfl).2]; omega
    show pgW t (ck :: bW bs) = ck :: bW bs ∧ ∀ v, pgV t (ck :: bW bs) v = v
    exact ⟨by rw [pgW, if_neg tc], fun v => by rw [pgV, if_neg tc]⟩
  | false =>
    show pgW t (bW bs) = bW bs ∧ ∀ v, pgV t (bW bs) v = v
    rcases (show bs = 0 ∨ bs = 1 ∨ bs = 2 ∨ bs = 3 by omega) with rfl | rfl | rfl | rfl
    · exact ⟨rfl, fun v => rfl⟩
    · exact ⟨by show pgW t [11] = [11]; rw [pgW, if_neg t11], fun v => by show pgV t [11] v = v; rw [pgV, if_neg t11]⟩
    · exact ⟨by show pgW t [12] = [12]; rw [pgW, if_neg t12], fun v => by show pgV t [12] v = v; rw [pgV, if_neg t12]⟩
    · exact ⟨by show pgW t [12, 11] = [12, 11]; rw [pgW, if_neg t12], fun v => by show pgV t [12, 11] v = v; rw [pgV, if_neg t12]⟩
