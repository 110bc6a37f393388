/-! ===== the class weighs a showing ===== -/
/-- the values of a showing of the class -/
def enC (M : mM) (a : Nat) : Env := fun i => if i = 0 then gi M a 5 else if i = 1 then gi M a 6 else if i = 2 then gi M a 2 else if i = 3 then gi M a 3 else if i = 4 then gi M a 4 else if i = 5 then wr (gi M a 4 - gi M a 3) else if i = 6 then gi M a 7 else if i = 7 then gi M a 8 else if gi M a 9 = gi M a 0 then 1 else 0
theorem x_valueOf {d : Nat} {M : mM} {Q : mV → mM → Prop} {a : Nat} {k : Int} (ha : kd M a = 6) (hl : gi M a 8 = 0 ∨ gi M a 8 = 1) (h1 : 2 ≤ k) (h2 : k ≤ 10) : CP (mc (d + 1)) 99 [vi k, vr (some a)] M Q = Q (vi (enC M a (k - 2).toNat)) M := by
  rcases (show k = 2 ∨ k = 3 ∨ k = 4 ∨ k = 5 ∨ k = 6 ∨ k = 7 ∨ k = 8 ∨ k = 9 ∨ k = 10 by omega) with rfl | rfl | rfl | rfl | rfl | rfl | rfl | rfl | rfl
  · simp only [↓cpX10_valueOf, ↓eX10_valueOf_0, ↓eX10_valueOf_1, ↓eX10_valueOf_48, ↓eX10_valueOf_49, ↓eX10_valueOf_52, ↓eX10_valueOf_53, ↓eX10_valueOf_54, ↓eX10_valueOf_57, ↓eX10_valueOf_58, ↓eX10_valueOf_59, ↓eX10_valueOf_62, ↓eX10_valueOf_63, ↓eX10_valueOf_64, ↓eX10_valueOf_67, ↓eX10_valueOf_68, ↓eX10_valueOf_69, ↓eX10_valueOf_72, ↓eX10_valueOf_73, ↓eX10_valueOf_74, ↓eX10_valueOf_77, ↓eX10_valueOf_78, ↓eX10_valueOf_81, ↓eX10_valueOf_82, ↓eX10_valueOf_83, ↓eX10_valueOf_84, ↓eX10_valueOf_87, ↓eX10_valueOf_88, ↓eX10_valueOf_89, ↓eX10_valueOf_92, ↓eX10_valueOf_95, ↓eX10_valueOf_96, ↓eX10_valueOf_99, ↓eX10_valueOf_100, ↓eX10_valueOf_101, ↓eX10_valueOf_102, ↓eX10_valueOf_105, ↓eX10_valueOf_106, ↓eX10_valueOf_109, ↓eX10_valueOf_112, ↓eX10_valueOf_113, ↓eX10_valueOf_116, ↓eX10_valueOf_117, ha, Int.cast_ofNat_Int, kd_si, gr_si, ln_si, gi_same, gi_na, gi_ni, nl_i, nl_r, nl_j, nj_i, nj_l, nj_r, true_and, and_true, and_self, cs_0, cs_1, cs_2, cs_3, cs_4, ↓reduceIte, Nat.reduceLeDiff, Nat.reduceEqDiff, Nat.reduceAdd, Int.reduceLE, Int.reduceLT, Int.reduceEq, Int.reduceAdd, Int.reduceNeg, Int.reduceToNat, Int.toNat_natCast, ne_eq, not_false_eq_true, not_true_eq_false, or_true, true_or, or_false, false_or]; rfl
  · simp only [↓cpX10_valueOf, ↓eX10_valueOf_0, ↓eX10_valueOf_1, ↓eX10_valueOf_48, ↓eX10_valueOf_49, ↓eX10_valueOf_52, ↓eX10_valueOf_53, ↓eX10_valueOf_54, ↓eX10_valueOf_57, ↓eX10_valueOf_58, ↓eX10_valueOf_59, ↓eX10_valueOf_62, ↓eX10_valueOf_63, ↓eX10_valueOf_64, ↓eX10_valueOf_67, ↓eX10_valueOf_68, ↓eX10_valueOf_69, ↓eX10_valueOf_72, ↓eX10_valueOf_73, ↓eX10_valueOf_74, ↓eX10_valueOf_77, ↓eX10_valueOf_78, ↓eX10_valueOf_81, ↓eX10_valueOf_82, ↓eX10_valueOf_83, ↓eX10_valueOf_84, ↓eX10_valueOf_87, ↓eX10_valueOf_88, ↓eX10_valueOf_89, ↓eX10_valueOf_92, ↓eX10_valueOf_95, ↓eX10_valueOf_96, ↓eX10_valueOf_99, ↓eX10_valueOf_100, ↓eX10_valueOf_101, ↓eX10_valueOf_102, ↓eX10_valueOf_105, ↓eX10_valueOf_106, ↓eX10_valueOf_109, ↓eX10_valueOf_112, ↓eX10_valueOf_113, ↓eX10_valueOf_116, ↓eX10_valueOf_117, ha, Int.cast_ofNat_Int, kd_si, gr_si, ln_si, gi_same, gi_na, gi_ni, nl_i, nl_r, nl_j, nj_i, nj_l, nj_r, true_and, and_true, and_self, cs_0, cs_1, cs_2, cs_3, cs_4, ↓reduceIte, Nat.reduceLeDiff, Nat.reduceEqDiff, Nat.reduceAdd, Int.reduceLE, Int.reduceLT, Int.reduceEq, Int.reduceAdd, Int.reduceNeg, Int.reduceToNat, Int.toNat_natCast, ne_eq, not_false_eq_true, not_true_eq_false, or_true, true_or, or_false, false_or]; rfl
  · simp only [↓cpX10_valueOf, ↓eX10_valueOf_0, ↓eX10_valueOf_1, ↓eX10_valueOf_48, ↓eX10_valueOf_49, ↓eX10_valueOf_52, ↓eX10_valueOf_53, ↓eX10_valueOf_54, ↓eX10_valueOf_57, ↓eX10_valueOf_58, ↓eX10_valueOf_59, ↓eX10_valueOf_62, ↓eX10_valueOf_63, ↓eX10_valueOf_64, ↓eX10_valueOf_67, ↓eX10_valueOf_68, ↓eX10_valueOf_69, ↓eX10_valueOf_72, ↓eX10_valueOf_73, ↓eX10_valueOf_74, ↓eX10_valueOf_77, ↓eX10_valueOf_78, ↓eX10_valueOf_81, ↓eX10_valueOf_82, ↓eX10_valueOf_83, ↓eX10_valueOf_84, ↓eX10_valueOf_87, ↓eX10_valueOf_88, ↓eX10_valueOf_89, ↓eX10_valueOf_92, ↓eX10_valueOf_95, ↓eX10_valueOf_96, ↓eX10_valueOf_99, ↓eX10_valueOf_100, ↓eX10_valueOf_101, ↓eX10_valueOf_102, ↓eX10_valueOf_105, ↓eX10_valueOf_106, ↓eX10_valueOf_109, ↓eX10_valueOf_112, ↓eX10_valueOf_113, ↓eX10_valueOf_116, ↓eX10_valueOf_117, ha, Int.cast_ofNat_Int, kd_si, gr_si, ln_si, gi_same, gi_na, gi_ni, nl_i, nl_r, nl_j, nj_i, nj_l, nj_r, true_and, and_true, and_self, cs_0, cs_1, cs_2, cs_3, cs_4, ↓reduceIte, Nat.reduceLeDiff, Nat.reduceEqDiff, Nat.reduceAdd, Int.reduceLE, Int.reduceLT, Int.reduceEq, Int.reduceAdd, Int.reduceNeg, Int.reduceToNat, Int.toNat_natCast, ne_eq, not_false_eq_true, not_true_eq_false, or_true, true_or, or_false, false_or]; rfl
  · simp only [↓cpX10_valueOf, ↓eX10_valueOf_0, ↓eX10_valueOf_1, ↓eX10_valueOf_48, ↓eX10_valueOf_49, ↓eX10_valueOf_52, ↓eX10_valueOf_53, ↓eX10_valueOf_54, ↓eX10_valueOf_57, ↓eX10_valueOf_58, ↓eX10_valueOf_59, ↓eX10_valueOf_62, ↓eX10_valueOf_63, ↓eX10_valueOf_64, ↓eX10_valueOf_67, ↓eX10_valueOf_68, ↓eX10_valueOf_69, ↓eX10_valueOf_72, ↓eX10_valueOf_73, ↓eX10_valueOf_74, ↓eX10_valueOf_77, ↓eX10_valueOf_78, ↓eX10_valueOf_81, ↓eX10_valueOf_82, ↓eX10_valueOf_83, ↓eX10_valueOf_84, ↓eX10_valueOf_87, ↓eX10_valueOf_88, ↓eX10_valueOf_89, ↓eX10_valueOf_92, ↓eX10_valueOf_95, ↓eX10_valueOf_96, ↓eX10_valueOf_99, ↓eX10_valueOf_100, ↓eX10_valueOf_101, ↓eX10_valueOf_102, ↓eX10_valueOf_105, ↓eX10_valueOf_106, ↓eX10_valueOf_109, ↓eX10_valueOf_112, ↓eX10_valueOf_113, ↓eX10_valueOf_116, ↓eX10_valueOf_117, ha, Int.cast_ofNat_Int, kd_si, gr_si, ln_si, gi_same, gi_na, gi_ni, nl_i, nl_r, nl_j, nj_i, nj_l, nj_r, true_and, and_true, and_self, cs_0, cs_1, cs_2, cs_3, cs_4, ↓reduceIte, Nat.reduceLeDiff, Nat.reduceEqDiff, Nat.reduceAdd, Int.reduceLE, Int.reduceLT, Int.reduceEq, Int.reduceAdd, Int.reduceNeg, Int.reduceToNat, Int.toNat_natCast, ne_eq, not_false_eq_true, not_true_eq_false, or_true, true_or, or_false, false_or]; rfl
  · simp only [↓cpX10_valueOf, ↓eX10_valueOf_0, ↓eX10_valueOf_1, ↓eX10_valueOf_48, ↓eX10_valueOf_49, ↓eX10_valueOf_52, ↓eX10_valueOf_53, ↓eX10_valueOf_54, ↓eX10_valueOf_57, ↓eX10_valueOf_58, ↓eX10_valueOf_59, ↓eX10_valueOf_62, ↓eX10_valueOf_63, ↓eX10_valueOf_64, ↓eX10_valueOf_67, ↓eX10_valueOf_68, ↓eX10_valueOf_69, ↓eX10_valueOf_72, ↓eX10_valueOf_73, ↓eX10_valueOf_74, ↓eX10_valueOf_77, ↓eX10_valueOf_78, ↓eX10_valueOf_81, ↓eX10_valueOf_82, ↓eX10_valueOf_83, ↓eX10_valueOf_84, ↓eX10_valueOf_87, ↓eX10_valueOf_88, ↓eX10_valueOf_89, ↓eX10_valueOf_92, ↓eX10_valueOf_95, ↓eX10_valueOf_96, ↓eX10_valueOf_99, ↓eX10_valueOf_100, ↓eX10_valueOf_101, ↓eX10_valueOf_102, ↓eX10_valueOf_105, ↓eX10_valueOf_106, ↓eX10_valueOf_109, ↓eX10_valueOf_112, ↓eX10_valueOf_113, ↓eX10_valueOf_116, ↓eX10_valueOf_117, ha, Int.cast_ofNat_Int, kd_si, gr_si, ln_si, gi_same, gi_na, gi_ni, nl_i, nl_r, nl_j, nj_i, nj_l, nj_r, true_and, and_true, and_self, cs_0, cs_1, cs_2, cs_3, cs_4, ↓reduceIte, Nat.reduceLeDiff, Nat.reduceEqDiff, Nat.reduceAdd, Int.reduceLE, Int.reduceLT, Int.reduceEq, Int.reduceAdd, Int.reduceNeg, Int.reduceToNat, Int.toNat_natCast, ne_eq, not_false_eq_true, not_true_eq_false, or_true, true_or, or_false, false_or]; rfl
  · simp only [↓cpX10_valueOf, ↓eX10_valueOf_0, ↓eX10_valueOf_1, ↓eX10_valueOf_48, ↓eX10_valueOf_49, ↓eX10_valueOf_52, ↓eX10_valueOf_53, ↓eX10_valueOf_54, ↓eX10_valueOf_57, ↓eX10_valueOf_58, ↓eX10_valueOf_59, ↓eX10_valueOf_62, ↓eX10_valueOf_63, ↓eX10_valueOf_64, ↓eX10_valueOf_67, ↓eX10_valueOf_68, ↓eX10_valueOf_69, ↓eX10_valueOf_72, ↓eX10_valueOf_73, ↓eX10_valueOf_74, ↓eX10_valueOf_77, ↓eX10_valueOf_78, ↓eX10_valueOf_81, ↓eX10_valueOf_82, ↓eX10_valueOf_83, ↓eX10_valueOf_84, ↓eX10_valueOf_87, ↓eX10_valueOf_88, ↓eX10_valueOf_89, ↓eX10_valueOf_92, ↓eX10_valueOf_95, ↓eX10_valueOf_96, ↓eX10_valueOf_99, ↓eX10_valueOf_100, ↓eX10_valueOf_101, ↓eX10_valueOf_102, ↓eX10_valueOf_105, ↓eX10_valueOf_106, ↓eX10_valueOf_109, ↓eX10_valueOf_112, ↓eX10_valueOf_113, ↓eX10_valueOf_116, ↓eX10_valueOf_117, ha, Int.cast_ofNat_Int, kd_si, gr_si, ln_si, gi_same, gi_na, gi_ni, nl_i, nl_r, nl_j, nj_i, nj_l, nj_r, true_and, and_true, and_self, cs_0, cs_1, cs_2, cs_3, cs_4, ↓reduceIte, Nat.reduceLeDiff, Nat.reduceEqDiff, Nat.reduceAdd, Int.reduceLE, Int.reduceLT, Int.reduceEq, Int.reduceAdd, Int.reduceNeg, Int.reduceToNat, Int.toNat_natCast, ne_eq, not_false_eq_true, not_true_eq_false, or_true, true_or, or_false, false_or]; rfl
  · simp only [↓cpX10_valueOf, ↓eX10_valueOf_0, ↓eX10_valueOf_1, ↓eX10_valueOf_48, ↓eX10_valueOf_49, ↓eX10_valueOf_52, ↓eX10_valueOf_53, ↓eX10_valueOf_54, ↓eX10_valueOf_57, ↓eX10_valueOf_58, ↓eX10_valueOf_59, ↓eX10_valueOf_62, ↓eX10_valueOf_63, ↓eX10_valueOf_64, ↓eX10_valueOf_67, ↓eX10_valueOf_68, ↓eX10_valueOf_69, ↓eX10_valueOf_72, ↓eX10_valueOf_73, ↓eX10_valueOf_74, ↓eX10_valueOf_77, ↓eX10_valueOf_78, ↓eX10_valueOf_81, ↓eX10_valueOf_82, ↓eX10_valueOf_83, ↓eX10_valueOf_84, ↓eX10_valueOf_87, ↓eX10_valueOf_88, ↓eX10_valueOf_89, ↓eX10_valueOf_92, ↓eX10_valueOf_95, ↓eX10_valueOf_96, ↓eX10_valueOf_99, ↓eX10_valueOf_100, ↓eX10_valueOf_101, ↓eX10_valueOf_102, ↓eX10_valueOf_105, ↓eX10_valueOf_106, ↓eX10_valueOf_109, ↓eX10_valueOf_112, ↓eX10_valueOf_113, ↓eX10_valueOf_116, ↓eX10_valueOf_117, ha, Int.cast_ofNat_Int, kd_si, gr_si, ln_si, gi_same, gi_na, gi_ni, nl_i, nl_r, nl_j, nj_i, nj_l, nj_r, true_and, and_true, and_self, cs_0, cs_1, cs_2, cs_3, cs_4, ↓reduceIte, Nat.reduceLeDiff, Nat.reduceEqDiff, Nat.reduceAdd, Int.reduceLE, Int.reduceLT, Int.reduceEq, Int.reduceAdd, Int.reduceNeg, Int.reduceToNat, Int.toNat_natCast, ne_eq, not_false_eq_true, not_true_eq_false, or_true, true_or, or_false, false_or]; rfl
  · have e : enC M a ((9 : Int) - 2).toNat = gi M a 8 := rfl
    rw [e]
    rcases hl with z | z
    · simp only [↓cpX10_valueOf, ↓eX10_valueOf_0, ↓eX10_valueOf_1, ↓eX10_valueOf_48, ↓eX10_valueOf_49, ↓eX10_valueOf_52, ↓eX10_valueOf_53, ↓eX10_valueOf_54, ↓eX10_valueOf_57, ↓eX10_valueOf_58, ↓eX10_valueOf_59, ↓eX10_valueOf_62, ↓eX10_valueOf_63, ↓eX10_valueOf_64, ↓eX10_valueOf_67, ↓eX10_valueOf_68, ↓eX10_valueOf_69, ↓eX10_valueOf_72, ↓eX10_valueOf_73, ↓eX10_valueOf_74, ↓eX10_valueOf_77, ↓eX10_valueOf_78, ↓eX10_valueOf_81, ↓eX10_valueOf_82, ↓eX10_valueOf_83, ↓eX10_valueOf_84, ↓eX10_valueOf_87, ↓eX10_valueOf_88, ↓eX10_valueOf_89, ↓eX10_valueOf_92, ↓eX10_valueOf_95, ↓eX10_valueOf_96, ↓eX10_valueOf_99, ↓eX10_valueOf_100, ↓eX10_valueOf_101, ↓eX10_valueOf_102, ↓eX10_valueOf_105, ↓eX10_valueOf_106, ↓eX10_valueOf_109, ↓eX10_valueOf_112, ↓eX10_valueOf_113, ↓eX10_valueOf_116, ↓eX10_valueOf_117, ha, z, Int.cast_ofNat_Int, kd_si, gr_si, ln_si, gi_same, gi_na, gi_ni, nl_i, nl_r, nl_j, nj_i, nj_l, nj_r, true_and, and_true, and_self, cs_0, cs_1, cs_2, cs_3, cs_4, ↓reduceIte, Nat.reduceLeDiff, Nat.reduceEqDiff, Nat.reduceAdd, Int.reduceLE, Int.reduceLT, Int.reduceEq, Int.reduceAdd, Int.reduceNeg, Int.reduceToNat, Int.toNat_natCast, ne_eq, not_false_eq_true, not_true_eq_false, or_true, true_or, or_false, false_or]
    · simp only [↓cpX10_valueOf, ↓eX10_valueOf_0, ↓eX10_valueOf_1, ↓eX10_valueOf_48, ↓eX10_valueOf_49, ↓eX10_valueOf_52, ↓eX10_valueOf_53, ↓eX10_valueOf_54, ↓eX10_valueOf_57, ↓eX10_valueOf_58, ↓eX10_valueOf_59, ↓eX10_valueOf_62, ↓eX10_valueOf_63, ↓eX10_valueOf_64, ↓eX10_valueOf_67, ↓eX10_valueOf_68, ↓eX10_valueOf_69, ↓eX10_valueOf_72, ↓eX10_valueOf_73, ↓eX10_valueOf_74, ↓eX10_valueOf_77, ↓eX10_valueOf_78, ↓eX10_valueOf_81, ↓eX10_valueOf_82, ↓eX10_valueOf_83, ↓eX10_valueOf_84, ↓eX10_valueOf_87, ↓eX10_valueOf_88, ↓eX10_valueOf_89, ↓eX10_valueOf_92, ↓eX10_valueOf_95, ↓eX10_valueOf_96, ↓eX10_valueOf_99, ↓eX10_valueOf_100, ↓eX10_valueOf_101, ↓eX10_valueOf_102, ↓eX10_valueOf_105, ↓eX10_valueOf_106, ↓eX10_valueOf_109, ↓eX10_valueOf_112, ↓eX10_valueOf_113, ↓eX10_valueOf_116, ↓eX10_valueOf_117, ha, z, Int.cast_ofNat_Int, kd_si, gr_si, ln_si, gi_same, gi_na, gi_ni, nl_i, nl_r, nl_j, nj_i, nj_l, nj_r, true_and, and_true, and_self, cs_0, cs_1, cs_2, cs_3, cs_4, ↓reduceIte, Nat.reduceLeDiff, Nat.reduceEqDiff, Nat.reduceAdd, Int.reduceLE, Int.reduceLT, Int.reduceEq, Int.reduceAdd, Int.reduceNeg, Int.reduceToNat, Int.toNat_natCast, ne_eq, not_false_eq_true, not_true_eq_false, or_true, true_or, or_false, false_or]
  · have e : enC M a ((10 : Int) - 2).toNat = if gi M a 9 = gi M a 0 then 1 else 0 := rfl
    rw [e]
    by_cases z : gi M a 9 = gi M a 0
    · rw [if_pos z]
      simp only [↓cpX10_valueOf, ↓eX10_valueOf_0, ↓eX10_valueOf_1, ↓eX10_valueOf_48, ↓eX10_valueOf_49, ↓eX10_valueOf_52, ↓eX10_valueOf_53, ↓eX10_valueOf_54, ↓eX10_valueOf_57, ↓eX10_valueOf_58, ↓eX10_valueOf_59, ↓eX10_valueOf_62, ↓eX10_valueOf_63, ↓eX10_valueOf_64, ↓eX10_valueOf_67, ↓eX10_valueOf_68, ↓eX10_valueOf_69, ↓eX10_valueOf_72, ↓eX10_valueOf_73, ↓eX10_valueOf_74, ↓eX10_valueOf_77, ↓eX10_valueOf_78, ↓eX10_valueOf_81, ↓eX10_valueOf_82, ↓eX10_valueOf_83, ↓eX10_valueOf_84, ↓eX10_valueOf_87, ↓eX10_valueOf_88, ↓eX10_valueOf_89, ↓eX10_valueOf_92, ↓eX10_valueOf_95, ↓eX10_valueOf_96, ↓eX10_valueOf_99, ↓eX10_valueOf_100, ↓eX10_valueOf_101, ↓eX10_valueOf_102, ↓eX10_valueOf_105, ↓eX10_valueOf_106, ↓eX10_valueOf_109, ↓eX10_valueOf_112, ↓eX10_valueOf_113, ↓eX10_valueOf_116, ↓eX10_valueOf_117, ha, z, Int.cast_ofNat_Int, kd_si, gr_si, ln_si, gi_same, gi_na, gi_ni, nl_i, nl_r, nl_j, nj_i, nj_l, nj_r, true_and, and_true, and_self, cs_0, cs_1, cs_2, cs_3, cs_4, ↓reduceIte, Nat.reduceLeDiff, Nat.reduceEqDiff, Nat.reduceAdd, Int.reduceLE, Int.reduceLT, Int.reduceEq, Int.reduceAdd, Int.reduceNeg, Int.reduceToNat, Int.toNat_natCast, ne_eq, not_false_eq_true, not_true_eq_false, or_true, true_or, or_false, false_or]
    · rw [if_neg z]
      simp only [↓cpX10_valueOf, ↓eX10_valueOf_0, ↓eX10_valueOf_1, ↓eX10_valueOf_48, ↓eX10_valueOf_49, ↓eX10_valueOf_52, ↓eX10_valueOf_53, ↓eX10_valueOf_54, ↓eX10_valueOf_57, ↓eX10_valueOf_58, ↓eX10_valueOf_59, ↓eX10_valueOf_62, ↓eX10_valueOf_63, ↓eX10_valueOf_64, ↓eX10_valueOf_67, ↓eX10_valueOf_68, ↓eX10_valueOf_69, ↓eX10_valueOf_72, ↓eX10_valueOf_73, ↓eX10_valueOf_74, ↓eX10_valueOf_77, ↓eX10_valueOf_78, ↓eX10_valueOf_81, ↓eX10_valueOf_82, ↓eX10_valueOf_83, ↓eX10_valueOf_84, ↓eX10_valueOf_87, ↓eX10_valueOf_88, ↓eX10_valueOf_89, ↓eX10_valueOf_92, ↓eX10_valueOf_95, ↓eX10_valueOf_96, ↓eX10_valueOf_99, ↓eX10_valueOf_100, ↓eX10_valueOf_101, ↓eX10_valueOf_102, ↓eX10_valueOf_105, ↓eX10_valueOf_106, ↓eX10_valueOf_109, ↓eX10_valueOf_112, ↓eX10_valueOf_113, ↓eX10_valueOf_116, ↓eX10_valueOf_117, ha, z, Int.cast_ofNat_Int, kd_si, gr_si, ln_si, gi_same, gi_na, gi_ni, nl_i, nl_r, nl_j, nj_i, nj_l, nj_r, true_and, and_true, and_self, cs_0, cs_1, cs_2, cs_3, cs_4, ↓reduceIte, Nat.reduceLeDiff, Nat.reduceEqDiff, Nat.reduceAdd, Int.reduceLE, Int.reduceLT, Int.reduceEq, Int.reduceAdd, Int.reduceNeg, Int.reduceToNat, Int.toNat_natCast, ne_eq, not_false_eq_true, not_true_eq_false, or_true, true_or, or_false, false_or]
theorem x_join {d : Nat} {M : mM} {Q : mV → mM → Prop} {k a b : Int} (h1 : 11 ≤ k) (h2 : k ≤ 19) : CP (mc (d + 1)) 100 [vi k, vi a, vi b] M Q = Q (vi (jn k a b)) M := by
  unfold jn
  rcases (show k = 11 ∨ k = 12 ∨ k = 13 ∨ k = 14 ∨ k = 15 ∨ k = 16 ∨ k = 17 ∨ k = 18 ∨ k = 19 by omega) with rfl | rfl | rfl | rfl | rfl | rfl | rfl | rfl | rfl
  · simp only [↓cpX10_join, ↓eX10_join_0, ↓eX10_join_1, ↓eX10_join_48, ↓eX10_join_49, ↓eX10_join_50, ↓eX10_join_51, ↓eX10_join_52, ↓eX10_join_53, ↓eX10_join_54, ↓eX10_join_55, ↓eX10_join_56, ↓eX10_join_57, ↓eX10_join_58, ↓eX10_join_61, ↓eX10_join_62, ↓eX10_join_65, ↓eX10_join_66, ↓eX10_join_67, ↓eX10_join_68, ↓eX10_join_69, ↓eX10_join_72, ↓eX10_join_73, ↓eX10_join_76, ↓eX10_join_77, ↓eX10_join_78, ↓eX10_join_79, ↓eX10_join_80, ↓eX10_join_83, ↓eX10_join_84, ↓eX10_join_87, ↓eX10_join_88, ↓eX10_join_89, ↓eX10_join_90, ↓eX10_join_91, ↓eX10_join_94, ↓eX10_join_95, ↓eX10_join_98, ↓eX10_join_99, ↓eX10_join_100, ↓eX10_join_101, ↓eX10_join_102, ↓eX10_join_103, ↓eX10_join_104, ↓eX10_join_105, ↓eX10_join_106, ↓eX10_join_107, ↓eX10_join_108, ↓eX10_join_109, ↓eX10_join_110, ↓eX10_join_111, Int.cast_ofNat_Int, kd_si, gr_si, ln_si, gi_same, gi_na, gi_ni, nl_i, nl_r, nl_j, nj_i, nj_l, nj_r, true_and, and_true, and_self, cs_0, cs_1, cs_2, cs_3, cs_4, ↓reduceIte, Nat.reduceLeDiff, Nat.reduceEqDiff, Nat.reduceAdd, Int.reduceLE, Int.reduceLT, Int.reduceEq, Int.reduceAdd, Int.reduceNeg, Int.reduceToNat, Int.toNat_natCast, ne_eq, not_false_eq_true, not_true_eq_false, or_true, true_or, or_false, false_or]; rfl
  · simp only [↓cpX10_join, ↓eX10_join_0, ↓eX10_join_1, ↓eX10_join_48, ↓eX10_join_49, ↓eX10_join_50, ↓eX10_join_51, ↓eX10_join_52, ↓eX10_join_53, ↓eX10_join_54, ↓eX10_join_55, ↓eX10_join_56, ↓eX10_join_57, ↓eX10_join_58, ↓eX10_join_61, ↓eX10_join_62, ↓eX10_join_65, ↓eX10_join_66, ↓eX10_join_67, ↓eX10_join_68, ↓eX10_join_69, ↓eX10_join_72, ↓eX10_join_73, ↓eX10_join_76, ↓eX10_join_77, ↓eX10_join_78, ↓eX10_join_79, ↓eX10_join_80, ↓eX10_join_83, ↓eX10_join_84, ↓eX10_join_87, ↓eX10_join_88, ↓eX10_join_89, ↓eX10_join_90, ↓eX10_join_91, ↓eX10_join_94, ↓eX10_join_95, ↓eX10_join_98, ↓eX10_join_99, ↓eX10_join_100, ↓eX10_join_101, ↓eX10_join_102, ↓eX10_join_103, ↓eX10_join_104, ↓eX10_join_105, ↓eX10_join_106, ↓eX10_join_107, ↓eX10_join_108, ↓eX10_join_109, ↓eX10_join_110, ↓eX10_join_111, Int.cast_ofNat_Int, kd_si, gr_si, ln_si, gi_same, gi_na, gi_ni, nl_i, nl_r, nl_j, nj_i, nj_l, nj_r, true_and, and_true, and_self, cs_0, cs_1, cs_2, cs_3, cs_4, ↓reduceIte, Nat.reduceLeDiff, Nat.reduceEqDiff, Nat.reduceAdd, Int.reduceLE, Int.reduceLT, Int.reduceEq, Int.reduceAdd, Int.reduceNeg, Int.reduceToNat, Int.toNat_natCast, ne_eq, not_false_eq_true, not_true_eq_false, or_true, true_or, or_false, false_or]; rfl
  · simp only [↓cpX10_join, ↓eX10_join_0, ↓eX10_join_1, ↓eX10_join_48, ↓eX10_join_49, ↓eX10_join_50, ↓eX10_join_51, ↓eX10_join_52, ↓eX10_join_53, ↓eX10_join_54, ↓eX10_join_55, ↓eX10_join_56, ↓eX10_join_57, ↓eX10_join_58, ↓eX10_join_61, ↓eX10_join_62, ↓eX10_join_65, ↓eX10_join_66, ↓eX10_join_67, ↓eX10_join_68, ↓eX10_join_69, ↓eX10_join_72, ↓eX10_join_73, ↓eX10_join_76, ↓eX10_join_77, ↓eX10_join_78, ↓eX10_join_79, ↓eX10_join_80, ↓eX10_join_83, ↓eX10_join_84, ↓eX10_join_87, ↓eX10_join_88, ↓eX10_join_89, ↓eX10_join_90, ↓eX10_join_91, ↓eX10_join_94, ↓eX10_join_95, ↓eX10_join_98, ↓eX10_join_99, ↓eX10_join_100, ↓eX10_join_101, ↓eX10_join_102, ↓eX10_join_103, ↓eX10_join_104, ↓eX10_join_105, ↓eX10_join_106, ↓eX10_join_107, ↓eX10_join_108, ↓eX10_join_109, ↓eX10_join_110, ↓eX10_join_111, Int.cast_ofNat_Int, kd_si, gr_si, ln_si, gi_same, gi_na, gi_ni, nl_i, nl_r, nl_j, nj_i, nj_l, nj_r, true_and, and_true, and_self, cs_0, cs_1, cs_2, cs_3, cs_4, ↓reduceIte, Nat.reduceLeDiff, Nat.reduceEqDiff, Nat.reduceAdd, Int.reduceLE, Int.reduceLT, Int.reduceEq, Int.reduceAdd, Int.reduceNeg, Int.reduceToNat, Int.toNat_natCast, ne_eq, not_false_eq_true, not_true_eq_false, or_true, true_or, or_false, false_or]
    by_cases z : a = b
    · rw [if_pos z, if_pos z]
    · rw [if_neg z, if_neg z]
  · simp only [↓cpX10_join, ↓eX10_join_0, ↓eX10_join_1, ↓eX10_join_48, ↓eX10_join_49, ↓eX10_join_50, ↓eX10_join_51, ↓eX10_join_52, ↓eX10_join_53, ↓eX10_join_54, ↓eX10_join_55, ↓eX10_join_56, ↓eX10_join_57, ↓eX10_join_58, ↓eX10_join_61, ↓eX10_join_62, ↓eX10_join_65, ↓eX10_join_66, ↓eX10_join_67, ↓eX10_join_68, ↓eX10_join_69, ↓eX10_join_72, ↓eX10_join_73, ↓eX10_join_76, ↓eX10_join_77, ↓eX10_join_78, ↓eX10_join_79, ↓eX10_join_80, ↓eX10_join_83, ↓eX10_join_84, ↓eX10_join_87, ↓eX10_join_88, ↓eX10_join_89, ↓eX10_join_90, ↓eX10_join_91, ↓eX10_join_94, ↓eX10_join_95, ↓eX10_join_98, ↓eX10_join_99, ↓eX10_join_100, ↓eX10_join_101, ↓eX10_join_102, ↓eX10_join_103, ↓eX10_join_104, ↓eX10_join_105, ↓eX10_join_106, ↓eX10_join_107, ↓eX10_join_108, ↓eX10_join_109, ↓eX10_join_110, ↓eX10_join_111, Int.cast_ofNat_Int, kd_si, gr_si, ln_si, gi_same, gi_na, gi_ni, nl_i, nl_r, nl_j, nj_i, nj_l, nj_r, true_and, and_true, and_self, cs_0, cs_1, cs_2, cs_3, cs_4, ↓reduceIte, Nat.reduceLeDiff, Nat.reduceEqDiff, Nat.reduceAdd, Int.reduceLE, Int.reduceLT, Int.reduceEq, Int.reduceAdd, Int.reduceNeg, Int.reduceToNat, Int.toNat_natCast, ne_eq, not_false_eq_true, not_true_eq_false, or_true, true_or, or_false, false_or]
    by_cases z : a = b
    · rw [if_pos z, if_pos z]
    · rw [if_neg z, if_neg z]
  · simp only [↓cpX10_join, ↓eX10_join_0, ↓eX10_join_1, ↓eX10_join_48, ↓eX10_join_49, ↓eX10_join_50, ↓eX10_join_51, ↓eX10_join_52, ↓eX10_join_53, ↓eX10_join_54, ↓eX10_join_55, ↓eX10_join_56, ↓eX10_join_57, ↓eX10_join_58, ↓eX10_join_61, ↓eX10_join_62, ↓eX10_join_65, ↓eX10_join_66, ↓eX10_join_67, ↓eX10_join_68, ↓eX10_join_69, ↓eX10_join_72, ↓eX10_join_73, ↓eX10_join_76, ↓eX10_join_77, ↓eX10_join_78, ↓eX10_join_79, ↓eX10_join_80, ↓eX10_join_83, ↓eX10_join_84, ↓eX10_join_87, ↓eX10_join_88, ↓eX10_join_89, ↓eX10_join_90, ↓eX10_join_91, ↓eX10_join_94, ↓eX10_join_95, ↓eX10_join_98, ↓eX10_join_99, ↓eX10_join_100, ↓eX10_join_101, ↓eX10_join_102, ↓eX10_join_103, ↓eX10_join_104, ↓eX10_join_105, ↓eX10_join_106, ↓eX10_join_107, ↓eX10_join_108, ↓eX10_join_109, ↓eX10_join_110, ↓eX10_join_111, Int.cast_ofNat_Int, kd_si, gr_si, ln_si, gi_same, gi_na, gi_ni, nl_i, nl_r, nl_j, nj_i, nj_l, nj_r, true_and, and_true, and_self, cs_0, cs_1, cs_2, cs_3, cs_4, ↓reduceIte, Nat.reduceLeDiff, Nat.reduceEqDiff, Nat.reduceAdd, Int.reduceLE, Int.reduceLT, Int.reduceEq, Int.reduceAdd, Int.reduceNeg, Int.reduceToNat, Int.toNat_natCast, ne_eq, not_false_eq_true, not_true_eq_false, or_true, true_or, or_false, false_or]
    by_cases z : a < b
    · rw [if_neg (by omega), if_pos z]
    · rw [if_pos (by omega), if_neg z]
  · simp only [↓cpX10_join, ↓eX10_join_0, ↓eX10_join_1, ↓eX10_join_48, ↓eX10_join_49, ↓eX10_join_50, ↓eX10_join_51, ↓eX10_join_52, ↓eX10_join_53, ↓eX10_join_54, ↓eX10_join_55, ↓eX10_join_56, ↓eX10_join_57, ↓eX10_join_58, ↓eX10_join_61, ↓eX10_join_62, ↓eX10_join_65, ↓eX10_join_66, ↓eX10_join_67, ↓eX10_join_68, ↓eX10_join_69, ↓eX10_join_72, ↓eX10_join_73, ↓eX10_join_76, ↓eX10_join_77, ↓eX10_join_78, ↓eX10_join_79, ↓eX10_join_80, ↓eX10_join_83, ↓eX10_join_84, ↓eX10_join_87, ↓eX10_join_88, ↓eX10_join_89, ↓eX10_join_90, ↓eX10_join_91, ↓eX10_join_94, ↓eX10_join_95, ↓eX10_join_98, ↓eX10_join_99, ↓eX10_join_100, ↓eX10_join_101, ↓eX10_join_102, ↓eX10_join_103, ↓eX10_join_104, ↓eX10_join_105, ↓eX10_join_106, ↓eX10_join_107, ↓eX10_join_108, ↓eX10_join_109, ↓eX10_join_110, ↓eX10_join_111, Int.cast_ofNat_Int, kd_si, gr_si, ln_si, gi_same, gi_na, gi_ni, nl_i, nl_r, nl_j, nj_i, nj_l, nj_r, true_and, and_true, and_self, cs_0, cs_1, cs_2, cs_3, cs_4, ↓reduceIte, Nat.reduceLeDiff, Nat.reduceEqDiff, Nat.reduceAdd, Int.reduceLE, Int.reduceLT, Int.reduceEq, Int.reduceAdd, Int.reduceNeg, Int.reduceToNat, Int.toNat_natCast, ne_eq, not_false_eq_true, not_true_eq_false, or_true, true_or, or_false, false_or]
    by_cases z : a ≤ b
    · rw [if_neg (by omega), if_pos z]
    · rw [if_pos (by omega), if_neg z]
  · simp only [↓cpX10_join, ↓eX10_join_0, ↓eX10_join_1, ↓eX10_join_48, ↓eX10_join_49, ↓eX10_join_50, ↓eX10_join_51, ↓eX10_join_52, ↓eX10_join_53, ↓eX10_join_54, ↓eX10_join_55, ↓eX10_join_56, ↓eX10_join_57, ↓eX10_join_58, ↓eX10_join_61, ↓eX10_join_62, ↓eX10_join_65, ↓eX10_join_66, ↓eX10_join_67, ↓eX10_join_68, ↓eX10_join_69, ↓eX10_join_72, ↓eX10_join_73, ↓eX10_join_76, ↓eX10_join_77, ↓eX10_join_78, ↓eX10_join_79, ↓eX10_join_80, ↓eX10_join_83, ↓eX10_join_84, ↓eX10_join_87, ↓eX10_join_88, ↓eX10_join_89, ↓eX10_join_90, ↓eX10_join_91, ↓eX10_join_94, ↓eX10_join_95, ↓eX10_join_98, ↓eX10_join_99, ↓eX10_join_100, ↓eX10_join_101, ↓eX10_join_102, ↓eX10_join_103, ↓eX10_join_104, ↓eX10_join_105, ↓eX10_join_106, ↓eX10_join_107, ↓eX10_join_108, ↓eX10_join_109, ↓eX10_join_110, ↓eX10_join_111, Int.cast_ofNat_Int, kd_si, gr_si, ln_si, gi_same, gi_na, gi_ni, nl_i, nl_r, nl_j, nj_i, nj_l, nj_r, true_and, and_true, and_self, cs_0, cs_1, cs_2, cs_3, cs_4, ↓reduceIte, Nat.reduceLeDiff, Nat.reduceEqDiff, Nat.reduceAdd, Int.reduceLE, Int.reduceLT, Int.reduceEq, Int.reduceAdd, Int.reduceNeg, Int.reduceToNat, Int.toNat_natCast, ne_eq, not_false_eq_true, not_true_eq_false, or_true, true_or, or_false, false_or]
  · simp only [↓cpX10_join, ↓eX10_join_0, ↓eX10_join_1, ↓eX10_join_48, ↓eX10_join_49, ↓eX10_join_50, ↓eX10_join_51, ↓eX10_join_52, ↓eX10_join_53, ↓eX10_join_54, ↓eX10_join_55, ↓eX10_join_56, ↓eX10_join_57, ↓eX10_join_58, ↓eX10_join_61, ↓eX10_join_62, ↓eX10_join_65, ↓eX10_join_66, ↓eX10_join_67, ↓eX10_join_68, ↓eX10_join_69, ↓eX10_join_72, ↓eX10_join_73, ↓eX10_join_76, ↓eX10_join_77, ↓eX10_join_78, ↓eX10_join_79, ↓eX10_join_80, ↓eX10_join_83, ↓eX10_join_84, ↓eX10_join_87, ↓eX10_join_88, ↓eX10_join_89, ↓eX10_join_90, ↓eX10_join_91, ↓eX10_join_94, ↓eX10_join_95, ↓eX10_join_98, ↓eX10_join_99, ↓eX10_join_100, ↓eX10_join_101, ↓eX10_join_102, ↓eX10_join_103, ↓eX10_join_104, ↓eX10_join_105, ↓eX10_join_106, ↓eX10_join_107, ↓eX10_join_108, ↓eX10_join_109, ↓eX10_join_110, ↓eX10_join_111, Int.cast_ofNat_Int, kd_si, gr_si, ln_si, gi_same, gi_na, gi_ni, nl_i, nl_r, nl_j, nj_i, nj_l, nj_r, true_and, and_true, and_self, cs_0, cs_1, cs_2, cs_3, cs_4, ↓reduceIte, Nat.reduceLeDiff, Nat.reduceEqDiff, Nat.reduceAdd, Int.reduceLE, Int.reduceLT, Int.reduceEq, Int.reduceAdd, Int.reduceNeg, Int.reduceToNat, Int.toNat_natCast, ne_eq, not_false_eq_true, not_true_eq_false, or_true, true_or, or_false, false_or]
  · simp only [↓cpX10_join, ↓eX10_join_0, ↓eX10_join_1, ↓eX10_join_48, ↓eX10_join_49, ↓eX10_join_50, ↓eX10_join_51, ↓eX10_join_52, ↓eX10_join_53, ↓eX10_join_54, ↓eX10_join_55, ↓eX10_join_56, ↓eX10_join_57, ↓eX10_join_58, ↓eX10_join_61, ↓eX10_join_62, ↓eX10_join_65, ↓eX10_join_66, ↓eX10_join_67, ↓eX10_join_68, ↓eX10_join_69, ↓eX10_join_72, ↓eX10_join_73, ↓eX10_join_76, ↓eX10_join_77, ↓eX10_join_78, ↓eX10_join_79, ↓eX10_join_80, ↓eX10_join_83, ↓eX10_join_84, ↓eX10_join_87, ↓eX10_join_88, ↓eX10_join_89, ↓eX10_join_90, ↓eX10_join_91, ↓eX10_join_94, ↓eX10_join_95, ↓eX10_join_98, ↓eX10_join_99, ↓eX10_join_100, ↓eX10_join_101, ↓eX10_join_102, ↓eX10_join_103, ↓eX10_join_104, ↓eX10_join_105, ↓eX10_join_106, ↓eX10_join_107, ↓eX10_join_108, ↓eX10_join_109, ↓eX10_join_110, ↓eX10_join_111, Int.cast_ofNat_Int, kd_si, gr_si, ln_si, gi_same, gi_na, gi_ni, nl_i, nl_r, nl_j, nj_i, nj_l, nj_r, true_and, and_true, and_self, cs_0, cs_1, cs_2, cs_3, cs_4, ↓reduceIte, Nat.reduceLeDiff, Nat.reduceEqDiff, Nat.reduceAdd, Int.reduceLE, Int.reduceLT, Int.reduceEq, Int.reduceAdd, Int.reduceNeg, Int.reduceToNat, Int.toNat_natCast, ne_eq, not_false_eq_true, not_true_eq_false, or_true, true_or, or_false, false_or]
theorem enC_eq {M N : mM} {a : Nat} (h : ∀ i, gi N a i = gi M a i) : enC N a = enC M a := by
  funext i
  unfold enC
  simp only [h]
theorem x_met_loop {d : Nat} {M : mM} {Q : mV → mM → Prop} {u a lo en : Nat} {r : Int} {x : Int} (h : SH M) (hu : u = 21 ∨ u = 26) (ha : kd M a = 6) (ha8 : 88 ≤ a) (hl : gi M a 8 = 0 ∨ gi M a 8 = 1) (hle : lo ≤ en) (h4 : en ≤ 400) (hg : gd (gi M (u + 1)) lo (en - lo)) (hr : rn (gi M (u + 1)) lo (en - lo) (enC M a) = [x])
    (hQ : ∀ N, DF (fun b => b = u + 4) M N → Q (vi (if x = 0 then 0 else 1)) N) :
    ∀ (f j : Nat) (N : mM) (a6 : mV), j + f = en - lo → DF (fun b => b = u + 4) M N → stk (gi N (u + 4)) (rn (gi M (u + 1)) lo j (enC M a)) → (rn (gi M (u + 1)) lo j (enC M a)).length ≤ 24 → WP (mc (d + 1)) tX10_isMet 63 [vr (some u), vi r, vr (some a), vi ((rn (gi M (u + 1)) lo j (enC M a)).length : Nat), vi en, vi (lo + j : Nat), a6] [] N Q := by
  obtain ⟨w0, ⟨w1, w2, w3, w4⟩, ⟨w5, w6, w7, w8⟩, w9, w10, w11, w12⟩ := wsh h hu
  intro f
  induction f with
  | zero =>
    intro j N a6 hj hD hs h24
    have ej : j = en - lo := by omega
    have e1 : ((en : Nat) : Int) ≤ ((lo + j : Nat) : Int) := by omega
    clear h24
    rw [ej, hr] at hs ⊢
    have s0 : gi N (u + 4) 0 = x := hs.1
    have k0 : kd N u = 10 := by rw [DF_k hD]; exact w0
    have r5 : gr N u 5 = some (u + 4) := by rw [DF_r hD]; exact w4
    have k5 : kd N (u + 4) = 14 := by rw [DF_k hD]; exact w8
    have l5 : ln N (u + 4) = 24 := by rw [DF_l hD]; exact w12
    rw [← ej]
    have q := hQ N hD
    rw [eX10_isMet_63]
    by_cases z : x = 0
    · rw [if_pos z] at q
      simp only [↓eX10_isMet_65, ↓eX10_isMet_67, ↓eX10_isMet_170, ↓eX10_isMet_171, ↓eX10_isMet_172, ↓eX10_isMet_175, ↓eX10_isMet_176, ↓eX10_isMet_179, ↓eX10_isMet_180, ↓eX10_isMet_181, ↓eX10_isMet_184, ↓eX10_isMet_185, ↓eX10_isMet_188, ↓eX10_isMet_189, e1, k0, r5, k5, l5, s0, z, List.length_cons, List.length_nil, Nat.zero_add, Int.cast_ofNat_Int, kd_si, gr_si, ln_si, gi_same, gi_na, gi_ni, nl_i, nl_r, nl_j, nj_i, nj_l, nj_r, true_and, and_true, and_self, cs_0, cs_1, cs_2, cs_3, cs_4, ↓reduceIte, Nat.reduceLeDiff, Nat.reduceEqDiff, Nat.reduceAdd, Int.reduceLE, Int.reduceLT, Int.reduceEq, Int.reduceAdd, Int.reduceNeg, Int.reduceToNat, Int.toNat_natCast, ne_eq, not_false_eq_true, not_true_eq_false, or_true, true_or, or_false, false_or]
      exact q
    · rw [if_neg z] at q
      simp only [↓eX10_isMet_65, ↓eX10_isMet_67, ↓eX10_isMet_170, ↓eX10_isMet_171, ↓eX10_isMet_172, ↓eX10_isMet_175, ↓eX10_isMet_176, ↓eX10_isMet_179, ↓eX10_isMet_180, ↓eX10_isMet_181, ↓eX10_isMet_184, ↓eX10_isMet_185, ↓eX10_isMet_188, ↓eX10_isMet_189, e1, k0, r5, k5, l5, s0, z, List.length_cons, List.length_nil, Nat.zero_add, Int.cast_ofNat_Int, kd_si, gr_si, ln_si, gi_same, gi_na, gi_ni, nl_i, nl_r, nl_j, nj_i, nj_l, nj_r, true_and, and_true, and_self, cs_0, cs_1, cs_2, cs_3, cs_4, ↓reduceIte, Nat.reduceLeDiff, Nat.reduceEqDiff, Nat.reduceAdd, Int.reduceLE, Int.reduceLT, Int.reduceEq, Int.reduceAdd, Int.reduceNeg, Int.reduceToNat, Int.toNat_natCast, ne_eq, not_false_eq_true, not_true_eq_false, or_true, true_or, or_false, false_or]
      exact q
  | succ f ih =>
    intro j N a6 hj hD hs h24
    have e1 : (((en : Nat) : Int) ≤ ((lo + j : Nat) : Int)) = False := eq_false (by omega)
    have e2 : wr (((lo + j : Nat) : Int) + 1) = ((lo + (j + 1) : Nat) : Int) := by rw [wr_id (by omega) (by omega)]; omega
    have i0 : (0 ≤ ((lo + j : Nat) : Int)) = True := eq_true (by omega)
    have i1 : (((lo + j : Nat) : Int) < 400) = True := eq_true (by omega)
    have hN := DF_SH hD h
    have k0 : kd N u = 10 := by rw [DF_k hD]; exact w0
    have ka : kd N a = 6 := by rw [DF_k hD]; exact ha
    have r5 : gr N u 5 = some (u + 4) := by rw [DF_r hD]; exact w4
    have r2 : gr N u 2 = some (u + 1) := by rw [DF_r hD]; exact w1
    have k2 : kd N (u + 1) = 14 := by rw [DF_k hD]; exact w5
    have l2 : ln N (u + 1) = 400 := by rw [DF_l hD]; exact w9
    have k5 : kd N (u + 4) = 14 := by rw [DF_k hD]; exact w8
    have l5 : ln N (u + 4) = 24 := by rw [DF_l hD]; exact w12
    have gc : gi N (u + 1) (lo + j) = gi M (u + 1) (lo + j) := hD.2 _ _ (by omega)
    have na : a ≠ u + 4 := by omega
    have ga : ∀ i, gi N a i = gi M a i := fun i => hD.2 _ _ na
    have sd' : ∀ (i : Nat) (z : Int), DF (fun b => b = u + 4) M (si N (u + 4) i z) := fun i z => DF_si (P := fun b => b = u + 4) rfl hD
    obtain ⟨g1, g2⟩ := hg j (by omega) (enC M a)
    have rs : rn (gi M (u + 1)) lo (j + 1) (enC M a) = stp (enC M a) (gi M (u + 1) (lo + j)) (rn (gi M (u + 1)) lo j (enC M a)) := rfl
    have hi := ih (j + 1)
    rw [rs] at hi
    generalize gi M (u + 1) (lo + j) = c at *
    generalize rn (gi M (u + 1)) lo j (enC M a) = S at *
    rw [eX10_isMet_63]
    by_cases q : c ≤ -11
    · obtain ⟨q1, q2⟩ := g1 q
      have q' : (-11 < c) = False := eq_false (by omega)
      match S, q2 with
      | y :: x' :: t, _ =>
        obtain ⟨s1, s2, s3⟩ := hs
        rw [List.length_cons] at s1
        have lt : t.length ≤ 22 := by rw [List.length_cons, List.length_cons] at h24; omega
        have len : ((y :: x' :: t).length : Nat) = t.length + 2 := rfl
        have w1' : wr (((t.length + 2 : Nat) : Int) + (-1)) = ((t.length + 1 : Nat) : Int) := by rw [wr_id (by omega) (by omega)]; omega
        have c0 : ((2 : Int) ≤ ((t.length + 2 : Nat) : Int)) = True := eq_true (by omega)
        have w2' : wr (((t.length + 1 : Nat) : Int) - 1) = ((t.length : Nat) : Int) := by rw [wr_id (by omega) (by omega)]; omega
        have wc : wr (-c) = -c := wr_id (by omega) (by omega)
        have j0 : (0 ≤ ((t.length : Nat) : Int)) = True := eq_true (by omega)
        have j1 : (((t.length : Nat) : Int) < 24) = True := eq_true (by omega)
        have j2 : (0 ≤ ((t.length + 1 : Nat) : Int)) = True := eq_true (by omega)
        have j3 : (((t.length + 1 : Nat) : Int) < 24) = True := eq_true (by omega)
        have fj := fun (Q : mV → mM → Prop) (x y : Int) => x_join (d := d) (M := N) (Q := Q) (k := -c) (a := x) (b := y) (by omega) (by omega)
        have S' : stp (enC M a) c (y :: x' :: t) = jn (-c) x' y :: t := by unfold stp; rw [if_pos q]; rfl
        rw [S'] at hi
        rw [len]
        simp only [↓eX10_isMet_65, ↓eX10_isMet_67, ↓eX10_isMet_70, ↓eX10_isMet_71, ↓eX10_isMet_74, ↓eX10_isMet_76, ↓eX10_isMet_77, ↓eX10_isMet_79, ↓eX10_isMet_81, ↓eX10_isMet_83, ↓eX10_isMet_86, ↓eX10_isMet_87, ↓eX10_isMet_88, ↓eX10_isMet_91, ↓eX10_isMet_92, ↓eX10_isMet_93, ↓eX10_isMet_96, ↓eX10_isMet_97, ↓eX10_isMet_100, ↓eX10_isMet_101, ↓eX10_isMet_102, ↓eX10_isMet_103, ↓eX10_isMet_105, ↓eX10_isMet_106, ↓eX10_isMet_107, ↓eX10_isMet_110, ↓eX10_isMet_111, ↓eX10_isMet_112, ↓eX10_isMet_113, ↓eX10_isMet_114, ↓eX10_isMet_115, ↓eX10_isMet_118, ↓eX10_isMet_119, ↓eX10_isMet_120, ↓eX10_isMet_123, ↓eX10_isMet_124, ↓eX10_isMet_164, ↓eX10_isMet_167, e1, e2, i0, i1, k0, r2, k2, l2, r5, k5, l5, gc, q', c0, w1', w2', wc, j0, j1, j2, j3, s1, s2, ↓fj, Int.cast_ofNat_Int, kd_si, gr_si, ln_si, gi_same, gi_na, gi_ni, nl_i, nl_r, nl_j, nj_i, nj_l, nj_r, true_and, and_true, and_self, cs_0, cs_1, cs_2, cs_3, cs_4, ↓reduceIte, Nat.reduceLeDiff, Nat.reduceEqDiff, Nat.reduceAdd, Int.reduceLE, Int.reduceLT, Int.reduceEq, Int.reduceAdd, Int.reduceNeg, Int.reduceToNat, Int.toNat_natCast, ne_eq, not_false_eq_true, not_true_eq_false, or_true, true_or, or_false, false_or]
        refine hi _ _ (by omega) (sd' _ _) ⟨gi_same _ _ _ _, stk_eq t (fun i hi => ?_) s3⟩ (by rw [List.length_cons]; omega)
        rw [gi_ni (by omega)]
    · have q' : (-11 < c) = True := eq_true (by omega)
      obtain ⟨⟨q1, q2⟩, q3⟩ := g2 (by omega)
      have l0 : ((24 : Int) ≤ ((S.length : Nat) : Int)) = False := eq_false (by omega)
      have l1 : (((S.length : Nat) : Int) < 24) = True := eq_true (by omega)
      have j0 : (0 ≤ ((S.length : Nat) : Int)) = True := eq_true (by omega)
      have w1' : wr (((S.length : Nat) : Int) + 1) = ((S.length + 1 : Nat) : Int) := by rw [wr_id (by omega) (by omega)]; omega
      have fin : ∀ v, v = (if 0 ≤ c then c else enC M a (-c - 2).toNat) → WP (mc (d + 1)) tX10_isMet 63 [vr (some u), vi r, vr (some a), vi (S.length + 1 : Nat), vi en, vi (lo + (j + 1) : Nat), vi c] [] (si N (u + 4) S.length v) Q := fun v hv => by
        have S' : stp (enC M a) c S = v :: S := by unfold stp; rw [if_neg q, hv]
        rw [S'] at hi
        refine hi _ _ (by omega) (sd' _ _) ⟨gi_same _ _ _ _, stk_eq S (fun i hi => ?_) hs⟩ (by rw [List.length_cons]; omega)
        rw [gi_ni (by omega)]
      by_cases z : 0 ≤ c
      · have z' : (c < 0) = False := eq_false (by omega)
        have := fin c (by rw [if_pos z])
        simp only [↓eX10_isMet_65, ↓eX10_isMet_67, ↓eX10_isMet_70, ↓eX10_isMet_71, ↓eX10_isMet_74, ↓eX10_isMet_76, ↓eX10_isMet_77, ↓eX10_isMet_79, ↓eX10_isMet_81, ↓eX10_isMet_83, ↓eX10_isMet_86, ↓eX10_isMet_87, ↓eX10_isMet_88, ↓eX10_isMet_91, ↓eX10_isMet_92, ↓eX10_isMet_127, ↓eX10_isMet_128, ↓eX10_isMet_129, ↓eX10_isMet_132, ↓eX10_isMet_133, ↓eX10_isMet_136, ↓eX10_isMet_137, ↓eX10_isMet_138, ↓eX10_isMet_139, ↓eX10_isMet_142, ↓eX10_isMet_143, ↓eX10_isMet_145, ↓eX10_isMet_148, ↓eX10_isMet_150, ↓eX10_isMet_153, ↓eX10_isMet_155, ↓eX10_isMet_156, ↓eX10_isMet_157, ↓eX10_isMet_160, ↓eX10_isMet_161, ↓eX10_isMet_164, ↓eX10_isMet_167, e1, e2, i0, i1, k0, r2, k2, l2, r5, k5, l5, gc, q', l0, l1, j0, w1', z', Int.cast_ofNat_Int, kd_si, gr_si, ln_si, gi_same, gi_na, gi_ni, nl_i, nl_r, nl_j, nj_i, nj_l, nj_r, true_and, and_true, and_self, cs_0, cs_1, cs_2, cs_3, cs_4, ↓reduceIte, Nat.reduceLeDiff, Nat.reduceEqDiff, Nat.reduceAdd, Int.reduceLE, Int.reduceLT, Int.reduceEq, Int.reduceAdd, Int.reduceNeg, Int.reduceToNat, Int.toNat_natCast, ne_eq, not_false_eq_true, not_true_eq_false, or_true, true_or, or_false, false_or]
        exact this
      · have z' : (c < 0) = True := eq_true (by omega)
        have wc : wr (-c) = -c := wr_id (by omega) (by omega)
        have fv := fun (Q : mV → mM → Prop) => x_valueOf (d := d) (M := N) (Q := Q) (a := a) (k := -c) ka (by rw [ga]; exact hl) (by omega) (by omega)
        rw [enC_eq ga] at fv
        have := fin (enC M a (-c - 2).toNat) (by rw [if_neg z])
        simp only [↓eX10_isMet_65, ↓eX10_isMet_67, ↓eX10_isMet_70, ↓eX10_isMet_71, ↓eX10_isMet_74, ↓eX10_isMet_76, ↓eX10_isMet_77, ↓eX10_isMet_79, ↓eX10_isMet_81, ↓eX10_isMet_83, ↓eX10_isMet_86, ↓eX10_isMet_87, ↓eX10_isMet_88, ↓eX10_isMet_91, ↓eX10_isMet_92, ↓eX10_isMet_127, ↓eX10_isMet_128, ↓eX10_isMet_129, ↓eX10_isMet_132, ↓eX10_isMet_133, ↓eX10_isMet_136, ↓eX10_isMet_137, ↓eX10_isMet_138, ↓eX10_isMet_139, ↓eX10_isMet_142, ↓eX10_isMet_143, ↓eX10_isMet_145, ↓eX10_isMet_148, ↓eX10_isMet_150, ↓eX10_isMet_153, ↓eX10_isMet_155, ↓eX10_isMet_156, ↓eX10_isMet_157, ↓eX10_isMet_160, ↓eX10_isMet_161, ↓eX10_isMet_164, ↓eX10_isMet_167, e1, e2, i0, i1, k0, r2, k2, l2, r5, k5, l5, gc, q', l0, l1, j0, w1', z', wc, ↓fv, Int.cast_ofNat_Int, kd_si, gr_si, ln_si, gi_same, gi_na, gi_ni, nl_i, nl_r, nl_j, nj_i, nj_l, nj_r, true_and, and_true, and_self, cs_0, cs_1, cs_2, cs_3, cs_4, ↓reduceIte, Nat.reduceLeDiff, Nat.reduceEqDiff, Nat.reduceAdd, Int.reduceLE, Int.reduceLT, Int.reduceEq, Int.reduceAdd, Int.reduceNeg, Int.reduceToNat, Int.toNat_natCast, ne_eq, not_false_eq_true, not_true_eq_false, or_true, true_or, or_false, false_or]
        exact this
/-- isMet -/
theorem x_isMet {d : Nat} {M : mM} {Q : mV → mM → Prop} {u a R r : Nat} {me : Nat → Env → Int} {mt : Nat → Int} (h : SH M) (hu : u = 21 ∨ u = 26) (ha : kd M a = 6) (ha8 : 88 ≤ a) (hl : gi M a 8 = 0 ∨ gi M a 8 = 1) (hR : gi M u 0 = R) (hR20 : R ≤ 20) (hRU : RU u M R me mt) (hr : r < R)
    (hQ : ∀ N, DF (fun b => b = u + 4) M N → Q (vi (if me r (enC M a) = 0 then 0 else 1)) N) : CP (mc (d + 2)) 98 [vr (some u), vi r, vr (some a)] M Q := by
  obtain ⟨w0, ⟨w1, w2, w3, w4⟩, ⟨w5, w6, w7, w8⟩, w9, w10, w11, w12⟩ := wsh h hu
  obtain ⟨a1, a2, a3, a4, a5, a6⟩ := hRU r hr
  have e0 : ((r : Int) < 0) = False := eq_false (by omega)
  have e1 : ((R : Int) ≤ (r : Int)) = False := eq_false (by omega)
  have e2 : ((r : Int) < 20) = True := eq_true (by omega)
  have e3 : (0 ≤ (r : Int)) = True := eq_true (by omega)
  have en : gi M (u + 2) r = (rst u M (r + 1) : Nat) := by unfold rst; rw [if_neg (by omega), Nat.add_sub_cancel]; omega
  have mn : mMin ((rst u M (r + 1) : Nat) : Int) 400 = (rst u M (r + 1) : Nat) := mMin_l (by omega)
  have lp := x_met_loop (d := d) (r := r) h hu ha ha8 hl a2 a3 a5 (a6 (enC M a)) hQ (rst u M (r + 1) - rst u M r) 0 M vj (by omega) DF_refl trivial (Nat.zero_le _)
  have lp' : WP (mc (d + 1)) tX10_isMet 63 [vr (some u), vi r, vr (some a), vi 0, vi (rst u M (r + 1) : Nat), vi (rst u M r : Nat), vj] [] M Q := lp
  by_cases z : r = 0
  · have z' : ((r : Int) = 0) = True := eq_true (by omega)
    have s0 : rst u M r = 0 := by unfold rst; rw [if_pos z]
    rw [s0] at lp'
    simp only [↓cpX10_isMet, ↓eX10_isMet_0, ↓eX10_isMet_1, ↓eX10_isMet_4, ↓eX10_isMet_5, ↓eX10_isMet_6, ↓eX10_isMet_9, ↓eX10_isMet_12, ↓eX10_isMet_13, ↓eX10_isMet_14, ↓eX10_isMet_17, ↓eX10_isMet_18, ↓eX10_isMet_21, ↓eX10_isMet_22, ↓eX10_isMet_23, ↓eX10_isMet_24, ↓eX10_isMet_25, ↓eX10_isMet_26, ↓eX10_isMet_29, ↓eX10_isMet_30, ↓eX10_isMet_31, ↓eX10_isMet_32, ↓eX10_isMet_35, ↓eX10_isMet_36, ↓eX10_isMet_39, ↓eX10_isMet_41, ↓eX10_isMet_42, ↓eX10_isMet_45, ↓eX10_isMet_46, ↓eX10_isMet_49, ↓eX10_isMet_50, ↓eX10_isMet_53, ↓eX10_isMet_54, ↓eX10_isMet_55, ↓eX10_isMet_56, ↓eX10_isMet_57, ↓eX10_isMet_58, ↓eX10_isMet_61, w0, w1, w2, w5, w6, w9, w10, hR, e0, e1, e2, e3, en, mn, z', Int.cast_ofNat_Int, kd_si, gr_si, ln_si, gi_same, gi_na, gi_ni, nl_i, nl_r, nl_j, nj_i, nj_l, nj_r, true_and, and_true, and_self, cs_0, cs_1, cs_2, cs_3, cs_4, ↓reduceIte, Nat.reduceLeDiff, Nat.reduceEqDiff, Nat.reduceAdd, Int.reduceLE, Int.reduceLT, Int.reduceEq, Int.reduceAdd, Int.reduceNeg, Int.reduceToNat, Int.toNat_natCast, ne_eq, not_false_eq_true, not_true_eq_false, or_true, true_or, or_false, false_or]
    exact lp'
  · have z' : ((r : Int) = 0) = False := eq_false (by omega)
    have w1' : wr ((r : Int) - 1) = ((r - 1 : Nat) : Int) := by rw [wr_id (by omega) (by omega)]; omega
    have p0 : (0 ≤ ((r - 1 : Nat) : Int)) = True := eq_true (by omega)
    have p1 : (((r - 1 : Nat) : Int) < 20) = True := eq_true (by omega)
    have st : gi M (u + 2) (r - 1) = (rst u M r : Nat) := by
      have := (hRU (r - 1) (by omega)).1
      unfold rst
      rw [if_neg z]
      omega
    have mx : mMax ((rst u M r : Nat) : Int) 0 = (rst u M r : Nat) := mMax_l (by omega)
    simp only [↓cpX10_isMet, ↓eX10_isMet_0, ↓eX10_isMet_1, ↓eX10_isMet_4, ↓eX10_isMet_5, ↓eX10_isMet_6, ↓eX10_isMet_9, ↓eX10_isMet_12, ↓eX10_isMet_13, ↓eX10_isMet_14, ↓eX10_isMet_17, ↓eX10_isMet_18, ↓eX10_isMet_21, ↓eX10_isMet_22, ↓eX10_isMet_23, ↓eX10_isMet_24, ↓eX10_isMet_25, ↓eX10_isMet_26, ↓eX10_isMet_29, ↓eX10_isMet_30, ↓eX10_isMet_31, ↓eX10_isMet_32, ↓eX10_isMet_35, ↓eX10_isMet_36, ↓eX10_isMet_39, ↓eX10_isMet_41, ↓eX10_isMet_42, ↓eX10_isMet_45, ↓eX10_isMet_46, ↓eX10_isMet_49, ↓eX10_isMet_50, ↓eX10_isMet_53, ↓eX10_isMet_54, ↓eX10_isMet_55, ↓eX10_isMet_56, ↓eX10_isMet_57, ↓eX10_isMet_58, ↓eX10_isMet_61, w0, w1, w2, w5, w6, w9, w10, hR, e0, e1, e2, e3, en, mn, z', w1', p0, p1, st, mx, Int.cast_ofNat_Int, kd_si, gr_si, ln_si, gi_same, gi_na, gi_ni, nl_i, nl_r, nl_j, nj_i, nj_l, nj_r, true_and, and_true, and_self, cs_0, cs_1, cs_2, cs_3, cs_4, ↓reduceIte, Nat.reduceLeDiff, Nat.reduceEqDiff, Nat.reduceAdd, Int.reduceLE, Int.reduceLT, Int.reduceEq, Int.reduceAdd, Int.reduceNeg, Int.reduceToNat, Int.toNat_natCast, ne_eq, not_false_eq_true, not_true_eq_false, or_true, true_or, or_false, false_or]
    exact lp'
/-- the weight by the rules -/
def wgh (me : Nat → Env → Int) (mt : Nat → Int) (e : Env) : Nat → Nat → Int → Int
  | 0, _, w => w
  | n + 1, r, w => if (mt r = 0 ∨ w < mt r) ∧ me r e ≠ 0 then (if mt r = 0 then 0 else wgh me mt e n (r + 1) (mt r)) else wgh me mt e n (r + 1) w
theorem x_wgh_loop {d : Nat} {M : mM} {Q : mV → mM → Prop} {u a R : Nat} {me : Nat → Env → Int} {mt : Nat → Int} {W : Int} (h : SH M) (hu : u = 21 ∨ u = 26) (ha : kd M a = 6) (ha8 : 88 ≤ a) (hl : gi M a 8 = 0 ∨ gi M a 8 = 1) (hR : gi M u 0 = R) (hR20 : R ≤ 20) (hRU : RU u M R me mt)
    (hQ : ∀ N, DF (fun b => b = u + 4) M N → Q (vi W) N) :
    ∀ (f r : Nat) (w : Int) (N : mM) (a4 : mV), r + f = R → DF (fun b => b = u + 4) M N → wgh me mt (enC M a) f r w = W → WP (mc (d + 2)) tX10_weigh 4 [vr (some u), vr (some a), vi w, vi r, a4] [] N Q := by
  obtain ⟨w0, ⟨w1, w2, w3, w4⟩, ⟨w5, w6, w7, w8⟩, w9, w10, w11, w12⟩ := wsh h hu
  intro f
  induction f with
  | zero =>
    intro r w N a4 hr hD hw
    have er : r = R := by omega
    subst er
    have k0 : kd N u = 10 := by rw [DF_k hD]; exact w0
    have g0 : gi N u 0 = r := by rw [hD.2 _ _ (by omega)]; exact hR
    have q := hQ N hD
    rw [wgh] at hw
    rw [hw]
    rw [eX10_weigh_4]
    simp only [↓eX10_weigh_5, ↓eX10_weigh_6, ↓eX10_weigh_9, ↓eX10_weigh_81, ↓eX10_weigh_82, k0, g0, Int.le_refl, Int.cast_ofNat_Int, kd_si, gr_si, ln_si, gi_same, gi_na, gi_ni, nl_i, nl_r, nl_j, nj_i, nj_l, nj_r, true_and, and_true, and_self, cs_0, cs_1, cs_2, cs_3, cs_4, ↓reduceIte, Nat.reduceLeDiff, Nat.reduceEqDiff, Nat.reduceAdd, Int.reduceLE, Int.reduceLT, Int.reduceEq, Int.reduceAdd, Int.reduceNeg, Int.reduceToNat, Int.toNat_natCast, ne_eq, not_false_eq_true, not_true_eq_false, or_true, true_or, or_false, false_or]
    exact q
  | succ f ih =>
    intro r w N a4 hr hD hw
    have hN := DF_SH hD h
    have k0 : kd N u = 10 := by rw [DF_k hD]; exact w0
    have g0 : gi N u 0 = R := by rw [hD.2 _ _ (by omega)]; exact hR
    have r4 : gr N u 4 = some (u + 3) := by rw [DF_r hD]; exact w3
    have k3 : kd N (u + 3) = 14 := by rw [DF_k hD]; exact w7
    have l3 : ln N (u + 3) = 20 := by rw [DF_l hD]; exact w11
    have g3 : gi N (u + 3) r = mt r := by rw [hD.2 _ _ (by omega)]; exact (hRU r (by omega)).2.2.2.1
    have ga : ∀ i, gi N a i = gi M a i := fun i => hD.2 _ _ (by omega)
    have e1 : ((R : Int) ≤ (r : Int)) = False := eq_false (by omega)
    have e2 : ((20 : Int) ≤ (r : Int)) = False := eq_false (by omega)
    have e3 : (0 ≤ (r : Int)) = True := eq_true (by omega)
    have e4 : ((r : Int) < 20) = True := eq_true (by omega)
    have e5 : wr ((r : Int) + 1) = ((r + 1 : Nat) : Int) := by rw [wr_id (by omega) (by omega)]; omega
    rw [wgh] at hw
    have o2 : ∀ i, gi N (u + 2) i = gi M (u + 2) i := fun i => hD.2 _ _ (by omega)
    have im := fun (Q : mV → mM → Prop) => x_isMet (d := d) (M := N) (Q := Q) (u := u) (a := a) (R := R) (r := r) (me := me) (mt := mt) hN hu (by rw [DF_k hD]; exact ha) ha8 (by rw [ga]; exact hl) g0 hR20 (RU_f o2 (fun i => hD.2 _ _ (by omega)) (fun i _ => hD.2 _ _ (by omega)) hRU) (by omega)
    rw [enC_eq ga] at im
    rw [eX10_weigh_4]
    by_cases zc : mt r = 0 ∨ w < mt r
    · have met := im (fun v P => v ≠ vj ∧ WP (mc (d + 2)) tX10_weigh 58 [vr (some u), vr (some a), vi w, vi r, vi (if mt r = 0 then 1 else 0)] [v] P Q) (fun P dP => ⟨(fun q => by cases q), by
        have dMP := DF_trans hD dP
        have kP : kd P u = 10 := by rw [DF_k dMP]; exact w0
        have rP : gr P u 4 = some (u + 3) := by rw [DF_r dMP]; exact w3
        have k3P : kd P (u + 3) = 14 := by rw [DF_k dMP]; exact w7
        have l3P : ln P (u + 3) = 20 := by rw [DF_l dMP]; exact w11
        have g3P : gi P (u + 3) r = mt r := by rw [dMP.2 _ _ (by omega)]; exact (hRU r (by omega)).2.2.2.1
        by_cases ze : me r (enC M a) = 0
        · rw [if_neg (fun q => q.2 ze)] at hw
          simp only [↓eX10_weigh_58, ↓eX10_weigh_61, ↓eX10_weigh_63, ↓eX10_weigh_66, ↓eX10_weigh_67, ↓eX10_weigh_68, ↓eX10_weigh_69, ↓eX10_weigh_72, ↓eX10_weigh_73, ↓eX10_weigh_74, ↓eX10_weigh_75, ↓eX10_weigh_78, ze, e5, Int.cast_ofNat_Int, kd_si, gr_si, ln_si, gi_same, gi_na, gi_ni, nl_i, nl_r, nl_j, nj_i, nj_l, nj_r, true_and, and_true, and_self, cs_0, cs_1, cs_2, cs_3, cs_4, ↓reduceIte, Nat.reduceLeDiff, Nat.reduceEqDiff, Nat.reduceAdd, Int.reduceLE, Int.reduceLT, Int.reduceEq, Int.reduceAdd, Int.reduceNeg, Int.reduceToNat, Int.toNat_natCast, ne_eq, not_false_eq_true, not_true_eq_false, or_true, true_or, or_false, false_or]
          exact ih (r + 1) w P _ (by omega) dMP hw
        · rw [if_pos ⟨zc, ze⟩] at hw
          by_cases zm : mt r = 0
          · rw [if_pos zm] at hw
            have q := hQ P dMP
            rw [← hw] at q
            simp only [↓eX10_weigh_58, ↓eX10_weigh_61, ↓eX10_weigh_63, ↓eX10_weigh_66, ↓eX10_weigh_67, ↓eX10_weigh_68, ↓eX10_weigh_69, ↓eX10_weigh_72, ↓eX10_weigh_73, ↓eX10_weigh_74, ↓eX10_weigh_75, ↓eX10_weigh_78, ze, zm, Int.cast_ofNat_Int, kd_si, gr_si, ln_si, gi_same, gi_na, gi_ni, nl_i, nl_r, nl_j, nj_i, nj_l, nj_r, true_and, and_true, and_self, cs_0, cs_1, cs_2, cs_3, cs_4, ↓reduceIte, Nat.reduceLeDiff, Nat.reduceEqDiff, Nat.reduceAdd, Int.reduceLE, Int.reduceLT, Int.reduceEq, Int.reduceAdd, Int.reduceNeg, Int.reduceToNat, Int.toNat_natCast, ne_eq, not_false_eq_true, not_true_eq_false, or_true, true_or, or_false, false_or]
            exact q
          · rw [if_neg zm] at hw
            simp only [↓eX10_weigh_58, ↓eX10_weigh_61, ↓eX10_weigh_63, ↓eX10_weigh_66, ↓eX10_weigh_67, ↓eX10_weigh_68, ↓eX10_weigh_69, ↓eX10_weigh_72, ↓eX10_weigh_73, ↓eX10_weigh_74, ↓eX10_weigh_75, ↓eX10_weigh_78, ze, zm, kP, rP, k3P, l3P, g3P, e3, e4, e5, Int.cast_ofNat_Int, kd_si, gr_si, ln_si, gi_same, gi_na, gi_ni, nl_i, nl_r, nl_j, nj_i, nj_l, nj_r, true_and, and_true, and_self, cs_0, cs_1, cs_2, cs_3, cs_4, ↓reduceIte, Nat.reduceLeDiff, Nat.reduceEqDiff, Nat.reduceAdd, Int.reduceLE, Int.reduceLT, Int.reduceEq, Int.reduceAdd, Int.reduceNeg, Int.reduceToNat, Int.toNat_natCast, ne_eq, not_false_eq_true, not_true_eq_false, or_true, true_or, or_false, false_or]
            exact ih (r + 1) (mt r) P _ (by omega) dMP hw⟩)
      by_cases zm : mt r = 0
      · rw [if_pos zm] at met
        simp only [↓eX10_weigh_5, ↓eX10_weigh_6, ↓eX10_weigh_9, ↓eX10_weigh_12, ↓eX10_weigh_13, ↓eX10_weigh_14, ↓eX10_weigh_17, ↓eX10_weigh_18, ↓eX10_weigh_21, ↓eX10_weigh_22, ↓eX10_weigh_25, ↓eX10_weigh_26, ↓eX10_weigh_27, ↓eX10_weigh_30, ↓eX10_weigh_31, ↓eX10_weigh_34, ↓eX10_weigh_35, ↓eX10_weigh_37, ↓eX10_weigh_39, ↓eX10_weigh_42, ↓eX10_weigh_43, ↓eX10_weigh_46, ↓eX10_weigh_47, ↓eX10_weigh_48, ↓eX10_weigh_49, ↓eX10_weigh_52, ↓eX10_weigh_53, ↓eX10_weigh_54, ↓eX10_weigh_55, k0, g0, r4, k3, l3, g3, e1, e2, e3, e4, zm, Int.cast_ofNat_Int, kd_si, gr_si, ln_si, gi_same, gi_na, gi_ni, nl_i, nl_r, nl_j, nj_i, nj_l, nj_r, true_and, and_true, and_self, cs_0, cs_1, cs_2, cs_3, cs_4, ↓reduceIte, Nat.reduceLeDiff, Nat.reduceEqDiff, Nat.reduceAdd, Int.reduceLE, Int.reduceLT, Int.reduceEq, Int.reduceAdd, Int.reduceNeg, Int.reduceToNat, Int.toNat_natCast, ne_eq, not_false_eq_true, not_true_eq_false, or_true, true_or, or_false, false_or]
        exact met
      · rw [if_neg zm] at met
        have z2 : (mt r ≤ w) = False := eq_false (by omega)
        simp only [↓eX10_weigh_5, ↓eX10_weigh_6, ↓eX10_weigh_9, ↓eX10_weigh_12, ↓eX10_weigh_13, ↓eX10_weigh_14, ↓eX10_weigh_17, ↓eX10_weigh_18, ↓eX10_weigh_21, ↓eX10_weigh_22, ↓eX10_weigh_25, ↓eX10_weigh_26, ↓eX10_weigh_27, ↓eX10_weigh_30, ↓eX10_weigh_31, ↓eX10_weigh_34, ↓eX10_weigh_35, ↓eX10_weigh_37, ↓eX10_weigh_39, ↓eX10_weigh_42, ↓eX10_weigh_43, ↓eX10_weigh_46, ↓eX10_weigh_47, ↓eX10_weigh_48, ↓eX10_weigh_49, ↓eX10_weigh_52, ↓eX10_weigh_53, ↓eX10_weigh_54, ↓eX10_weigh_55, k0, g0, r4, k3, l3, g3, e1, e2, e3, e4, zm, z2, Int.cast_ofNat_Int, kd_si, gr_si, ln_si, gi_same, gi_na, gi_ni, nl_i, nl_r, nl_j, nj_i, nj_l, nj_r, true_and, and_true, and_self, cs_0, cs_1, cs_2, cs_3, cs_4, ↓reduceIte, Nat.reduceLeDiff, Nat.reduceEqDiff, Nat.reduceAdd, Int.reduceLE, Int.reduceLT, Int.reduceEq, Int.reduceAdd, Int.reduceNeg, Int.reduceToNat, Int.toNat_natCast, ne_eq, not_false_eq_true, not_true_eq_false, or_true, true_or, or_false, false_or]
        exact met
    · have zm : ¬ mt r = 0 := fun q => zc (Or.inl q)
      have z2 : (mt r ≤ w) = True := eq_true (by omega)
      rw [if_neg (fun q => zc q.1)] at hw
      simp only [↓eX10_weigh_5, ↓eX10_weigh_6, ↓eX10_weigh_9, ↓eX10_weigh_12, ↓eX10_weigh_13, ↓eX10_weigh_14, ↓eX10_weigh_17, ↓eX10_weigh_18, ↓eX10_weigh_21, ↓eX10_weigh_22, ↓eX10_weigh_25, ↓eX10_weigh_26, ↓eX10_weigh_27, ↓eX10_weigh_30, ↓eX10_weigh_31, ↓eX10_weigh_34, ↓eX10_weigh_35, ↓eX10_weigh_37, ↓eX10_weigh_39, ↓eX10_weigh_42, ↓eX10_weigh_43, ↓eX10_weigh_46, ↓eX10_weigh_47, ↓eX10_weigh_48, ↓eX10_weigh_49, ↓eX10_weigh_52, ↓eX10_weigh_53, ↓eX10_weigh_54, ↓eX10_weigh_55, ↓eX10_weigh_58, ↓eX10_weigh_61, ↓eX10_weigh_63, ↓eX10_weigh_66, ↓eX10_weigh_67, ↓eX10_weigh_68, ↓eX10_weigh_69, ↓eX10_weigh_72, ↓eX10_weigh_73, ↓eX10_weigh_74, ↓eX10_weigh_75, ↓eX10_weigh_78, k0, g0, r4, k3, l3, g3, e1, e2, e3, e4, e5, zm, z2, Int.cast_ofNat_Int, kd_si, gr_si, ln_si, gi_same, gi_na, gi_ni, nl_i, nl_r, nl_j, nj_i, nj_l, nj_r, true_and, and_true, and_self, cs_0, cs_1, cs_2, cs_3, cs_4, ↓reduceIte, Nat.reduceLeDiff, Nat.reduceEqDiff, Nat.reduceAdd, Int.reduceLE, Int.reduceLT, Int.reduceEq, Int.reduceAdd, Int.reduceNeg, Int.reduceToNat, Int.toNat_natCast, ne_eq, not_false_eq_true, not_true_eq_false, or_true, true_or, or_false, false_or]
      exact ih (r + 1) w N _ (by omega) hD hw
theorem x_weigh {d : Nat} {M : mM} {Q : mV → mM → Prop} {u a R : Nat} {me : Nat → Env → Int} {mt : Nat → Int} (h : SH M) (hu : u = 21 ∨ u = 26) (ha : kd M a = 6) (ha8 : 88 ≤ a) (hl : gi M a 8 = 0 ∨ gi M a 8 = 1) (hR : gi M u 0 = R) (hR20 : R ≤ 20) (hRU : RU u M R me mt)
    (hQ : ∀ N, DF (fun b => b = u + 4) M N → Q (vi (wgh me mt (enC M a) R 0 0)) N) : CP (mc (d + 3)) 97 [vr (some u), vr (some a)] M Q := by
  simp only [↓cpX10_weigh, ↓eX10_weigh_0, ↓eX10_weigh_1, ↓eX10_weigh_2, ↓eX10_weigh_3, Int.cast_ofNat_Int, kd_si, gr_si, ln_si, gi_same, gi_na, gi_ni, nl_i, nl_r, nl_j, nj_i, nj_l, nj_r, true_and, and_true, and_self, cs_0, cs_1, cs_2, cs_3, cs_4, ↓reduceIte, Nat.reduceLeDiff, Nat.reduceEqDiff, Nat.reduceAdd, Int.reduceLE, Int.reduceLT, Int.reduceEq, Int.reduceAdd, Int.reduceNeg, Int.reduceToNat, Int.toNat_natCast, ne_eq, not_false_eq_true, not_true_eq_false, or_true, true_or, or_false, false_or]
  exact x_wgh_loop h hu ha ha8 hl hR hR20 hRU hQ R 0 0 M vj (by omega) DF_refl rfl
