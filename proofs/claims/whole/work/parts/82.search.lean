/-! ===== the class's search ===== -/
/-- the fields that the search changes -/
def scS (a i : Nat) : Prop := a = 20 ∧ 5 ≤ i ∧ i ≤ 12
theorem x_span {d : Nat} {M : mM} {Q : mV → mM → Prop} {a : Nat} (h : kd M a = 0) : CP (mc (d + 1)) 2 [vr (some a)] M Q = Q (vi (wr (gi M a 8 - gi M a 7))) M := by
  simp only [↓cpX0_span, ↓eX0_span_0, ↓eX0_span_1, ↓eX0_span_4, ↓eX0_span_5, ↓eX0_span_8, ↓eX0_span_9, h, Int.cast_ofNat_Int, kd_si, gr_si, ln_si, gi_same, gi_na, gi_ni, nl_i, nl_r, nl_j, nj_i, nj_l, nj_r, true_and, and_true, and_self, cs_0, cs_1, cs_2, cs_3, cs_4, ↓reduceIte, Nat.reduceLeDiff, Nat.reduceEqDiff, Nat.reduceAdd, Int.reduceLE, Int.reduceLT, Int.reduceEq, Int.reduceAdd, Int.reduceNeg, Int.reduceToNat, Int.toNat_natCast, ne_eq, not_false_eq_true, not_true_eq_false, or_true, true_or, or_false, false_or]
abbrev btr (u w s bu bw bs : Int) : Prop := bu < u ∨ (u = bu ∧ (bw < w ∨ (w = bw ∧ s < bs)))
theorem btr_tree {α : Type} {u w s bu bw bs : Int} {A B : α} : (if u = bu then (if w = bw then (if bs ≤ s then B else A) else if w ≤ bw then B else A) else if u ≤ bu then B else A) = if btr u w s bu bw bs then A else B := by
  by_cases z1 : u = bu
  · rw [if_pos z1]
    by_cases z2 : w = bw
    · rw [if_pos z2]
      by_cases z3 : bs ≤ s
      · rw [if_pos z3, if_neg (by omega)]
      · rw [if_neg z3, if_pos (by omega)]
    · rw [if_neg z2]
      by_cases z3 : w ≤ bw
      · rw [if_pos z3, if_neg (by omega)]
      · rw [if_neg z3, if_pos (by omega)]
  · rw [if_neg z1]
    by_cases z3 : u ≤ bu
    · rw [if_pos z3, if_neg (by omega)]
    · rw [if_neg z3, if_pos (by omega)]
theorem x_canBeat0 {d : Nat} {N : mM} {Q : mV → mM → Prop} (h : kd N 20 = 5) : CP (mc (d + 1)) 51 [vr (some 20), vr none] N Q = if btr (wr (gi N 20 6 + 0)) (wr (gi N 20 7 + 0)) (gi N 20 8) (gi N 20 10) (gi N 20 11) (gi N 20 12) then Q (vi 1) N else Q (vi 0) N := by
  rw [← btr_tree]
  simp only [↓cpX5_canBeatBest, ↓eX5_canBeatBest_0, ↓eX5_canBeatBest_1, ↓eX5_canBeatBest_4, ↓eX5_canBeatBest_5, ↓eX5_canBeatBest_8, ↓eX5_canBeatBest_9, ↓eX5_canBeatBest_12, ↓eX5_canBeatBest_13, ↓eX5_canBeatBest_16, ↓eX5_canBeatBest_17, ↓eX5_canBeatBest_18, ↓eX5_canBeatBest_19, ↓eX5_canBeatBest_20, ↓eX5_canBeatBest_23, ↓eX5_canBeatBest_26, ↓eX5_canBeatBest_27, ↓eX5_canBeatBest_28, ↓eX5_canBeatBest_31, ↓eX5_canBeatBest_34, ↓eX5_canBeatBest_35, ↓eX5_canBeatBest_38, ↓eX5_canBeatBest_39, ↓eX5_canBeatBest_40, ↓eX5_canBeatBest_41, ↓eX5_canBeatBest_44, ↓eX5_canBeatBest_45, ↓eX5_canBeatBest_48, ↓eX5_canBeatBest_49, ↓eX5_canBeatBest_52, ↓eX5_canBeatBest_53, ↓eX5_canBeatBest_56, ↓eX5_canBeatBest_57, ↓eX5_canBeatBest_58, ↓eX5_canBeatBest_59, ↓eX5_canBeatBest_60, ↓eX5_canBeatBest_63, ↓eX5_canBeatBest_66, ↓eX5_canBeatBest_67, ↓eX5_canBeatBest_68, ↓eX5_canBeatBest_71, ↓eX5_canBeatBest_74, ↓eX5_canBeatBest_75, ↓eX5_canBeatBest_78, ↓eX5_canBeatBest_79, ↓eX5_canBeatBest_80, ↓eX5_canBeatBest_81, ↓eX5_canBeatBest_84, ↓eX5_canBeatBest_85, ↓eX5_canBeatBest_88, ↓eX5_canBeatBest_91, ↓eX5_canBeatBest_92, ↓eX5_canBeatBest_95, ↓eX5_canBeatBest_96, h, Int.cast_ofNat_Int, kd_si, gr_si, ln_si, gi_same, gi_na, gi_ni, nl_i, nl_r, nl_j, nj_i, nj_l, nj_r, true_and, and_true, and_self, cs_0, cs_1, cs_2, cs_3, cs_4, ↓reduceIte, Nat.reduceLeDiff, Nat.reduceEqDiff, Nat.reduceAdd, Int.reduceLE, Int.reduceLT, Int.reduceEq, Int.reduceAdd, Int.reduceNeg, Int.reduceToNat, Int.toNat_natCast, ne_eq, not_false_eq_true, not_true_eq_false, or_true, true_or, or_false, false_or]
theorem x_canBeat1 {d : Nat} {N : mM} {Q : mV → mM → Prop} {x : Nat} (h : kd N 20 = 5) (hx : kd N x = 0) : CP (mc (d + 1)) 51 [vr (some 20), vr (some x)] N Q = if btr (wr (gi N 20 6 + gi N x 16)) (wr (gi N 20 7 + gi N x 17)) (gi N 20 8) (gi N 20 10) (gi N 20 11) (gi N 20 12) then Q (vi 1) N else Q (vi 0) N := by
  rw [← btr_tree]
  simp only [↓cpX5_canBeatBest, ↓eX5_canBeatBest_0, ↓eX5_canBeatBest_1, ↓eX5_canBeatBest_4, ↓eX5_canBeatBest_5, ↓eX5_canBeatBest_8, ↓eX5_canBeatBest_9, ↓eX5_canBeatBest_12, ↓eX5_canBeatBest_13, ↓eX5_canBeatBest_16, ↓eX5_canBeatBest_17, ↓eX5_canBeatBest_18, ↓eX5_canBeatBest_19, ↓eX5_canBeatBest_20, ↓eX5_canBeatBest_23, ↓eX5_canBeatBest_26, ↓eX5_canBeatBest_27, ↓eX5_canBeatBest_28, ↓eX5_canBeatBest_31, ↓eX5_canBeatBest_34, ↓eX5_canBeatBest_35, ↓eX5_canBeatBest_38, ↓eX5_canBeatBest_39, ↓eX5_canBeatBest_40, ↓eX5_canBeatBest_41, ↓eX5_canBeatBest_44, ↓eX5_canBeatBest_45, ↓eX5_canBeatBest_48, ↓eX5_canBeatBest_49, ↓eX5_canBeatBest_52, ↓eX5_canBeatBest_53, ↓eX5_canBeatBest_56, ↓eX5_canBeatBest_57, ↓eX5_canBeatBest_58, ↓eX5_canBeatBest_59, ↓eX5_canBeatBest_60, ↓eX5_canBeatBest_63, ↓eX5_canBeatBest_66, ↓eX5_canBeatBest_67, ↓eX5_canBeatBest_68, ↓eX5_canBeatBest_71, ↓eX5_canBeatBest_74, ↓eX5_canBeatBest_75, ↓eX5_canBeatBest_78, ↓eX5_canBeatBest_79, ↓eX5_canBeatBest_80, ↓eX5_canBeatBest_81, ↓eX5_canBeatBest_84, ↓eX5_canBeatBest_85, ↓eX5_canBeatBest_88, ↓eX5_canBeatBest_91, ↓eX5_canBeatBest_92, ↓eX5_canBeatBest_95, ↓eX5_canBeatBest_96, h, hx, reduceCtorEq, Int.cast_ofNat_Int, kd_si, gr_si, ln_si, gi_same, gi_na, gi_ni, nl_i, nl_r, nl_j, nj_i, nj_l, nj_r, true_and, and_true, and_self, cs_0, cs_1, cs_2, cs_3, cs_4, ↓reduceIte, Nat.reduceLeDiff, Nat.reduceEqDiff, Nat.reduceAdd, Int.reduceLE, Int.reduceLT, Int.reduceEq, Int.reduceAdd, Int.reduceNeg, Int.reduceToNat, Int.toNat_natCast, ne_eq, not_false_eq_true, not_true_eq_false, or_true, true_or, or_false, false_or]
def kbM (N : mM) : mM := si (si (si (si N 20 9 (gi N 20 5)) 20 10 (gi N 20 6)) 20 11 (gi N 20 7)) 20 12 (gi N 20 8)
theorem x_keep {d : Nat} {N : mM} {Q : mV → mM → Prop} (h : kd N 20 = 5) : CP (mc (d + 1)) 52 [vr (some 20)] N Q = Q vj (kbM N) := by
  have e1 : gi (si N 20 9 (gi N 20 5)) 20 6 = gi N 20 6 := gi_ni (by decide)
  have e2 : gi (si (si N 20 9 (gi N 20 5)) 20 10 (gi N 20 6)) 20 7 = gi N 20 7 := by rw [gi_ni (by decide), gi_ni (by decide)]
  have e3 : gi (si (si (si N 20 9 (gi N 20 5)) 20 10 (gi N 20 6)) 20 11 (gi N 20 7)) 20 8 = gi N 20 8 := by rw [gi_ni (by decide), gi_ni (by decide), gi_ni (by decide)]
  simp only [↓cpX5_keepAsBest, ↓eX5_keepAsBest_0, ↓eX5_keepAsBest_1, ↓eX5_keepAsBest_2, ↓eX5_keepAsBest_5, ↓eX5_keepAsBest_8, ↓eX5_keepAsBest_9, ↓eX5_keepAsBest_10, ↓eX5_keepAsBest_13, ↓eX5_keepAsBest_16, ↓eX5_keepAsBest_17, ↓eX5_keepAsBest_18, ↓eX5_keepAsBest_21, ↓eX5_keepAsBest_24, ↓eX5_keepAsBest_25, ↓eX5_keepAsBest_26, ↓eX5_keepAsBest_29, ↓eX5_keepAsBest_32, h, e1, e2, e3, kd_si, nl_i, nl_r, true_and]
  rfl
theorem x_canAdd {d : Nat} {N : mM} {Q : mV → mM → Prop} {x c eo eb : Nat} {m : Bool} (h : kd N 20 = 5) (hx : kd N x = 0) (hc : gi N 20 5 = c) (hc4 : c < 16384) (hm : gi N x 10 = bi m) (ho : gi N x 14 = eo) (hb : gi N x 15 = eb) (w : Int) (hw : wr (gi N x 8 - gi N x 7) = w) (v : Int) (hv : wr (gi N 20 8 + w) = v) : CP (mc (d + 2)) 53 [vr (some 20), vr (some x)] N Q = if m = true ∧ c &&& eb = 0 ∧ sm (fun _ => 1) (c &&& eo) 14 < gi N 20 0 ∧ v ≤ gi N 20 3 then Q (vi 1) N else Q (vi 0) N := by
  have fs := fun (Q : mV → mM → Prop) => x_span (d := d) (M := N) (Q := Q) (a := x) hx
  have l1 : c &&& eo < 16384 := Nat.lt_of_le_of_lt Nat.and_le_left hc4
  have fb := fun (Q : mV → mM → Prop) => z_bitCount (d := d) (M := N) (Q := Q) l1
  have a1 := i_and (a := c) (b := eb) hc4
  have a2 := i_and (a := c) (b := eo) hc4
  have z0 : (((c &&& eb : Nat) : Int) = 0) = (c &&& eb = 0) := by apply propext; omega
  rw [hw] at fs
  cases m with
  | false =>
    have hm' : gi N x 10 = 0 := hm
    rw [if_neg (fun q => absurd q.1 (by decide))]
    simp only [↓cpX5_canAdd, ↓eX5_canAdd_0, ↓eX5_canAdd_1, ↓eX5_canAdd_4, ↓eX5_canAdd_7, ↓eX5_canAdd_8, ↓eX5_canAdd_11, ↓eX5_canAdd_12, ↓eX5_canAdd_15, ↓eX5_canAdd_16, ↓eX5_canAdd_19, ↓eX5_canAdd_20, ↓eX5_canAdd_23, ↓eX5_canAdd_24, ↓eX5_canAdd_27, ↓eX5_canAdd_28, ↓eX5_canAdd_31, ↓eX5_canAdd_32, ↓eX5_canAdd_35, ↓eX5_canAdd_38, ↓eX5_canAdd_39, ↓eX5_canAdd_42, ↓eX5_canAdd_43, ↓eX5_canAdd_46, ↓eX5_canAdd_47, ↓eX5_canAdd_48, ↓eX5_canAdd_51, ↓eX5_canAdd_54, ↓eX5_canAdd_55, ↓eX5_canAdd_58, ↓eX5_canAdd_59, h, hx, hm', Int.cast_ofNat_Int, kd_si, gr_si, ln_si, gi_same, gi_na, gi_ni, nl_i, nl_r, nl_j, nj_i, nj_l, nj_r, true_and, and_true, and_self, cs_0, cs_1, cs_2, cs_3, cs_4, ↓reduceIte, Nat.reduceLeDiff, Nat.reduceEqDiff, Nat.reduceAdd, Int.reduceLE, Int.reduceLT, Int.reduceEq, Int.reduceAdd, Int.reduceNeg, Int.reduceToNat, Int.toNat_natCast, ne_eq, not_false_eq_true, not_true_eq_false, or_true, true_or, or_false, false_or]
  | true =>
    have hm' : gi N x 10 = 1 := hm
    by_cases q1 : c &&& eb = 0
    · by_cases q2 : gi N 20 0 ≤ sm (fun _ => 1) (c &&& eo) 14
      · rw [if_neg (fun q => by omega)]
        simp only [↓cpX5_canAdd, ↓eX5_canAdd_0, ↓eX5_canAdd_1, ↓eX5_canAdd_4, ↓eX5_canAdd_7, ↓eX5_canAdd_8, ↓eX5_canAdd_11, ↓eX5_canAdd_12, ↓eX5_canAdd_15, ↓eX5_canAdd_16, ↓eX5_canAdd_19, ↓eX5_canAdd_20, ↓eX5_canAdd_23, ↓eX5_canAdd_24, ↓eX5_canAdd_27, ↓eX5_canAdd_28, ↓eX5_canAdd_31, ↓eX5_canAdd_32, ↓eX5_canAdd_35, ↓eX5_canAdd_38, ↓eX5_canAdd_39, ↓eX5_canAdd_42, ↓eX5_canAdd_43, ↓eX5_canAdd_46, ↓eX5_canAdd_47, ↓eX5_canAdd_48, ↓eX5_canAdd_51, ↓eX5_canAdd_54, ↓eX5_canAdd_55, ↓eX5_canAdd_58, ↓eX5_canAdd_59, h, hx, hm', hc, ho, hb, a1, a2, z0, q1, q2, ↓fb, Int.cast_ofNat_Int, kd_si, gr_si, ln_si, gi_same, gi_na, gi_ni, nl_i, nl_r, nl_j, nj_i, nj_l, nj_r, true_and, and_true, and_self, cs_0, cs_1, cs_2, cs_3, cs_4, ↓reduceIte, Nat.reduceLeDiff, Nat.reduceEqDiff, Nat.reduceAdd, Int.reduceLE, Int.reduceLT, Int.reduceEq, Int.reduceAdd, Int.reduceNeg, Int.reduceToNat, Int.toNat_natCast, ne_eq, not_false_eq_true, not_true_eq_false, or_true, true_or, or_false, false_or]
      · by_cases q3 : gi N 20 3 < v
        · rw [if_neg (fun q => by omega)]
          simp only [↓cpX5_canAdd, ↓eX5_canAdd_0, ↓eX5_canAdd_1, ↓eX5_canAdd_4, ↓eX5_canAdd_7, ↓eX5_canAdd_8, ↓eX5_canAdd_11, ↓eX5_canAdd_12, ↓eX5_canAdd_15, ↓eX5_canAdd_16, ↓eX5_canAdd_19, ↓eX5_canAdd_20, ↓eX5_canAdd_23, ↓eX5_canAdd_24, ↓eX5_canAdd_27, ↓eX5_canAdd_28, ↓eX5_canAdd_31, ↓eX5_canAdd_32, ↓eX5_canAdd_35, ↓eX5_canAdd_38, ↓eX5_canAdd_39, ↓eX5_canAdd_42, ↓eX5_canAdd_43, ↓eX5_canAdd_46, ↓eX5_canAdd_47, ↓eX5_canAdd_48, ↓eX5_canAdd_51, ↓eX5_canAdd_54, ↓eX5_canAdd_55, ↓eX5_canAdd_58, ↓eX5_canAdd_59, h, hx, hm', hc, ho, hb, a1, a2, z0, q1, q2, q3, ↓fb, ↓fs, hv, Int.cast_ofNat_Int, kd_si, gr_si, ln_si, gi_same, gi_na, gi_ni, nl_i, nl_r, nl_j, nj_i, nj_l, nj_r, true_and, and_true, and_self, cs_0, cs_1, cs_2, cs_3, cs_4, ↓reduceIte, Nat.reduceLeDiff, Nat.reduceEqDiff, Nat.reduceAdd, Int.reduceLE, Int.reduceLT, Int.reduceEq, Int.reduceAdd, Int.reduceNeg, Int.reduceToNat, Int.toNat_natCast, ne_eq, not_false_eq_true, not_true_eq_false, or_true, true_or, or_false, false_or]
        · rw [if_pos ⟨rfl, q1, by omega, by omega⟩]
          simp only [↓cpX5_canAdd, ↓eX5_canAdd_0, ↓eX5_canAdd_1, ↓eX5_canAdd_4, ↓eX5_canAdd_7, ↓eX5_canAdd_8, ↓eX5_canAdd_11, ↓eX5_canAdd_12, ↓eX5_canAdd_15, ↓eX5_canAdd_16, ↓eX5_canAdd_19, ↓eX5_canAdd_20, ↓eX5_canAdd_23, ↓eX5_canAdd_24, ↓eX5_canAdd_27, ↓eX5_canAdd_28, ↓eX5_canAdd_31, ↓eX5_canAdd_32, ↓eX5_canAdd_35, ↓eX5_canAdd_38, ↓eX5_canAdd_39, ↓eX5_canAdd_42, ↓eX5_canAdd_43, ↓eX5_canAdd_46, ↓eX5_canAdd_47, ↓eX5_canAdd_48, ↓eX5_canAdd_51, ↓eX5_canAdd_54, ↓eX5_canAdd_55, ↓eX5_canAdd_58, ↓eX5_canAdd_59, h, hx, hm', hc, ho, hb, a1, a2, z0, q1, q2, q3, ↓fb, ↓fs, hv, Int.cast_ofNat_Int, kd_si, gr_si, ln_si, gi_same, gi_na, gi_ni, nl_i, nl_r, nl_j, nj_i, nj_l, nj_r, true_and, and_true, and_self, cs_0, cs_1, cs_2, cs_3, cs_4, ↓reduceIte, Nat.reduceLeDiff, Nat.reduceEqDiff, Nat.reduceAdd, Int.reduceLE, Int.reduceLT, Int.reduceEq, Int.reduceAdd, Int.reduceNeg, Int.reduceToNat, Int.toNat_natCast, ne_eq, not_false_eq_true, not_true_eq_false, or_true, true_or, or_false, false_or]
    · rw [if_neg (fun q => q1 q.2.1)]
      simp only [↓cpX5_canAdd, ↓eX5_canAdd_0, ↓eX5_canAdd_1, ↓eX5_canAdd_4, ↓eX5_canAdd_7, ↓eX5_canAdd_8, ↓eX5_canAdd_11, ↓eX5_canAdd_12, ↓eX5_canAdd_15, ↓eX5_canAdd_16, ↓eX5_canAdd_19, ↓eX5_canAdd_20, ↓eX5_canAdd_23, ↓eX5_canAdd_24, ↓eX5_canAdd_27, ↓eX5_canAdd_28, ↓eX5_canAdd_31, ↓eX5_canAdd_32, ↓eX5_canAdd_35, ↓eX5_canAdd_38, ↓eX5_canAdd_39, ↓eX5_canAdd_42, ↓eX5_canAdd_43, ↓eX5_canAdd_46, ↓eX5_canAdd_47, ↓eX5_canAdd_48, ↓eX5_canAdd_51, ↓eX5_canAdd_54, ↓eX5_canAdd_55, ↓eX5_canAdd_58, ↓eX5_canAdd_59, h, hx, hm', hc, ho, hb, a1, a2, z0, q1, Int.cast_ofNat_Int, kd_si, gr_si, ln_si, gi_same, gi_na, gi_ni, nl_i, nl_r, nl_j, nj_i, nj_l, nj_r, true_and, and_true, and_self, cs_0, cs_1, cs_2, cs_3, cs_4, ↓reduceIte, Nat.reduceLeDiff, Nat.reduceEqDiff, Nat.reduceAdd, Int.reduceLE, Int.reduceLT, Int.reduceEq, Int.reduceAdd, Int.reduceNeg, Int.reduceToNat, Int.toNat_natCast, ne_eq, not_false_eq_true, not_true_eq_false, or_true, true_or, or_false, false_or]
def adM (N : mM) (c u w s : Int) : mM := si (si (si (si N 20 5 c) 20 6 u) 20 7 w) 20 8 s
theorem x_addOrDrop {d : Nat} {N : mM} {Q : mV → mM → Prop} {x c i : Nat} {sg : Int} (h : kd N 20 = 5) (hx : kd N x = 0) (hx8 : 88 ≤ x) (hc : gi N 20 5 = c) (hc4 : c < 16384) (hi : i < 14) (hw : gi N x 9 = 0 ∨ gi N x 9 = 1) : CP (mc (d + 2)) 54 [vr (some 20), vr (some x), vi i, vi sg] N Q = Q vj (adM N ((c ^^^ 2 ^ i : Nat) : Int) (wr (gi N 20 6 + (if gi N x 9 = 0 then 0 else sg))) (wr (gi N 20 7 + wr (sg * gi N x 6))) (wr (gi N 20 8 + wr (sg * wr (gi N x 8 - gi N x 7))))) := by
  have fs := fun (Q : mV → mM → Prop) (M : mM) (hM : kd M x = 0) => x_span (d := d) (M := M) (Q := Q) (a := x) hM
  have nx : x ≠ 20 := by omega
  have p14 : 2 ^ i < 16384 := Nat.pow_lt_pow_right (a := 2) (n := 14) (by decide) hi
  have a1 := i_xor (a := c) (b := 2 ^ i) hc4 p14
  have a2 := i_shl (i := i) (by omega)
  have e1 : ∀ (P : mM) (j k : Nat) (z : Int), gi (si P 20 k z) x j = gi P x j := fun P j k z => gi_na nx
  have e2 : ∀ (P : mM) (z : Int), gi (si P 20 5 z) 20 6 = gi P 20 6 := fun P z => gi_ni (by decide)
  have e3 : ∀ (P : mM) (z : Int), gi (si P 20 5 z) 20 7 = gi P 20 7 := fun P z => gi_ni (by decide)
  have e4 : ∀ (P : mM) (z : Int), gi (si P 20 6 z) 20 7 = gi P 20 7 := fun P z => gi_ni (by decide)
  have e5 : ∀ (P : mM) (z : Int), gi (si P 20 5 z) 20 8 = gi P 20 8 := fun P z => gi_ni (by decide)
  have e6 : ∀ (P : mM) (z : Int), gi (si P 20 6 z) 20 8 = gi P 20 8 := fun P z => gi_ni (by decide)
  have e7 : ∀ (P : mM) (z : Int), gi (si P 20 7 z) 20 8 = gi P 20 8 := fun P z => gi_ni (by decide)
  rcases hw with hw | hw
  · have fs' : ∀ (Q : mV → mM → Prop) (c u w : Int), CP (mc (d + 1)) 2 [vr (some x)] (si (si (si N 20 5 c) 20 6 u) 20 7 w) Q = Q (vi (wr (gi N x 8 - gi N x 7))) (si (si (si N 20 5 c) 20 6 u) 20 7 w) := fun Q c u w => by
      rw [fs _ _ (by rw [kd_si, kd_si, kd_si]; exact hx), e1, e1, e1, e1, e1, e1]
    simp only [↓cpX5_addOrDrop, ↓eX5_addOrDrop_0, ↓eX5_addOrDrop_1, ↓eX5_addOrDrop_2, ↓eX5_addOrDrop_5, ↓eX5_addOrDrop_6, ↓eX5_addOrDrop_7, ↓eX5_addOrDrop_8, ↓eX5_addOrDrop_9, ↓eX5_addOrDrop_12, ↓eX5_addOrDrop_13, ↓eX5_addOrDrop_14, ↓eX5_addOrDrop_17, ↓eX5_addOrDrop_18, ↓eX5_addOrDrop_21, ↓eX5_addOrDrop_24, ↓eX5_addOrDrop_25, ↓eX5_addOrDrop_28, ↓eX5_addOrDrop_29, ↓eX5_addOrDrop_30, ↓eX5_addOrDrop_33, ↓eX5_addOrDrop_34, ↓eX5_addOrDrop_35, ↓eX5_addOrDrop_38, ↓eX5_addOrDrop_39, ↓eX5_addOrDrop_40, ↓eX5_addOrDrop_43, ↓eX5_addOrDrop_44, ↓eX5_addOrDrop_45, ↓eX5_addOrDrop_48, ↓eX5_addOrDrop_49, ↓eX5_addOrDrop_50, ↓eX5_addOrDrop_53, ↓eX5_addOrDrop_54, ↓eX5_addOrDrop_55, ↓eX5_addOrDrop_58, ↓eX5_addOrDrop_59, ↓eX5_addOrDrop_60, ↓eX5_addOrDrop_63, h, hx, hc, hw, a1, a2, e1, e2, e3, e4, e5, e6, e7, ↓fs', kd_si, Int.cast_ofNat_Int, nl_i, nl_r, nl_j, nj_i, cs_0, cs_1, cs_2, cs_3, cs_4, true_and, and_true, ↓reduceIte, ne_eq, not_false_eq_true]
    rfl
  · have fs' : ∀ (Q : mV → mM → Prop) (c u w : Int), CP (mc (d + 1)) 2 [vr (some x)] (si (si (si N 20 5 c) 20 6 u) 20 7 w) Q = Q (vi (wr (gi N x 8 - gi N x 7))) (si (si (si N 20 5 c) 20 6 u) 20 7 w) := fun Q c u w => by
      rw [fs _ _ (by rw [kd_si, kd_si, kd_si]; exact hx), e1, e1, e1, e1, e1, e1]
    have w1 : ((1 : Int) = 0) = False := eq_false (by decide)
    simp only [↓cpX5_addOrDrop, ↓eX5_addOrDrop_0, ↓eX5_addOrDrop_1, ↓eX5_addOrDrop_2, ↓eX5_addOrDrop_5, ↓eX5_addOrDrop_6, ↓eX5_addOrDrop_7, ↓eX5_addOrDrop_8, ↓eX5_addOrDrop_9, ↓eX5_addOrDrop_12, ↓eX5_addOrDrop_13, ↓eX5_addOrDrop_14, ↓eX5_addOrDrop_17, ↓eX5_addOrDrop_18, ↓eX5_addOrDrop_21, ↓eX5_addOrDrop_24, ↓eX5_addOrDrop_25, ↓eX5_addOrDrop_28, ↓eX5_addOrDrop_29, ↓eX5_addOrDrop_30, ↓eX5_addOrDrop_33, ↓eX5_addOrDrop_34, ↓eX5_addOrDrop_35, ↓eX5_addOrDrop_38, ↓eX5_addOrDrop_39, ↓eX5_addOrDrop_40, ↓eX5_addOrDrop_43, ↓eX5_addOrDrop_44, ↓eX5_addOrDrop_45, ↓eX5_addOrDrop_48, ↓eX5_addOrDrop_49, ↓eX5_addOrDrop_50, ↓eX5_addOrDrop_53, ↓eX5_addOrDrop_54, ↓eX5_addOrDrop_55, ↓eX5_addOrDrop_58, ↓eX5_addOrDrop_59, ↓eX5_addOrDrop_60, ↓eX5_addOrDrop_63, h, hx, hc, hw, w1, a1, a2, e1, e2, e3, e4, e5, e6, e7, ↓fs', kd_si, Int.cast_ofNat_Int, nl_i, nl_r, nl_j, nj_i, cs_0, cs_1, cs_2, cs_3, cs_4, true_and, and_true, ↓reduceIte, ne_eq, not_false_eq_true]
    rfl
theorem x_pat {d n p : Nat} {N : mM} {Q : mV → mM → Prop} {k : Int} (hp : kd N p = 4) (hr : gr N p 5 = some (p + 1)) (hk : kd N (p + 1) = 17) (hl : ln N (p + 1) = 14) (hs : gi N p 0 = n) (hn : n ≤ 14) : CP (mc (d + 1)) 35 [vr (some p), vi k] N Q = Q (vr (if 0 ≤ k ∧ k < n then gr N (p + 1) k.toNat else none)) N := by
  by_cases z : 0 ≤ k ∧ k < n
  · have a : (k < 0) = False := eq_false (by omega)
    have b : ((n : Int) ≤ k) = False := eq_false (by omega)
    have c : ((14 : Int) ≤ k) = False := eq_false (by omega)
    have e : (k < 14) = True := eq_true (by omega)
    have f : (0 ≤ k) = True := eq_true (by omega)
    rw [if_pos z]
    simp only [↓cpX4_at, ↓eX4_at_0, ↓eX4_at_1, ↓eX4_at_4, ↓eX4_at_5, ↓eX4_at_6, ↓eX4_at_9, ↓eX4_at_12, ↓eX4_at_13, ↓eX4_at_14, ↓eX4_at_17, ↓eX4_at_18, ↓eX4_at_21, ↓eX4_at_22, ↓eX4_at_25, ↓eX4_at_26, ↓eX4_at_27, ↓eX4_at_30, ↓eX4_at_31, hp, hr, hk, hl, hs, a, b, c, e, f, Int.cast_ofNat_Int, kd_si, gr_si, ln_si, gi_same, gi_na, gi_ni, nl_i, nl_r, nl_j, nj_i, nj_l, nj_r, true_and, and_true, and_self, cs_0, cs_1, cs_2, cs_3, cs_4, ↓reduceIte, Nat.reduceLeDiff, Nat.reduceEqDiff, Nat.reduceAdd, Int.reduceLE, Int.reduceLT, Int.reduceEq, Int.reduceAdd, Int.reduceNeg, Int.reduceToNat, Int.toNat_natCast, ne_eq, not_false_eq_true, not_true_eq_false, or_true, true_or, or_false, false_or]
  · rw [if_neg z]
    by_cases y : k < 0
    · simp only [↓cpX4_at, ↓eX4_at_0, ↓eX4_at_1, ↓eX4_at_4, ↓eX4_at_5, ↓eX4_at_6, ↓eX4_at_9, ↓eX4_at_12, ↓eX4_at_13, ↓eX4_at_14, ↓eX4_at_17, ↓eX4_at_18, ↓eX4_at_21, ↓eX4_at_22, ↓eX4_at_25, ↓eX4_at_26, ↓eX4_at_27, ↓eX4_at_30, ↓eX4_at_31, hp, hr, hk, hl, hs, y, Int.cast_ofNat_Int, kd_si, gr_si, ln_si, gi_same, gi_na, gi_ni, nl_i, nl_r, nl_j, nj_i, nj_l, nj_r, true_and, and_true, and_self, cs_0, cs_1, cs_2, cs_3, cs_4, ↓reduceIte, Nat.reduceLeDiff, Nat.reduceEqDiff, Nat.reduceAdd, Int.reduceLE, Int.reduceLT, Int.reduceEq, Int.reduceAdd, Int.reduceNeg, Int.reduceToNat, Int.toNat_natCast, ne_eq, not_false_eq_true, not_true_eq_false, or_true, true_or, or_false, false_or]
    · have b : ((n : Int) ≤ k) = True := eq_true (by omega)
      simp only [↓cpX4_at, ↓eX4_at_0, ↓eX4_at_1, ↓eX4_at_4, ↓eX4_at_5, ↓eX4_at_6, ↓eX4_at_9, ↓eX4_at_12, ↓eX4_at_13, ↓eX4_at_14, ↓eX4_at_17, ↓eX4_at_18, ↓eX4_at_21, ↓eX4_at_22, ↓eX4_at_25, ↓eX4_at_26, ↓eX4_at_27, ↓eX4_at_30, ↓eX4_at_31, hp, hr, hk, hl, hs, y, b, Int.cast_ofNat_Int, kd_si, gr_si, ln_si, gi_same, gi_na, gi_ni, nl_i, nl_r, nl_j, nj_i, nj_l, nj_r, true_and, and_true, and_self, cs_0, cs_1, cs_2, cs_3, cs_4, ↓reduceIte, Nat.reduceLeDiff, Nat.reduceEqDiff, Nat.reduceAdd, Int.reduceLE, Int.reduceLT, Int.reduceEq, Int.reduceAdd, Int.reduceNeg, Int.reduceToNat, Int.toNat_natCast, ne_eq, not_false_eq_true, not_true_eq_false, or_true, true_or, or_false, false_or]
/-! what the search reads -/
def may0 (may : Nat → Bool) (wt : Nat → Int) (k : Nat) : Int := if may k = true then wt k else 0
def CA (B : mM) (p n : Nat) (cl : Nat → Nat) (wt fr un way : Nat → Int) (may : Nat → Bool) (one : Nat → Nat → Bool) : Prop :=
  (p = 31 ∨ p = 33) ∧ n ≤ 14 ∧ gi B p 0 = n ∧ ∀ j, j < n → (gr B (p + 1) j = some (cl j) ∧ kd B (cl j) = 0 ∧ 88 ≤ cl j) ∧ (gi B (cl j) 6 = wt j ∧ gi B (cl j) 7 = fr j ∧ gi B (cl j) 8 = un j ∧ gi B (cl j) 9 = way j ∧ gi B (cl j) 10 = bi (may j)) ∧
    (∃ eo : Nat, gi B (cl j) 14 = eo ∧ ∀ k, eo.testBit k = (decide (k < j) && decide (fr k ≤ fr j ∧ fr j < un k))) ∧ (∃ eb : Nat, gi B (cl j) 15 = eb ∧ ∀ k, eb.testBit k = (decide (k < j) && one k j)) ∧ gi B (cl j) 16 = ahd way (n - j) j ∧ gi B (cl j) 17 = ahd (may0 may wt) (n - j) j
/-- small numbers -/
def SN (n : Nat) (wt fr un way : Nat → Int) : Prop := ∀ j, j < n → (1 ≤ wt j ∧ wt j ≤ 9999) ∧ (0 ≤ fr j ∧ fr j < un j ∧ un j ≤ 288) ∧ (way j = 0 ∨ way j = 1)
def spn (fr un : Nat → Int) (j : Nat) : Int := un j - fr j
def ST (n : Nat) (wt fr un way : Nat → Int) (N : mM) (c : Nat) : Prop := gi N 20 5 = c ∧ gi N 20 6 = sm way c n ∧ gi N 20 7 = sm wt c n ∧ gi N 20 8 = sm (spn fr un) c n
def BS (n : Nat) (wt fr un way : Nat → Int) (N : mM) : Option Nat → Prop
  | none => gi N 20 10 = -1
  | some b => gi N 20 9 = b ∧ gi N 20 10 = sm way b n ∧ gi N 20 11 = sm wt b n ∧ gi N 20 12 = sm (spn fr un) b n
theorem ahd_bd {f : Nat → Int} {b : Int} {n : Nat} : ∀ r i, i + r = n → (∀ j, i ≤ j → j < n → 0 ≤ f j ∧ f j ≤ b) → 0 ≤ ahd f r i ∧ ahd f r i ≤ r * b := by
  intro r
  induction r with
  | zero => intro i _ _; rw [ahd]; omega
  | succ r ih =>
    intro i hi h
    have := ih (i + 1) (by omega) (fun j h1 h2 => h j (by omega) h2)
    have := h i (Nat.le_refl i) (by omega)
    have e : ((r + 1 : Nat) : Int) * b = r * b + b := by rw [Int.natCast_add, Int.add_mul]; omega
    rw [ahd, e]
    omega
section SEARCH
variable {d p n : Nat} {B : mM} {cl : Nat → Nat} {wt fr un way : Nat → Int} {may : Nat → Bool} {one : Nat → Nat → Bool} {tu room : Int}
theorem SN_b (hS : SN n wt fr un way) (hn : n ≤ 14) (s : Nat) : (0 ≤ sm way s n ∧ sm way s n ≤ 14) ∧ (0 ≤ sm wt s n ∧ sm wt s n ≤ 139986) ∧ 0 ≤ sm (spn fr un) s n ∧ sm (spn fr un) s n ≤ 4032 := by
  have h1 := sm_bd (f := way) (s := s) (b := 1) (by decide) n (fun i hi => by have := (hS i hi).2.2; omega)
  have h2 := sm_bd (f := wt) (s := s) (b := 9999) (by decide) n (fun i hi => by have := (hS i hi).1; omega)
  have h3 := sm_bd (f := spn fr un) (s := s) (b := 288) (by decide) n (fun i hi => by have := (hS i hi).2.1; unfold spn; omega)
  have e1 : (n : Int) * 1 ≤ 14 := by omega
  have e2 : (n : Int) * 9999 ≤ 139986 := by omega
  have e3 : (n : Int) * 288 ≤ 4032 := by omega
  omega
theorem SN_a (hS : SN n wt fr un way) (hn : n ≤ 14) {i : Nat} (hi : i < n) : (0 ≤ ahd way (n - i) i ∧ ahd way (n - i) i ≤ 14) ∧ 0 ≤ ahd (may0 may wt) (n - i) i ∧ ahd (may0 may wt) (n - i) i ≤ 139986 := by
  have h1 := ahd_bd (f := way) (b := 1) (n := n) (n - i) i (by omega) (fun j h1 h2 => by have := (hS j h2).2.2; omega)
  have h2 := ahd_bd (f := may0 may wt) (b := 9999) (n := n) (n - i) i (by omega) (fun j h1 h2 => by
    have := (hS j h2).1
    unfold may0
    split <;> omega)
  have e1 : ((n - i : Nat) : Int) * 1 ≤ 14 := by omega
  have e2 : ((n - i : Nat) : Int) * 9999 ≤ 139986 := by omega
  omega
/-- what the class asks before it adds -/
theorem add_iff {c eo eb i : Nat} (hc : c < 2 ^ i) (hi : i < n) (hn : n ≤ 14) (ho : ∀ k, eo.testBit k = (decide (k < i) && decide (fr k ≤ fr i ∧ fr i < un k))) (hb : ∀ k, eb.testBit k = (decide (k < i) && one k i)) : (c &&& eb = 0 ↔ ∀ j, j < i → c.testBit j = true → one j i = false) ∧ sm (fun _ => 1) (c &&& eo) 14 = sm (onN fr un i) c i := by
  constructor
  · constructor
    · intro h j hj hcj
      have : (c &&& eb).testBit j = false := by rw [h, Nat.zero_testBit]
      rw [Nat.testBit_and, hcj, hb, decide_eq_true hj] at this
      simpa using this
    · intro h
      refine Nat.eq_of_testBit_eq (fun j => ?_)
      rw [Nat.zero_testBit, Nat.testBit_and, hb]
      by_cases q : c.testBit j = true
      · have hj := bit_n hc q
        rw [h j hj q]
        simp
      · simp [q]
  · have e1 : sm (fun _ => 1) (c &&& eo) 14 = sm (fun _ => 1) (c &&& eo) i := sm_hi (by omega) (fun j h1 h2 h3 => by
      rw [Nat.testBit_and, Bool.and_eq_true] at h3
      have := bit_n hc h3.1
      omega)
    rw [e1]
    have : ∀ k, k ≤ i → sm (fun _ => 1) (c &&& eo) k = sm (onN fr un i) c k := by
      intro k
      induction k with
      | zero => intro _; rfl
      | succ k ih =>
        intro hk
        rw [sm_s, sm_s, ih (by omega), Nat.testBit_and, ho, decide_eq_true (show k < i by omega), Bool.true_and]
        unfold onN
        by_cases q : c.testBit k = true
        · rw [q]
          by_cases w : fr k ≤ fr i ∧ fr i < un k
          · simp [w]
          · simp [w]
        · simp [q]
    exact this i (Nat.le_refl i)
abbrev VC (n : Nat) (fr un : Nat → Int) (may : Nat → Bool) (one : Nat → Nat → Bool) (tu room : Int) (t : Nat) : Prop := valC n fr un (spn fr un) may one tu room t
theorem sm_ext {f : Nat → Int} {s t i : Nat} (h : ∀ j, j < i → t.testBit j = s.testBit j) : sm f t i = sm f s i := sm_congr i (fun j hj => ⟨h j hj, fun _ => rfl⟩)
theorem sm_low {f : Nat → Int} {c i n : Nat} (hc : c < 2 ^ i) (hi : i ≤ n) : sm f c n = sm f c i := sm_hi hi (fun j h1 h2 h3 => by
  have := bit_n hc h3
  omega)
/-- with one more it is one that may be a plan -/
theorem VC_add {c i : Nat} (hc : c < 2 ^ i) (hi : i < n) (hv : VC n fr un may one tu room c) (h1 : may i = true) (h2 : ∀ j, j < i → c.testBit j = true → one j i = false) (h3 : sm (onN fr un i) c i < tu) (h4 : sm (spn fr un) c n + spn fr un i ≤ room) : VC n fr un may one tu room (c ^^^ 2 ^ i) := by
  obtain ⟨v1, v2, v3, v4⟩ := hv
  have low : ∀ j, j < i → (c ^^^ 2 ^ i).testBit j = c.testBit j := fun j hj => by rw [tb_add hc, if_neg (by omega)]
  refine ⟨Nat.lt_of_lt_of_le (add_lt hc) (Nat.pow_le_pow_right (by decide) hi), fun j hj hb => ?_, by rw [sm_add hc hi]; exact h4, fun j hj hb => ?_⟩
  · rw [tb_add hc] at hb
    by_cases q : j = i
    · subst q
      exact ⟨h1, fun k hk hb' => h2 k hk (by rw [low k hk] at hb'; exact hb')⟩
    · rw [if_neg q] at hb
      have hji := bit_n hc hb
      obtain ⟨a, b⟩ := v2 j hj hb
      exact ⟨a, fun k hk hb' => b k hk (by rw [low k (by omega)] at hb'; exact hb')⟩
  · rw [tb_add hc] at hb
    by_cases q : j = i
    · subst q
      rw [sm_ext low]
      exact h3
    · rw [if_neg q] at hb
      have hji := bit_n hc hb
      rw [sm_ext (s := c) (fun k hk => low k (by omega))]
      exact v4 j hj hb
/-- and a plan with it shows that it could be added -/
theorem VC_has {c i t : Nat} (hS : SN n wt fr un way) (hc : c < 2 ^ i) (hi : i < n) (ht : VC n fr un may one tu room t) (he : ∀ j, j < i → t.testBit j = c.testBit j) (hti : t.testBit i = true) : may i = true ∧ (∀ j, j < i → c.testBit j = true → one j i = false) ∧ sm (onN fr un i) c i < tu ∧ sm (spn fr un) c n + spn fr un i ≤ room := by
  obtain ⟨v1, v2, v3, v4⟩ := ht
  obtain ⟨a, b⟩ := v2 i hi hti
  refine ⟨a, fun j hj hb => b j hj (by rw [he j hj]; exact hb), by rw [← sm_ext he]; exact v4 i hi hti, ?_⟩
  have h2 : sm (spn fr un) t (i + 1) ≤ sm (spn fr un) t n := by
    obtain ⟨r, rfl⟩ : ∃ r, n = i + 1 + r := ⟨n - (i + 1), by omega⟩
    exact sm_mono r (fun j _ hj _ => by
      have := (hS j hj).2.1
      unfold spn
      omega)
  rw [sm_s, if_pos hti, sm_ext he] at h2
  rw [sm_low hc (by omega)]
  omega
/-- no set behind beats what all could bring -/
theorem ext_bd {c i t : Nat} (hS : SN n wt fr un way) (hc : c < 2 ^ i) (hi : i ≤ n) (ht : VC n fr un may one tu room t) (he : ∀ j, j < i → t.testBit j = c.testBit j) : sm way t n ≤ sm way c n + ahd way (n - i) i ∧ sm wt t n ≤ sm wt c n + ahd (may0 may wt) (n - i) i ∧ sm (spn fr un) c n ≤ sm (spn fr un) t n := by
  refine ⟨?_, ?_, ?_⟩
  · have := ahd_le (f := way) (g := way) (t := t) (n := n) (n - i) i (by omega) (fun j h1 h2 => ⟨by have := (hS j h2).2.2; omega, fun _ => Int.le_refl _⟩)
    rw [sm_ext he] at this
    rw [sm_low hc hi]
    exact this
  · have := ahd_le (f := wt) (g := may0 may wt) (t := t) (n := n) (n - i) i (by omega) (fun j h1 h2 => ⟨by
      have := (hS j h2).1
      unfold may0
      split <;> omega, fun hb => by
      unfold may0
      rw [if_pos (ht.2.1 j h2 hb).1]
      exact Int.le_refl _⟩)
    rw [sm_ext he] at this
    rw [sm_low hc hi]
    exact this
  · have h2 : sm (spn fr un) t i ≤ sm (spn fr un) t n := by
      obtain ⟨r, rfl⟩ : ∃ r, n = i + r := ⟨n - i, by omega⟩
      exact sm_mono r (fun j _ hj _ => by
        have := (hS j hj).2.1
        unfold spn
        omega)
    rw [sm_ext he] at h2
    rw [sm_low hc hi]
    exact h2
end SEARCH
