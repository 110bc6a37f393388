/-! ===== what a source says: the class ===== -/
/-- the class's sources and facts are the reference's -/
def I3 (M : mM) : Prop := (∀ j : Nat, (j : Int) < gi M 1 1 → ∃ a, 88 ≤ a ∧ a < nx M ∧ gr M 2 j = some a ∧ kd M a = 7 ∧ gi M a 0 = j ∧ gi M a 1 = gi M 55 j ∧ 1 ≤ gi M 55 j ∧ gi M 55 j ≤ 9) ∧
  (∀ k : Nat, (k : Int) < gi M 1 2 → ∃ a, 88 ≤ a ∧ a < nx M ∧ gr M 4 k = some a ∧ kd M a = 2 ∧ gi M a 1 = gi M 58 k ∧ gi M a 2 = gi M 59 k ∧ (gi M 56 k = 0 → gr M a 0 = gr M 2 (gi M 57 k).toNat ∧ gi M a 3 = gi M 60 k ∧ gi M a 4 = gi M 61 k ∧ gi M a 5 = gi M 62 k ∧ gi M a 6 = gi M 63 k) ∧
    (gi M 56 k = 1 → gr M a 0 = none ∧ gi M a 3 = gi M 59 k + gi M 60 k ∧ gi M a 4 = 0 ∧ gi M a 5 = 0 ∧ gi M a 6 = 0))
theorem x_factAt {d : Nat} {M : mM} {Q : mV → mM → Prop} {k : Nat} (h : SH M) (hk : (k : Int) < gi M 1 2) (h3 : gi M 1 2 ≤ 300) : CP (mc (d + 1)) 30 [vr (some 1), vi k] M Q = Q (vr (gr M 4 k)) M := by
  have e0 : ((k : Int) < 0) = False := eq_false (by omega)
  have e1 : (gi M 1 2 ≤ (k : Int)) = False := eq_false (by omega)
  have e2 : ((300 : Int) ≤ (k : Int)) = False := eq_false (by omega)
  have e3 : (0 ≤ (k : Int)) = True := eq_true (by omega)
  have e4 : ((k : Int) < 300) = True := eq_true (by omega)
  simp only [↓cpX3_factAt, ↓eX3_factAt_0, ↓eX3_factAt_1, ↓eX3_factAt_4, ↓eX3_factAt_5, ↓eX3_factAt_6, ↓eX3_factAt_9, ↓eX3_factAt_12, ↓eX3_factAt_13, ↓eX3_factAt_14, ↓eX3_factAt_17, ↓eX3_factAt_18, ↓eX3_factAt_21, ↓eX3_factAt_22, ↓eX3_factAt_25, ↓eX3_factAt_26, ↓eX3_factAt_27, ↓eX3_factAt_30, ↓eX3_factAt_31, hk0 h, hk1 h, hk2 h, hl2 h, hk3 h, hl3 h, hk4 h, hl4 h, hk5 h, hk6 h, hl6 h, hk7 h, hl7 h, hk8 h, hl8 h, hk9 h, hl9 h, hk10 h, hl10 h, hk11 h, hl11 h, hk12 h, hl12 h, hk13 h, hl13 h, hk14 h, hl14 h, hk15 h, hl15 h, hk16 h, hk17 h, hl17 h, hk18 h, hk19 h, hl19 h, hk20 h, hk21 h, hk22 h, hl22 h, hk23 h, hl23 h, hk24 h, hl24 h, hk25 h, hl25 h, hk26 h, hk27 h, hl27 h, hk28 h, hl28 h, hk29 h, hl29 h, hk30 h, hl30 h, hk31 h, hk32 h, hl32 h, hk33 h, hk34 h, hl34 h, hr0_0 h, hr1_3 h, hr1_4 h, hr1_5 h, hr0_1 h, hr5_3 h, hr6_0 h, hr6_1 h, hr6_2 h, hr6_3 h, hr6_4 h, hr6_5 h, hr5_4 h, hr5_5 h, hr5_6 h, hr0_2 h, hr16_5 h, hr0_3 h, hr18_9 h, hr0_4 h, hr21_2 h, hr21_3 h, hr21_4 h, hr21_5 h, hr26_2 h, hr26_3 h, hr26_4 h, hr26_5 h, hr31_5 h, hr33_5 h, e0, e1, e2, e3, e4, Int.cast_ofNat_Int, kd_si, gr_si, ln_si, gi_same, gi_na, gi_ni, nl_i, nl_r, nl_j, nj_i, nj_l, nj_r, true_and, and_true, and_self, cs_0, cs_1, cs_2, cs_3, cs_4, ↓reduceIte, Nat.reduceLeDiff, Nat.reduceEqDiff, Nat.reduceAdd, Int.reduceLE, Int.reduceLT, Int.reduceEq, Int.reduceAdd, Int.reduceNeg, Int.reduceToNat, Int.toNat_natCast, ne_eq, not_false_eq_true, not_true_eq_false, or_true, true_or, or_false, false_or]
theorem x_hasSlot {d : Nat} {M : mM} {Q : mV → mM → Prop} {a : Nat} {c t : Int} (hk : kd M a = 2) : CP (mc (d + 1)) 23 [vr (some a), vi c, vi t] M Q = if gi M a 1 = c ∧ gi M a 2 ≤ t ∧ t < gi M a 3 then Q (vi 1) M else Q (vi 0) M := by
  simp only [↓cpX2_hasSlot, ↓eX2_hasSlot_0, ↓eX2_hasSlot_1, ↓eX2_hasSlot_4, ↓eX2_hasSlot_5, ↓eX2_hasSlot_8, ↓eX2_hasSlot_9, ↓eX2_hasSlot_12, ↓eX2_hasSlot_13, ↓eX2_hasSlot_16, ↓eX2_hasSlot_17, ↓eX2_hasSlot_18, ↓eX2_hasSlot_21, ↓eX2_hasSlot_24, ↓eX2_hasSlot_25, ↓eX2_hasSlot_28, ↓eX2_hasSlot_29, hk, Int.cast_ofNat_Int, kd_si, gr_si, ln_si, gi_same, gi_na, gi_ni, nl_i, nl_r, nl_j, nj_i, nj_l, nj_r, true_and, and_true, and_self, cs_0, cs_1, cs_2, cs_3, cs_4, ↓reduceIte, Nat.reduceLeDiff, Nat.reduceEqDiff, Nat.reduceAdd, Int.reduceLE, Int.reduceLT, Int.reduceEq, Int.reduceAdd, Int.reduceNeg, Int.reduceToNat, Int.toNat_natCast, ne_eq, not_false_eq_true, not_true_eq_false, or_true, true_or, or_false, false_or]
  repeat (first | refine ifl (fun z => by omega) (fun z => ?_) | refine ifr (fun z => by omega) (fun z => ?_))
  rw [if_pos (by omega)]
theorem x_isWordOf0 {d : Nat} {M : mM} {Q : mV → mM → Prop} {a b : Nat} (hk : kd M a = 2) (h0 : gr M a 0 = none) : CP (mc (d + 1)) 22 [vr (some a), vr (some b)] M Q = Q (vi 0) M := by
  simp only [↓cpX2_isWordOf, ↓eX2_isWordOf_0, ↓eX2_isWordOf_1, ↓eX2_isWordOf_4, ↓eX2_isWordOf_7, ↓eX2_isWordOf_8, ↓eX2_isWordOf_11, ↓eX2_isWordOf_14, ↓eX2_isWordOf_15, ↓eX2_isWordOf_18, ↓eX2_isWordOf_21, ↓eX2_isWordOf_22, ↓eX2_isWordOf_25, ↓eX2_isWordOf_26, hk, h0, Int.cast_ofNat_Int, kd_si, gr_si, ln_si, gi_same, gi_na, gi_ni, nl_i, nl_r, nl_j, nj_i, nj_l, nj_r, true_and, and_true, and_self, cs_0, cs_1, cs_2, cs_3, cs_4, ↓reduceIte, Nat.reduceLeDiff, Nat.reduceEqDiff, Nat.reduceAdd, Int.reduceLE, Int.reduceLT, Int.reduceEq, Int.reduceAdd, Int.reduceNeg, Int.reduceToNat, Int.toNat_natCast, ne_eq, not_false_eq_true, not_true_eq_false, or_true, true_or, or_false, false_or]
theorem x_isWordOf {d : Nat} {M : mM} {Q : mV → mM → Prop} {a b x : Nat} (hk : kd M a = 2) (h0 : gr M a 0 = some x) (hx : kd M x = 7) (hb : kd M b = 7) : CP (mc (d + 1)) 22 [vr (some a), vr (some b)] M Q = if gi M x 0 = gi M b 0 then Q (vi 1) M else Q (vi 0) M := by
  simp only [↓cpX2_isWordOf, ↓eX2_isWordOf_0, ↓eX2_isWordOf_1, ↓eX2_isWordOf_4, ↓eX2_isWordOf_7, ↓eX2_isWordOf_8, ↓eX2_isWordOf_11, ↓eX2_isWordOf_14, ↓eX2_isWordOf_15, ↓eX2_isWordOf_18, ↓eX2_isWordOf_21, ↓eX2_isWordOf_22, ↓eX2_isWordOf_25, ↓eX2_isWordOf_26, hk, h0, hx, hb, reduceCtorEq, Int.cast_ofNat_Int, kd_si, gr_si, ln_si, gi_same, gi_na, gi_ni, nl_i, nl_r, nl_j, nj_i, nj_l, nj_r, true_and, and_true, and_self, cs_0, cs_1, cs_2, cs_3, cs_4, ↓reduceIte, Nat.reduceLeDiff, Nat.reduceEqDiff, Nat.reduceAdd, Int.reduceLE, Int.reduceLT, Int.reduceEq, Int.reduceAdd, Int.reduceNeg, Int.reduceToNat, Int.toNat_natCast, ne_eq, not_false_eq_true, not_true_eq_false, or_true, true_or, or_false, false_or]
theorem x_latest_loop {d : Nat} {M : mM} {Q : mV → mM → Prop} {s c n : Int} {t sp : Nat} (h : SH M) (h1 : I1 M) (h3 : I3 M) (hf : FM M) (hsp : kd M sp = 7) (hs : gi M sp 0 = s) : ∀ (k : Nat) (a6 : mV), (k : Int) ≤ gi M 1 2 → WP (mc (d + 1)) tX3_latestWord 6 [vr (some 1), vr (some sp), vi c, vi t, vi n, vi (k - 1 : Int), a6] [] M Q = Q (vi (hrd M s c k t)) M := by
  intro k
  induction k with
  | zero =>
    intro a6 hk
    have e : ((((0 : Nat) : Int) - 1) : Int) = -1 := rfl
    rw [e]
    simp only [↓eX3_latestWord_0, ↓eX3_latestWord_2, ↓eX3_latestWord_3, ↓eX3_latestWord_4, ↓eX3_latestWord_6, ↓eX3_latestWord_8, ↓eX3_latestWord_11, ↓eX3_latestWord_12, ↓eX3_latestWord_14, ↓eX3_latestWord_17, ↓eX3_latestWord_19, ↓eX3_latestWord_21, ↓eX3_latestWord_24, ↓eX3_latestWord_26, ↓eX3_latestWord_27, ↓eX3_latestWord_30, ↓eX3_latestWord_33, ↓eX3_latestWord_35, ↓eX3_latestWord_36, ↓eX3_latestWord_37, ↓eX3_latestWord_40, ↓eX3_latestWord_43, ↓eX3_latestWord_45, ↓eX3_latestWord_46, ↓eX3_latestWord_49, ↓eX3_latestWord_52, ↓eX3_latestWord_53, Int.cast_ofNat_Int, kd_si, gr_si, ln_si, gi_same, gi_na, gi_ni, nl_i, nl_r, nl_j, nj_i, nj_l, nj_r, true_and, and_true, and_self, cs_0, cs_1, cs_2, cs_3, cs_4, ↓reduceIte, Nat.reduceLeDiff, Nat.reduceEqDiff, Nat.reduceAdd, Int.reduceLE, Int.reduceLT, Int.reduceEq, Int.reduceAdd, Int.reduceNeg, Int.reduceToNat, Int.toNat_natCast, ne_eq, not_false_eq_true, not_true_eq_false, or_true, true_or, or_false, false_or, hrd]
  | succ k ih =>
    intro a6 hk
    have hb := h1.2.2.1
    have e : ((((k + 1 : Nat) : Int) - 1) : Int) = (k : Int) := by omega
    have e0 : ((k : Int) < 0) = False := eq_false (by omega)
    have e2 : wr ((k : Int) + (-1)) = (k : Int) - 1 := by rw [wr_id (by omega) (by omega)]; omega
    obtain ⟨a, -, -, ha, hka, g1, g2, g3, g4⟩ := h3.2 k (by omega)
    have fa := fun (Q : mV → mM → Prop) => x_factAt (d := d) (Q := Q) (k := k) h (by omega) (by omega)
    rw [e, eX3_latestWord_6]
    have fs := fun (Q : mV → mM → Prop) (c t : Int) => x_hasSlot (d := d) (Q := Q) (a := a) (c := c) (t := t) hka
    obtain ⟨f1, f2, f3, f4⟩ := hf k (by have := hb.2.2; omega)
    rcases f1 with f1 | f1
    · obtain ⟨q1, q2, -⟩ := g3 f1
      obtain ⟨⟨p1, p2⟩, -⟩ := f3 f1
      obtain ⟨x, -, -, hx, hkx, hx0, -⟩ := h3.1 (gi M 57 k).toNat (by have := h1.2.1.2.2; omega)
      have fw := fun (Q : mV → mM → Prop) => x_isWordOf (d := d) (Q := Q) (b := sp) hka (q1.trans hx) hkx hsp
      have hx1 : gi M x 0 = gi M 57 k := by rw [hx0]; omega
      simp only [↓eX3_latestWord_8, ↓eX3_latestWord_11, ↓eX3_latestWord_12, ↓eX3_latestWord_14, ↓eX3_latestWord_17, ↓eX3_latestWord_19, ↓eX3_latestWord_21, ↓eX3_latestWord_24, ↓eX3_latestWord_26, ↓eX3_latestWord_27, ↓eX3_latestWord_30, ↓eX3_latestWord_33, ↓eX3_latestWord_35, ↓eX3_latestWord_36, ↓eX3_latestWord_37, ↓eX3_latestWord_40, ↓eX3_latestWord_43, ↓eX3_latestWord_45, ↓eX3_latestWord_46, ↓eX3_latestWord_49, e0, e2, ↓fa, ha, ↓fw, ↓fs, hka, hk1 h, hs, hx1, g1, g2, q2, reduceCtorEq, Int.cast_ofNat_Int, kd_si, gr_si, ln_si, gi_same, gi_na, gi_ni, nl_i, nl_r, nl_j, nj_i, nj_l, nj_r, true_and, and_true, and_self, cs_0, cs_1, cs_2, cs_3, cs_4, ↓reduceIte, Nat.reduceLeDiff, Nat.reduceEqDiff, Nat.reduceAdd, Int.reduceLE, Int.reduceLT, Int.reduceEq, Int.reduceAdd, Int.reduceNeg, Int.reduceToNat, Int.toNat_natCast, ne_eq, not_false_eq_true, not_true_eq_false, or_true, true_or, or_false, false_or]
      rw [hrd]
      by_cases z1 : gi M 57 k = s
      · rw [if_pos z1]
        by_cases z2 : gi M 58 k = c ∧ gi M 59 k ≤ t ∧ (t : Int) < gi M 60 k
        · rw [if_pos z2, if_pos ⟨f1, z1, z2⟩]
        · rw [if_neg z2, if_neg (fun w => z2 w.2.2)]
          exact ih _ (by omega)
      · rw [if_neg z1, if_neg (fun w => z1 w.2.1)]
        exact ih _ (by omega)
    · obtain ⟨q1, -⟩ := g4 f1
      have fw := fun (Q : mV → mM → Prop) => x_isWordOf0 (d := d) (Q := Q) (b := sp) hka q1
      simp only [↓eX3_latestWord_8, ↓eX3_latestWord_11, ↓eX3_latestWord_12, ↓eX3_latestWord_14, ↓eX3_latestWord_17, ↓eX3_latestWord_19, ↓eX3_latestWord_21, ↓eX3_latestWord_24, ↓eX3_latestWord_26, ↓eX3_latestWord_27, ↓eX3_latestWord_30, ↓eX3_latestWord_33, ↓eX3_latestWord_35, ↓eX3_latestWord_36, ↓eX3_latestWord_37, ↓eX3_latestWord_40, ↓eX3_latestWord_43, ↓eX3_latestWord_45, ↓eX3_latestWord_46, ↓eX3_latestWord_49, e0, e2, ↓fa, ha, ↓fw, hka, hk1 h, reduceCtorEq, Int.cast_ofNat_Int, kd_si, gr_si, ln_si, gi_same, gi_na, gi_ni, nl_i, nl_r, nl_j, nj_i, nj_l, nj_r, true_and, and_true, and_self, cs_0, cs_1, cs_2, cs_3, cs_4, ↓reduceIte, Nat.reduceLeDiff, Nat.reduceEqDiff, Nat.reduceAdd, Int.reduceLE, Int.reduceLT, Int.reduceEq, Int.reduceAdd, Int.reduceNeg, Int.reduceToNat, Int.toNat_natCast, ne_eq, not_false_eq_true, not_true_eq_false, or_true, true_or, or_false, false_or]
      rw [hrd, if_neg (fun w => by omega)]
      exact ih _ (by omega)
theorem x_says {d : Nat} {M : mM} {Q : mV → mM → Prop} {s c t n : Int} (h : SH M) (h1 : I1 M) (h3 : I3 M) (hf : FM M) : CP (mc (d + 3)) 113 [vr (some 0), vi s, vi c, vi t, vi n] M Q = if (0 ≤ s ∧ s < gi M 1 1) ∧ (0 ≤ c ∧ c < gi M 1 0) ∧ (0 ≤ t ∧ t < 288) ∧ 0 ≤ n ∧ n ≤ gi M 1 2 then Q (vi (hrd M s c n.toNat t.toNat)) M else Q (vi (-1)) M := by
  have hb := h1.2.1
  by_cases hq : 0 ≤ s ∧ s < gi M 1 1
  · obtain ⟨x, -, -, hx, hkx, hx0, -⟩ := h3.1 s.toNat (by omega)
    have s1 : ¬ s < 0 := by omega
    have s2 : ¬ gi M 1 1 ≤ s := by omega
    have s3 : ¬ 6 ≤ s := by omega
    have s4 : s < 6 := by omega
    have hx1 : gi M x 0 = s := by rw [hx0]; omega
    have fh := fun (Q : mV → mM → Prop) => x_hasChannel (d := d + 1) (Q := Q) (n := c) h
    have fk := fun (Q : mV → mM → Prop) => x_isKnown (d := d + 1) (Q := Q) (n := n) h
    simp only [↓cpX11_says, ↓cpX3_sourceAt, ↓eX11_says_0, ↓eX11_says_1, ↓eX11_says_4, ↓eX11_says_5, ↓eX11_says_8, ↓eX11_says_10, ↓eX11_says_12, ↓eX11_says_15, ↓eX11_says_16, ↓eX11_says_19, ↓eX11_says_20, ↓eX11_says_23, ↓eX11_says_26, ↓eX11_says_27, ↓eX11_says_30, ↓eX11_says_31, ↓eX11_says_34, ↓eX11_says_37, ↓eX11_says_38, ↓eX11_says_41, ↓eX11_says_43, ↓eX11_says_46, ↓eX11_says_49, ↓eX11_says_50, ↓eX11_says_51, ↓eX11_says_52, ↓eX11_says_55, ↓eX11_says_57, ↓eX11_says_58, ↓eX11_says_59, ↓eX11_says_61, ↓eX11_says_64, ↓eX3_sourceAt_0, ↓eX3_sourceAt_1, ↓eX3_sourceAt_4, ↓eX3_sourceAt_5, ↓eX3_sourceAt_6, ↓eX3_sourceAt_9, ↓eX3_sourceAt_12, ↓eX3_sourceAt_13, ↓eX3_sourceAt_14, ↓eX3_sourceAt_17, ↓eX3_sourceAt_18, ↓eX3_sourceAt_21, ↓eX3_sourceAt_22, ↓eX3_sourceAt_25, ↓eX3_sourceAt_26, ↓eX3_sourceAt_27, ↓eX3_sourceAt_30, ↓eX3_sourceAt_31, hk0 h, hk1 h, hk2 h, hl2 h, hk3 h, hl3 h, hk4 h, hl4 h, hk5 h, hk6 h, hl6 h, hk7 h, hl7 h, hk8 h, hl8 h, hk9 h, hl9 h, hk10 h, hl10 h, hk11 h, hl11 h, hk12 h, hl12 h, hk13 h, hl13 h, hk14 h, hl14 h, hk15 h, hl15 h, hk16 h, hk17 h, hl17 h, hk18 h, hk19 h, hl19 h, hk20 h, hk21 h, hk22 h, hl22 h, hk23 h, hl23 h, hk24 h, hl24 h, hk25 h, hl25 h, hk26 h, hk27 h, hl27 h, hk28 h, hl28 h, hk29 h, hl29 h, hk30 h, hl30 h, hk31 h, hk32 h, hl32 h, hk33 h, hk34 h, hl34 h, hr0_0 h, hr1_3 h, hr1_4 h, hr1_5 h, hr0_1 h, hr5_3 h, hr6_0 h, hr6_1 h, hr6_2 h, hr6_3 h, hr6_4 h, hr6_5 h, hr5_4 h, hr5_5 h, hr5_6 h, hr0_2 h, hr16_5 h, hr0_3 h, hr18_9 h, hr0_4 h, hr21_2 h, hr21_3 h, hr21_4 h, hr21_5 h, hr26_2 h, hr26_3 h, hr26_4 h, hr26_5 h, hr31_5 h, hr33_5 h, ↓fh, ↓fk, hq.1, hq.2, hx, s1, s2, s3, s4, reduceCtorEq, Int.cast_ofNat_Int, kd_si, gr_si, ln_si, gi_same, gi_na, gi_ni, nl_i, nl_r, nl_j, nj_i, nj_l, nj_r, true_and, and_true, and_self, cs_0, cs_1, cs_2, cs_3, cs_4, ↓reduceIte, Nat.reduceLeDiff, Nat.reduceEqDiff, Nat.reduceAdd, Int.reduceLE, Int.reduceLT, Int.reduceEq, Int.reduceAdd, Int.reduceNeg, Int.reduceToNat, Int.toNat_natCast, ne_eq, not_false_eq_true, not_true_eq_false, or_true, true_or, or_false, false_or]
    by_cases z1 : 0 ≤ c ∧ c < gi M 1 0
    · rw [if_pos z1]
      by_cases z2 : t < 0
      · rw [if_pos z2, if_neg (by omega)]
      · rw [if_neg z2]
        by_cases z3 : 288 ≤ t
        · rw [if_pos z3, if_neg (by omega)]
        · rw [if_neg z3]
          by_cases z4 : 0 ≤ n ∧ n ≤ gi M 1 2
          · rw [if_pos z4, if_pos (by omega)]
            obtain ⟨m, rfl⟩ : ∃ m : Nat, n = m := ⟨n.toNat, by omega⟩
            obtain ⟨u, rfl⟩ : ∃ u : Nat, t = u := ⟨t.toNat, by omega⟩
            have hb3 := h1.2.2.1
            have w : wr ((m : Int) - 1) = (m : Int) - 1 := wr_id (by omega) (by omega)
            have fl := x_latest_loop (d := d) (Q := Q) (s := s) (c := c) (n := m) (t := u) (sp := x) h h1 h3 hf hkx hx1 m vj (by omega)
            simp only [↓cpX3_latestWord, ↓eX3_latestWord_0, ↓eX3_latestWord_2, ↓eX3_latestWord_3, ↓eX3_latestWord_4, w, Int.cast_ofNat_Int, kd_si, gr_si, ln_si, gi_same, gi_na, gi_ni, nl_i, nl_r, nl_j, nj_i, nj_l, nj_r, true_and, and_true, and_self, cs_0, cs_1, cs_2, cs_3, cs_4, ↓reduceIte, Nat.reduceLeDiff, Nat.reduceEqDiff, Nat.reduceAdd, Int.reduceLE, Int.reduceLT, Int.reduceEq, Int.reduceAdd, Int.reduceNeg, Int.reduceToNat, Int.toNat_natCast, ne_eq, not_false_eq_true, not_true_eq_false, or_true, true_or, or_false, false_or]
            rw [x_latest_loop h h1 h3 hf hkx hx1 m vj (by omega)]
            simp only [eX11_says_64, Int.cast_ofNat_Int, kd_si, gr_si, ln_si, gi_same, gi_na, gi_ni, nl_i, nl_r, nl_j, nj_i, nj_l, nj_r, true_and, and_true, and_self, cs_0, cs_1, cs_2, cs_3, cs_4, ↓reduceIte, Nat.reduceLeDiff, Nat.reduceEqDiff, Nat.reduceAdd, Int.reduceLE, Int.reduceLT, Int.reduceEq, Int.reduceAdd, Int.reduceNeg, Int.reduceToNat, Int.toNat_natCast, ne_eq, not_false_eq_true, not_true_eq_false, or_true, true_or, or_false, false_or]
          · rw [if_neg z4, if_neg (by omega)]
    · rw [if_neg z1, if_neg (by omega)]
  · rw [if_neg (fun w => hq w.1)]
    simp only [↓cpX11_says, ↓cpX3_sourceAt, ↓eX11_says_0, ↓eX11_says_1, ↓eX11_says_4, ↓eX11_says_5, ↓eX11_says_8, ↓eX11_says_10, ↓eX11_says_12, ↓eX11_says_15, ↓eX11_says_16, ↓eX11_says_19, ↓eX11_says_20, ↓eX11_says_23, ↓eX11_says_26, ↓eX11_says_27, ↓eX11_says_30, ↓eX11_says_31, ↓eX11_says_34, ↓eX11_says_37, ↓eX11_says_38, ↓eX11_says_41, ↓eX11_says_43, ↓eX11_says_46, ↓eX11_says_49, ↓eX11_says_50, ↓eX11_says_51, ↓eX11_says_52, ↓eX11_says_55, ↓eX11_says_57, ↓eX11_says_58, ↓eX11_says_59, ↓eX11_says_61, ↓eX11_says_64, ↓eX3_sourceAt_0, ↓eX3_sourceAt_1, ↓eX3_sourceAt_4, ↓eX3_sourceAt_5, ↓eX3_sourceAt_6, ↓eX3_sourceAt_9, ↓eX3_sourceAt_12, ↓eX3_sourceAt_13, ↓eX3_sourceAt_14, ↓eX3_sourceAt_17, ↓eX3_sourceAt_18, ↓eX3_sourceAt_21, ↓eX3_sourceAt_22, ↓eX3_sourceAt_25, ↓eX3_sourceAt_26, ↓eX3_sourceAt_27, ↓eX3_sourceAt_30, ↓eX3_sourceAt_31, hk0 h, hk1 h, hk2 h, hl2 h, hk3 h, hl3 h, hk4 h, hl4 h, hk5 h, hk6 h, hl6 h, hk7 h, hl7 h, hk8 h, hl8 h, hk9 h, hl9 h, hk10 h, hl10 h, hk11 h, hl11 h, hk12 h, hl12 h, hk13 h, hl13 h, hk14 h, hl14 h, hk15 h, hl15 h, hk16 h, hk17 h, hl17 h, hk18 h, hk19 h, hl19 h, hk20 h, hk21 h, hk22 h, hl22 h, hk23 h, hl23 h, hk24 h, hl24 h, hk25 h, hl25 h, hk26 h, hk27 h, hl27 h, hk28 h, hl28 h, hk29 h, hl29 h, hk30 h, hl30 h, hk31 h, hk32 h, hl32 h, hk33 h, hk34 h, hl34 h, hr0_0 h, hr1_3 h, hr1_4 h, hr1_5 h, hr0_1 h, hr5_3 h, hr6_0 h, hr6_1 h, hr6_2 h, hr6_3 h, hr6_4 h, hr6_5 h, hr5_4 h, hr5_5 h, hr5_6 h, hr0_2 h, hr16_5 h, hr0_3 h, hr18_9 h, hr0_4 h, hr21_2 h, hr21_3 h, hr21_4 h, hr21_5 h, hr26_2 h, hr26_3 h, hr26_4 h, hr26_5 h, hr31_5 h, hr33_5 h, reduceCtorEq, Int.cast_ofNat_Int, kd_si, gr_si, ln_si, gi_same, gi_na, gi_ni, nl_i, nl_r, nl_j, nj_i, nj_l, nj_r, true_and, and_true, and_self, cs_0, cs_1, cs_2, cs_3, cs_4, ↓reduceIte, Nat.reduceLeDiff, Nat.reduceEqDiff, Nat.reduceAdd, Int.reduceLE, Int.reduceLT, Int.reduceEq, Int.reduceAdd, Int.reduceNeg, Int.reduceToNat, Int.toNat_natCast, ne_eq, not_false_eq_true, not_true_eq_false, or_true, true_or, or_false, false_or]
    by_cases z : s < 0
    · rw [if_pos z]
    · rw [if_neg z, if_pos (by omega)]
theorem y_says {d : Nat} {M : mM} {Q : mV → mM → Prop} {s c t n : Int} (h : SH M) (h0 : 0 ≤ gi M 35 37) (h3 : gi M 35 37 ≤ 300) (hf : FM M) : CP (mc (d + 2)) 161 [vr (some 35), vi s, vi c, vi t, vi n] M Q = if (0 ≤ s ∧ s < gi M 35 35) ∧ (0 ≤ c ∧ c < gi M 35 34) ∧ (0 ≤ t ∧ t < 288) ∧ 0 ≤ n ∧ n ≤ gi M 35 37 then Q (vi (hrd M s c n.toNat t.toNat)) (sw M 64 (fun u => if u < 288 then hrd M s c n.toNat u else gi M 64 u)) else Q (vi (-1)) M := by
  have fh := fun (Q : mV → mM → Prop) => y_isChannel (d := d) (Q := Q) (n := c) h
  have fk := fun (Q : mV → mM → Prop) => y_isKnown (d := d) (Q := Q) (n := n) h
  have fs := fun (Q : mV → mM → Prop) => y_isSlot (d := d) (M := M) (Q := Q) (a := t)
  by_cases z4 : 0 ≤ n ∧ n ≤ gi M 35 37
  · obtain ⟨m, rfl⟩ : ∃ m : Nat, n = m := ⟨n.toNat, by omega⟩
    have fe := fun (Q : mV → mM → Prop) => y_hears (d := d) (Q := Q) (s := s) (c := c) (n := m) h hf (by omega) h3
    simp only [↓cpX12_says, ↓eX12_says_0, ↓eX12_says_1, ↓eX12_says_4, ↓eX12_says_5, ↓eX12_says_6, ↓eX12_says_9, ↓eX12_says_12, ↓eX12_says_13, ↓eX12_says_14, ↓eX12_says_17, ↓eX12_says_20, ↓eX12_says_21, ↓eX12_says_24, ↓eX12_says_27, ↓eX12_says_28, ↓eX12_says_30, ↓eX12_says_33, ↓eX12_says_36, ↓eX12_says_37, ↓eX12_says_38, ↓eX12_says_39, ↓eX12_says_40, ↓eX12_says_41, ↓eX12_says_43, ↓eX12_says_46, ↓eX12_says_47, ↓eX12_says_50, ↓eX12_says_51, ↓eX12_says_52, hk35 h, hk36 h, hl36 h, hk37 h, hl37 h, hk38 h, hl38 h, hk39 h, hl39 h, hk40 h, hl40 h, hk41 h, hl41 h, hk42 h, hl42 h, hk43 h, hl43 h, hk44 h, hl44 h, hk45 h, hl45 h, hk46 h, hl46 h, hk47 h, hl47 h, hk48 h, hl48 h, hk49 h, hl49 h, hk50 h, hl50 h, hk51 h, hl51 h, hk52 h, hl52 h, hk53 h, hl53 h, hk54 h, hl54 h, hk55 h, hl55 h, hk56 h, hl56 h, hk57 h, hl57 h, hk58 h, hl58 h, hk59 h, hl59 h, hk60 h, hl60 h, hk61 h, hl61 h, hk62 h, hl62 h, hk63 h, hl63 h, hk64 h, hl64 h, hk65 h, hl65 h, hk66 h, hl66 h, hk67 h, hl67 h, hk68 h, hl68 h, hk69 h, hl69 h, hk70 h, hl70 h, hk71 h, hl71 h, hk72 h, hl72 h, hk73 h, hl73 h, hk74 h, hl74 h, hk75 h, hl75 h, hk76 h, hl76 h, hk77 h, hl77 h, hk78 h, hl78 h, hk79 h, hl79 h, hk80 h, hl80 h, hk81 h, hl81 h, hk82 h, hl82 h, hk83 h, hl83 h, hk84 h, hl84 h, hk85 h, hl85 h, hk86 h, hl86 h, hk87 h, hl87 h, hr35_1 h, hr35_3 h, hr35_5 h, hr35_6 h, hr35_7 h, hr35_8 h, hr35_9 h, hr35_20 h, hr35_21 h, hr35_22 h, hr35_23 h, hr35_24 h, hr35_25 h, hr35_26 h, hr35_27 h, hr35_28 h, hr35_30 h, hr35_31 h, hr35_32 h, hr35_36 h, hr35_38 h, hr35_39 h, hr35_40 h, hr35_41 h, hr35_42 h, hr35_43 h, hr35_44 h, hr35_45 h, hr35_52 h, hr35_53 h, hr35_54 h, hr35_56 h, hr35_57 h, hr35_58 h, hr35_59 h, hr35_60 h, hr35_65 h, hr35_66 h, hr35_67 h, hr35_68 h, hr35_69 h, hr35_70 h, hr35_71 h, hr35_72 h, hr35_73 h, hr35_74 h, hr35_75 h, hr35_76 h, hr35_78 h, hr35_79 h, hr35_80 h, hr35_81 h, ↓fh, ↓fk, ↓fs, ↓fe, z4, gr_sw, kd_sw, ln_sw, gi_sws, Int.cast_ofNat_Int, kd_si, gr_si, ln_si, gi_same, gi_na, gi_ni, nl_i, nl_r, nl_j, nj_i, nj_l, nj_r, true_and, and_true, and_self, cs_0, cs_1, cs_2, cs_3, cs_4, ↓reduceIte, Nat.reduceLeDiff, Nat.reduceEqDiff, Nat.reduceAdd, Int.reduceLE, Int.reduceLT, Int.reduceEq, Int.reduceAdd, Int.reduceNeg, Int.reduceToNat, Int.toNat_natCast, ne_eq, not_false_eq_true, not_true_eq_false, or_true, true_or, or_false, false_or]
    by_cases z1 : s < 0
    · rw [if_pos z1, if_neg (by omega)]
    · rw [if_neg z1]
      by_cases z2 : gi M 35 35 ≤ s
      · rw [if_pos z2, if_neg (by omega)]
      · rw [if_neg z2]
        by_cases z3 : 0 ≤ c ∧ c < gi M 35 34
        · rw [if_pos z3]
          by_cases z5 : 0 ≤ t ∧ t < 288
          · have z6 : t.toNat < 288 := by omega
            have P : (0 ≤ s ∧ s < gi M 35 35) ∧ (0 ≤ c ∧ c < gi M 35 34) ∧ 0 ≤ t ∧ t < 288 := ⟨⟨by omega, by omega⟩, z3, z5⟩
            rw [if_pos z5, if_pos P, if_pos z6]
            exact propext ⟨fun w => w.2, fun w => ⟨z5, w⟩⟩
          · rw [if_neg z5, if_neg (fun w => z5 w.2.2)]
        · rw [if_neg z3, if_neg (fun w => z3 w.2.1)]
  · rw [if_neg (fun w => z4 w.2.2.2)]
    simp only [↓cpX12_says, ↓eX12_says_0, ↓eX12_says_1, ↓eX12_says_4, ↓eX12_says_5, ↓eX12_says_6, ↓eX12_says_9, ↓eX12_says_12, ↓eX12_says_13, ↓eX12_says_14, ↓eX12_says_17, ↓eX12_says_20, ↓eX12_says_21, ↓eX12_says_24, ↓eX12_says_27, ↓eX12_says_28, ↓eX12_says_30, ↓eX12_says_33, ↓eX12_says_36, ↓eX12_says_37, ↓eX12_says_38, ↓eX12_says_39, ↓eX12_says_40, ↓eX12_says_41, ↓eX12_says_43, ↓eX12_says_46, ↓eX12_says_47, ↓eX12_says_50, ↓eX12_says_51, ↓eX12_says_52, hk35 h, hk36 h, hl36 h, hk37 h, hl37 h, hk38 h, hl38 h, hk39 h, hl39 h, hk40 h, hl40 h, hk41 h, hl41 h, hk42 h, hl42 h, hk43 h, hl43 h, hk44 h, hl44 h, hk45 h, hl45 h, hk46 h, hl46 h, hk47 h, hl47 h, hk48 h, hl48 h, hk49 h, hl49 h, hk50 h, hl50 h, hk51 h, hl51 h, hk52 h, hl52 h, hk53 h, hl53 h, hk54 h, hl54 h, hk55 h, hl55 h, hk56 h, hl56 h, hk57 h, hl57 h, hk58 h, hl58 h, hk59 h, hl59 h, hk60 h, hl60 h, hk61 h, hl61 h, hk62 h, hl62 h, hk63 h, hl63 h, hk64 h, hl64 h, hk65 h, hl65 h, hk66 h, hl66 h, hk67 h, hl67 h, hk68 h, hl68 h, hk69 h, hl69 h, hk70 h, hl70 h, hk71 h, hl71 h, hk72 h, hl72 h, hk73 h, hl73 h, hk74 h, hl74 h, hk75 h, hl75 h, hk76 h, hl76 h, hk77 h, hl77 h, hk78 h, hl78 h, hk79 h, hl79 h, hk80 h, hl80 h, hk81 h, hl81 h, hk82 h, hl82 h, hk83 h, hl83 h, hk84 h, hl84 h, hk85 h, hl85 h, hk86 h, hl86 h, hk87 h, hl87 h, hr35_1 h, hr35_3 h, hr35_5 h, hr35_6 h, hr35_7 h, hr35_8 h, hr35_9 h, hr35_20 h, hr35_21 h, hr35_22 h, hr35_23 h, hr35_24 h, hr35_25 h, hr35_26 h, hr35_27 h, hr35_28 h, hr35_30 h, hr35_31 h, hr35_32 h, hr35_36 h, hr35_38 h, hr35_39 h, hr35_40 h, hr35_41 h, hr35_42 h, hr35_43 h, hr35_44 h, hr35_45 h, hr35_52 h, hr35_53 h, hr35_54 h, hr35_56 h, hr35_57 h, hr35_58 h, hr35_59 h, hr35_60 h, hr35_65 h, hr35_66 h, hr35_67 h, hr35_68 h, hr35_69 h, hr35_70 h, hr35_71 h, hr35_72 h, hr35_73 h, hr35_74 h, hr35_75 h, hr35_76 h, hr35_78 h, hr35_79 h, hr35_80 h, hr35_81 h, ↓fh, ↓fk, ↓fs, if_neg z4, Int.cast_ofNat_Int, kd_si, gr_si, ln_si, gi_same, gi_na, gi_ni, nl_i, nl_r, nl_j, nj_i, nj_l, nj_r, true_and, and_true, and_self, cs_0, cs_1, cs_2, cs_3, cs_4, ↓reduceIte, Nat.reduceLeDiff, Nat.reduceEqDiff, Nat.reduceAdd, Int.reduceLE, Int.reduceLT, Int.reduceEq, Int.reduceAdd, Int.reduceNeg, Int.reduceToNat, Int.toNat_natCast, ne_eq, not_false_eq_true, not_true_eq_false, or_true, true_or, or_false, false_or]
    (repeat' split) <;> rfl
