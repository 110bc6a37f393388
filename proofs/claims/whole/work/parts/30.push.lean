/-! ===== an over: the class ===== -/
theorem psr_0 (row : Nat → Int) : ∀ (r k : Nat) (cur : Nat → Int) (j : Nat), k + r = 288 → psr row r k 0 cur j = if k ≤ j ∧ j < 288 then row j else cur j := by
  intro r
  induction r with
  | zero => intro k cur j hk; rw [psr, if_neg (by omega)]
  | succ r ih =>
    intro k cur j hk
    rw [psr, if_neg (fun w => Nat.lt_irrefl 0 w.2), if_pos (by omega), ih (k + 1) _ j (by omega)]
    by_cases q : j = k
    · subst q
      rw [if_neg (by omega), if_pos (by omega), if_pos (by omega)]
    · by_cases q2 : k + 1 ≤ j ∧ j < 288
      · rw [if_pos q2, if_pos (by omega)]
      · rw [if_neg q2, if_neg (by omega), if_neg (by omega)]
theorem x_push_B {C : mC} {Q : mV → mM → Prop} {M : mM} {a : Nat} {o : Option Nat} {b f6 : mV} {u7 : Int} {t : Nat} {f : Int} {row : Nat → Int} (h : SH M) (hk : kd M a = 14) (hl : ln M a = 288) (ha : 7 ≤ a ∧ a ≤ 12) :
    ∀ (r i l : Nat) (cur : Nat → Int) (N : mM), i + r = 288 → l ≤ 48 → DF isRow M N → (∀ a', ¬ isRow a' ∨ (a' ≠ a ∧ a' ≠ 13) → ∀ j, gi N a' j = gi M a' j) → (∀ j, j < 288 → gi N 13 j = row j) → (∀ j, j < 288 → j < i + l → gi N a j = cur j) → (∀ j, j < 288 → i + l ≤ j → gi N a j = row j) →
    (∀ N', DF isRow M N' → (∀ a', ¬ isRow a' ∨ (a' ≠ a ∧ a' ≠ 13) → ∀ j, gi N' a' j = gi M a' j) → (∀ j, j < 288 → gi N' a j = psr row r i l cur j) → Q vj N') → WP C tX1_pushByOver 120 [vr (some 5), b, vr (some a), vr o, vi t, vi f, f6, vi u7, vi l, vi i] [] N Q := by
  intro r
  induction r with
  | zero =>
    intro i l cur N hi hl2 hD hF h13 hc1 hc2 hQ
    have e : i = 288 := by omega
    subst e
    simp only [↓eX1_pushByOver_120, ↓eX1_pushByOver_122, ↓eX1_pushByOver_125, ↓eX1_pushByOver_181, Int.cast_ofNat_Int, kd_si, gr_si, ln_si, gi_same, gi_na, gi_ni, nl_i, nl_r, nl_j, nj_i, nj_l, nj_r, true_and, and_true, and_self, cs_0, cs_1, cs_2, cs_3, cs_4, ↓reduceIte, Nat.reduceLeDiff, Nat.reduceEqDiff, Nat.reduceAdd, Int.reduceLE, Int.reduceLT, Int.reduceEq, Int.reduceAdd, Int.reduceNeg, Int.reduceToNat, Int.toNat_natCast, ne_eq, not_false_eq_true, not_true_eq_false, or_true, true_or, or_false, false_or]
    exact hQ N hD hF (fun j hj => by rw [hc1 j hj (by omega)]; rfl)
  | succ r ih =>
    intro i l cur N hi hl2 hD hF h13 hc1 hc2 hQ
    have hN := DF_SH hD h
    have e : ((288 : Int) ≤ (i : Int)) = False := eq_false (by omega)
    have e0 : 0 ≤ (i : Int) := by omega
    have e1 : (i : Int) < 288 := by omega
    have e2 : wr ((i : Int) + 1) = ((i + 1 : Nat) : Int) := by rw [wr_id (by omega) (by omega)]; omega
    have g13 := h13 i (by omega)
    have hk' : kd N a = 14 := by rw [DF_k hD]; exact hk
    have hl' : ln N a = 288 := by rw [DF_l hD]; exact hl
    rw [eX1_pushByOver_120]
    by_cases l0 : l = 0
    · subst l0
      simp only [↓eX1_pushByOver_122, ↓eX1_pushByOver_125, ↓eX1_pushByOver_128, ↓eX1_pushByOver_130, ↓eX1_pushByOver_181, e, Int.cast_ofNat_Int, kd_si, gr_si, ln_si, gi_same, gi_na, gi_ni, nl_i, nl_r, nl_j, nj_i, nj_l, nj_r, true_and, and_true, and_self, cs_0, cs_1, cs_2, cs_3, cs_4, ↓reduceIte, Nat.reduceLeDiff, Nat.reduceEqDiff, Nat.reduceAdd, Int.reduceLE, Int.reduceLT, Int.reduceEq, Int.reduceAdd, Int.reduceNeg, Int.reduceToNat, Int.toNat_natCast, ne_eq, not_false_eq_true, not_true_eq_false, or_true, true_or, or_false, false_or, Int.ofNat_zero, Int.le_refl]
      refine hQ N hD hF (fun j hj => ?_)
      rw [psr_0 _ _ _ _ _ hi]
      by_cases q : i ≤ j
      · rw [if_pos ⟨q, hj⟩]; exact hc2 j hj (by omega)
      · rw [if_neg (fun w => q w.1)]; exact hc1 j hj (by omega)
    · have l1 : ((l : Int) ≤ 0) = False := eq_false (by omega)
      have l2 : wr ((l : Int) + (-1)) = ((l - 1 : Nat) : Int) := by rw [wr_id (by omega) (by omega)]; omega
      have l3 : wr ((i : Int) + (l : Int)) = ((i + l : Nat) : Int) := by rw [wr_id (by omega) (by omega)]; omega
      simp only [↓eX1_pushByOver_122, ↓eX1_pushByOver_125, ↓eX1_pushByOver_128, ↓eX1_pushByOver_130, ↓eX1_pushByOver_133, ↓eX1_pushByOver_134, ↓eX1_pushByOver_137, ↓eX1_pushByOver_139, ↓eX1_pushByOver_140, ↓eX1_pushByOver_141, e, l1, e0, e1, hk5 hN, hr5_4 hN, hk13 hN, hl13 hN, g13, Int.cast_ofNat_Int, kd_si, gr_si, ln_si, gi_same, gi_na, gi_ni, nl_i, nl_r, nl_j, nj_i, nj_l, nj_r, true_and, and_true, and_self, cs_0, cs_1, cs_2, cs_3, cs_4, ↓reduceIte, Nat.reduceLeDiff, Nat.reduceEqDiff, Nat.reduceAdd, Int.reduceLE, Int.reduceLT, Int.reduceEq, Int.reduceAdd, Int.reduceNeg, Int.reduceToNat, Int.toNat_natCast, ne_eq, not_false_eq_true, not_true_eq_false, or_true, true_or, or_false, false_or]
      by_cases q : row i = -1
      · rw [if_pos q]
        simp only [↓eX1_pushByOver_144, ↓eX1_pushByOver_147, ↓eX1_pushByOver_175, ↓eX1_pushByOver_178, e2, l2, Int.cast_ofNat_Int, kd_si, gr_si, ln_si, gi_same, gi_na, gi_ni, nl_i, nl_r, nl_j, nj_i, nj_l, nj_r, true_and, and_true, and_self, cs_0, cs_1, cs_2, cs_3, cs_4, ↓reduceIte, Nat.reduceLeDiff, Nat.reduceEqDiff, Nat.reduceAdd, Int.reduceLE, Int.reduceLT, Int.reduceEq, Int.reduceAdd, Int.reduceNeg, Int.reduceToNat, Int.toNat_natCast, ne_eq, not_false_eq_true, not_true_eq_false, or_true, true_or, or_false, false_or]
        refine ih (i + 1) (l - 1) cur N (by omega) (by omega) hD hF h13 (fun j hj hj2 => hc1 j hj (by omega)) (fun j hj hj2 => hc2 j hj (by omega)) (fun N' hD' hF' hA' => hQ N' hD' hF' ?_)
        intro j hj
        rw [psr, if_pos ⟨q, by omega⟩]
        exact hA' j hj
      · rw [if_neg q]
        simp only [↓eX1_pushByOver_150, ↓eX1_pushByOver_152, ↓eX1_pushByOver_154, ↓eX1_pushByOver_155, ↓eX1_pushByOver_158, l3, Int.cast_ofNat_Int, kd_si, gr_si, ln_si, gi_same, gi_na, gi_ni, nl_i, nl_r, nl_j, nj_i, nj_l, nj_r, true_and, and_true, and_self, cs_0, cs_1, cs_2, cs_3, cs_4, ↓reduceIte, Nat.reduceLeDiff, Nat.reduceEqDiff, Nat.reduceAdd, Int.reduceLE, Int.reduceLT, Int.reduceEq, Int.reduceAdd, Int.reduceNeg, Int.reduceToNat, Int.toNat_natCast, ne_eq, not_false_eq_true, not_true_eq_false, or_true, true_or, or_false, false_or]
        by_cases q2 : i + l < 288
        · have q3 : ((288 : Int) ≤ ((i + l : Nat) : Int)) = False := eq_false (by omega)
          have q4 : ((i + l : Nat) : Int) < 288 := by omega
          have q5 : 0 ≤ ((i + l : Nat) : Int) := by omega
          simp only [↓eX1_pushByOver_161, ↓eX1_pushByOver_162, ↓eX1_pushByOver_164, ↓eX1_pushByOver_166, ↓eX1_pushByOver_167, ↓eX1_pushByOver_168, ↓eX1_pushByOver_171, ↓eX1_pushByOver_173, ↓eX1_pushByOver_174, ↓eX1_pushByOver_175, ↓eX1_pushByOver_178, q3, q4, q5, l3, e0, e1, e2, hk', hl', hk5 hN, hr5_4 hN, hk13 hN, hl13 hN, g13, Int.cast_ofNat_Int, kd_si, gr_si, ln_si, gi_same, gi_na, gi_ni, nl_i, nl_r, nl_j, nj_i, nj_l, nj_r, true_and, and_true, and_self, cs_0, cs_1, cs_2, cs_3, cs_4, ↓reduceIte, Nat.reduceLeDiff, Nat.reduceEqDiff, Nat.reduceAdd, Int.reduceLE, Int.reduceLT, Int.reduceEq, Int.reduceAdd, Int.reduceNeg, Int.reduceToNat, Int.toNat_natCast, ne_eq, not_false_eq_true, not_true_eq_false, or_true, true_or, or_false, false_or]
          refine ih (i + 1) l (fun j => if j = i + l then row i else cur j) (si N a (i + l) (row i)) (by omega) hl2 (DF_si (by unfold isRow; omega) hD) (fun a' ha' j => ?_) (fun j hj => ?_) (fun j hj hj2 => ?_) (fun j hj hj2 => ?_) (fun N' hD' hF' hA' => hQ N' hD' hF' ?_)
          · rw [gi_na (by unfold isRow at ha'; omega)]; exact hF a' ha' j
          · rw [gi_na (by omega)]; exact h13 j hj
          · by_cases y : j = i + l
            · rw [y, gi_same]; exact (if_pos rfl).symm
            · rw [gi_ni y]
              show _ = if j = i + l then row i else cur j
              rw [if_neg y]; exact hc1 j hj (by omega)
          · rw [gi_ni (by omega)]; exact hc2 j hj (by omega)
          · intro j hj
            rw [psr, if_neg (fun w => q w.1), if_pos q2]
            exact hA' j hj
        · have q3 : ((288 : Int) ≤ ((i + l : Nat) : Int)) = True := eq_true (by omega)
          simp only [↓eX1_pushByOver_175, ↓eX1_pushByOver_178, q3, e2, Int.cast_ofNat_Int, kd_si, gr_si, ln_si, gi_same, gi_na, gi_ni, nl_i, nl_r, nl_j, nj_i, nj_l, nj_r, true_and, and_true, and_self, cs_0, cs_1, cs_2, cs_3, cs_4, ↓reduceIte, Nat.reduceLeDiff, Nat.reduceEqDiff, Nat.reduceAdd, Int.reduceLE, Int.reduceLT, Int.reduceEq, Int.reduceAdd, Int.reduceNeg, Int.reduceToNat, Int.toNat_natCast, ne_eq, not_false_eq_true, not_true_eq_false, or_true, true_or, or_false, false_or]
          refine ih (i + 1) l cur N (by omega) hl2 hD hF h13 (fun j hj hj2 => hc1 j hj (by omega)) (fun j hj hj2 => by omega) (fun N' hD' hF' hA' => hQ N' hD' hF' ?_)
          intro j hj
          rw [psr, if_neg (fun w => q w.1), if_neg q2]
          exact hA' j hj
theorem x_push_A {C : mC} {Q : mV → mM → Prop} {a : Nat} {b f6 a9 a0 : mV} {o : Option Nat} {t u : Nat} {f : Int} (hu : u ≤ 288) : ∀ (r i : Nat) (M : mM), i + r = u → kd M a = 14 → ln M a = 288 → WP C tX1_pushByOver 88 [a0, b, vr (some a), vr o, vi t, vi f, f6, vi u, vi i, a9] [] M Q = WP C tX1_pushByOver 107 [a0, b, vr (some a), vr o, vi t, vi f, f6, vi u, vi u, a9] [] (sw M a (fun j => if i ≤ j ∧ j < u then f else gi M a j)) Q := by
  intro r
  induction r with
  | zero =>
    intro i M hi hk hl
    have e : i = u := by omega
    subst e
    simp only [↓eX1_pushByOver_88, ↓eX1_pushByOver_90, ↓eX1_pushByOver_92, Int.le_refl, Int.cast_ofNat_Int, kd_si, gr_si, ln_si, gi_same, gi_na, gi_ni, nl_i, nl_r, nl_j, nj_i, nj_l, nj_r, true_and, and_true, and_self, cs_0, cs_1, cs_2, cs_3, cs_4, ↓reduceIte, Nat.reduceLeDiff, Nat.reduceEqDiff, Nat.reduceAdd, Int.reduceLE, Int.reduceLT, Int.reduceEq, Int.reduceAdd, Int.reduceNeg, Int.reduceToNat, Int.toNat_natCast, ne_eq, not_false_eq_true, not_true_eq_false, or_true, true_or, or_false, false_or]
    have e2 : (fun j => if i ≤ j ∧ j < i then f else gi M a j) = fun j => gi M a j := by
      funext j
      rw [if_neg (by omega)]
    rw [e2, sw_id]
  | succ r ih =>
    intro i M hi hk hl
    have e : ((u : Int) ≤ (i : Int)) = False := eq_false (by omega)
    have e0 : 0 ≤ (i : Int) := by omega
    have e1 : (i : Int) < 288 := by omega
    have e2 : wr ((i : Int) + 1) = ((i + 1 : Nat) : Int) := by rw [wr_id (by omega) (by omega)]; omega
    rw [eX1_pushByOver_88]
    simp only [↓eX1_pushByOver_90, ↓eX1_pushByOver_92, ↓eX1_pushByOver_95, ↓eX1_pushByOver_96, ↓eX1_pushByOver_98, ↓eX1_pushByOver_100, ↓eX1_pushByOver_101, ↓eX1_pushByOver_104, e, e0, e1, e2, hk, hl, Int.cast_ofNat_Int, kd_si, gr_si, ln_si, gi_same, gi_na, gi_ni, nl_i, nl_r, nl_j, nj_i, nj_l, nj_r, true_and, and_true, and_self, cs_0, cs_1, cs_2, cs_3, cs_4, ↓reduceIte, Nat.reduceLeDiff, Nat.reduceEqDiff, Nat.reduceAdd, Int.reduceLE, Int.reduceLT, Int.reduceEq, Int.reduceAdd, Int.reduceNeg, Int.reduceToNat, Int.toNat_natCast, ne_eq, not_false_eq_true, not_true_eq_false, or_true, true_or, or_false, false_or]
    rw [ih (i + 1) (si M a i f) (by omega) hk hl, sw_si]
    congr 1
    refine sw_eq (fun j => ?_)
    by_cases q : j = i
    · subst q
      rw [gi_same, if_neg (by omega), if_pos (by omega)]
    · rw [gi_ni q]
      by_cases q2 : i + 1 ≤ j ∧ j < u
      · rw [if_pos q2, if_pos (by omega)]
      · rw [if_neg q2, if_neg (by omega)]
theorem x_factAtN {d : Nat} {M : mM} {Q : mV → mM → Prop} (h : SH M) : CP (mc (d + 1)) 30 [vr (some 1), vi (-1)] M Q = Q (vr none) M := by
  simp only [↓cpX3_factAt, ↓eX3_factAt_0, ↓eX3_factAt_1, ↓eX3_factAt_4, ↓eX3_factAt_5, ↓eX3_factAt_6, ↓eX3_factAt_9, ↓eX3_factAt_12, ↓eX3_factAt_13, ↓eX3_factAt_14, ↓eX3_factAt_17, ↓eX3_factAt_18, ↓eX3_factAt_21, ↓eX3_factAt_22, ↓eX3_factAt_25, ↓eX3_factAt_26, ↓eX3_factAt_27, ↓eX3_factAt_30, ↓eX3_factAt_31, hk0 h, hk1 h, hk2 h, hl2 h, hk3 h, hl3 h, hk4 h, hl4 h, hk5 h, hk6 h, hl6 h, hk7 h, hl7 h, hk8 h, hl8 h, hk9 h, hl9 h, hk10 h, hl10 h, hk11 h, hl11 h, hk12 h, hl12 h, hk13 h, hl13 h, hk14 h, hl14 h, hk15 h, hl15 h, hk16 h, hk17 h, hl17 h, hk18 h, hk19 h, hl19 h, hk20 h, hk21 h, hk22 h, hl22 h, hk23 h, hl23 h, hk24 h, hl24 h, hk25 h, hl25 h, hk26 h, hk27 h, hl27 h, hk28 h, hl28 h, hk29 h, hl29 h, hk30 h, hl30 h, hk31 h, hk32 h, hl32 h, hk33 h, hk34 h, hl34 h, hr0_0 h, hr1_3 h, hr1_4 h, hr1_5 h, hr0_1 h, hr5_3 h, hr6_0 h, hr6_1 h, hr6_2 h, hr6_3 h, hr6_4 h, hr6_5 h, hr5_4 h, hr5_5 h, hr5_6 h, hr0_2 h, hr16_5 h, hr0_3 h, hr18_9 h, hr0_4 h, hr21_2 h, hr21_3 h, hr21_4 h, hr21_5 h, hr26_2 h, hr26_3 h, hr26_4 h, hr26_5 h, hr31_5 h, hr33_5 h, Int.cast_ofNat_Int, kd_si, gr_si, ln_si, gi_same, gi_na, gi_ni, nl_i, nl_r, nl_j, nj_i, nj_l, nj_r, true_and, and_true, and_self, cs_0, cs_1, cs_2, cs_3, cs_4, ↓reduceIte, Nat.reduceLeDiff, Nat.reduceEqDiff, Nat.reduceAdd, Int.reduceLE, Int.reduceLT, Int.reduceEq, Int.reduceAdd, Int.reduceNeg, Int.reduceToNat, Int.toNat_natCast, ne_eq, not_false_eq_true, not_true_eq_false, or_true, true_or, or_false, false_or]
/-- pushByOver -/
theorem x_pushByOver {d : Nat} {M : mM} {Q : mV → mM → Prop} {a b t e n : Nat} {c : Int} {row : Nat → Int} (h : SH M) (h1 : I1 M) (h3 : I3 M) (hf : FM M) (hn : (n : Int) ≤ gi M 1 2) (ha : 7 ≤ a ∧ a ≤ 12) (hka : kd M a = 14) (hla : ln M a = 288) (hkb : kd M b = 2) (hb2 : gi M b 2 = t) (hb3 : gi M b 3 = t + e) (ht : 1 ≤ t ∧ t ≤ 287) (he : 1 ≤ e ∧ e ≤ 48) (hb8 : 88 ≤ b) (hr : ∀ j, j < 288 → gi M a j = row j) (hok : ∀ j, okf M c n (row j))
    (hQ : ∀ N, DF isRow M N → (∀ a', ¬ isRow a' ∨ (a' ≠ a ∧ a' ≠ 13) → ∀ j, gi N a' j = gi M a' j) → (∀ j, j < 288 → gi N a j = psh M row t e j) → Q vj N) : CP (mc (d + 2)) 15 [vr (some 5), vr (some 1), vr (some a), vr (some b)] M Q := by
  have i1 := h1
  obtain ⟨⟨b1, b2, b3⟩, ⟨b4, b5, b6⟩, ⟨b7, b8, b9⟩, -⟩ := i1
  have t0 : ((t : Int) < 1) = False := eq_false (by omega)
  have t1 : ((288 : Int) ≤ (t : Int)) = False := eq_false (by omega)
  have t2 : wr ((t : Int) - 1) = ((t - 1 : Nat) : Int) := by rw [wr_id (by omega) (by omega)]; omega
  have t3 : 0 ≤ ((t - 1 : Nat) : Int) := by omega
  have t4 : ((t - 1 : Nat) : Int) < 288 := by omega
  have rt := hr (t - 1) (by omega)
  rcases hok (t - 1) with w | ⟨k, w1, w2, w3, w4, w5⟩
  · simp only [↓cpX1_pushByOver, ↓eX1_pushByOver_0, ↓eX1_pushByOver_1, ↓eX1_pushByOver_4, ↓eX1_pushByOver_6, ↓eX1_pushByOver_8, ↓eX1_pushByOver_9, ↓eX1_pushByOver_12, ↓eX1_pushByOver_14, ↓eX1_pushByOver_17, ↓eX1_pushByOver_20, ↓eX1_pushByOver_21, ↓eX1_pushByOver_22, ↓eX1_pushByOver_25, ↓eX1_pushByOver_28, ↓eX1_pushByOver_29, ↓eX1_pushByOver_30, ↓eX1_pushByOver_32, ↓eX1_pushByOver_33, ↓eX1_pushByOver_34, ↓eX1_pushByOver_35, ↓eX1_pushByOver_37, ↓eX1_pushByOver_38, ↓eX1_pushByOver_40, ↓eX1_pushByOver_43, ↓eX1_pushByOver_45, ↓eX1_pushByOver_47, ↓eX1_pushByOver_50, ↓eX1_pushByOver_52, ↓eX1_pushByOver_55, ↓eX1_pushByOver_58, ↓x_factAtN h, hkb, hb2, t0, t1, t2, t3, t4, hka, hla, rt, w, hk1 h, hk5 h, reduceCtorEq, Int.cast_ofNat_Int, kd_si, gr_si, ln_si, gi_same, gi_na, gi_ni, nl_i, nl_r, nl_j, nj_i, nj_l, nj_r, true_and, and_true, and_self, cs_0, cs_1, cs_2, cs_3, cs_4, ↓reduceIte, Nat.reduceLeDiff, Nat.reduceEqDiff, Nat.reduceAdd, Int.reduceLE, Int.reduceLT, Int.reduceEq, Int.reduceAdd, Int.reduceNeg, Int.reduceToNat, Int.toNat_natCast, ne_eq, not_false_eq_true, not_true_eq_false, or_true, true_or, or_false, false_or]
    refine hQ M DF_refl (fun _ _ _ => rfl) (fun j hj => ?_)
    unfold psh
    rw [if_pos (Or.inl w)]
    exact hr j hj
  · obtain ⟨f1, f2, f3, f4⟩ := hf k (by omega)
    obtain ⟨x, hx8, hxn, hx, hkx, g1, g2, g3, g4⟩ := h3.2 k (by omega)
    obtain ⟨-, -, -, -, q5⟩ := g3 w3
    obtain ⟨-, -, -, -, v5⟩ := f3 w3
    have fa := fun (Q : mV → mM → Prop) => x_factAt (d := d) (Q := Q) (k := k) h (by omega) (by omega)
    rcases v5 with v5 | v5
    · simp only [↓cpX1_pushByOver, ↓eX1_pushByOver_0, ↓eX1_pushByOver_1, ↓eX1_pushByOver_4, ↓eX1_pushByOver_6, ↓eX1_pushByOver_8, ↓eX1_pushByOver_9, ↓eX1_pushByOver_12, ↓eX1_pushByOver_14, ↓eX1_pushByOver_17, ↓eX1_pushByOver_20, ↓eX1_pushByOver_21, ↓eX1_pushByOver_22, ↓eX1_pushByOver_25, ↓eX1_pushByOver_28, ↓eX1_pushByOver_29, ↓eX1_pushByOver_30, ↓eX1_pushByOver_32, ↓eX1_pushByOver_33, ↓eX1_pushByOver_34, ↓eX1_pushByOver_35, ↓eX1_pushByOver_37, ↓eX1_pushByOver_38, ↓eX1_pushByOver_40, ↓eX1_pushByOver_43, ↓eX1_pushByOver_45, ↓eX1_pushByOver_47, ↓eX1_pushByOver_50, ↓eX1_pushByOver_52, ↓eX1_pushByOver_55, ↓eX1_pushByOver_58, ↓fa, hkb, hb2, t0, t1, t2, t3, t4, hka, hla, rt, w1, hx, hkx, q5, v5, hk1 h, hk5 h, reduceCtorEq, Int.cast_ofNat_Int, kd_si, gr_si, ln_si, gi_same, gi_na, gi_ni, nl_i, nl_r, nl_j, nj_i, nj_l, nj_r, true_and, and_true, and_self, cs_0, cs_1, cs_2, cs_3, cs_4, ↓reduceIte, Nat.reduceLeDiff, Nat.reduceEqDiff, Nat.reduceAdd, Int.reduceLE, Int.reduceLT, Int.reduceEq, Int.reduceAdd, Int.reduceNeg, Int.reduceToNat, Int.toNat_natCast, ne_eq, not_false_eq_true, not_true_eq_false, or_true, true_or, or_false, false_or]
      refine hQ M DF_refl (fun _ _ _ => rfl) (fun j hj => ?_)
      unfold psh
      rw [if_pos (Or.inr (by rw [w1, Int.toNat_natCast]; exact v5))]
      exact hr j hj
    · have na : a ≠ 13 := by omega
      have nb : ∀ N : mM, ∀ F : Nat → Int, gi (sw N 13 F) b 3 = gi N b 3 := fun N F => gi_swn (by omega)
      have nb' : ∀ N : mM, ∀ F : Nat → Int, gi (sw N a F) b 3 = gi N b 3 := fun N F => gi_swn (by omega)
      obtain ⟨u, hu, hu2, hu3⟩ : ∃ u : Nat, mMin ((t : Int) + e) 288 = u ∧ t ≤ u ∧ u ≤ 288 ∧ ((u = 288 ∧ 288 ≤ t + e) ∨ u = t + e) := by
        by_cases z : t + e ≤ 288
        · exact ⟨t + e, by rw [mMin_l (by omega)]; omega, by omega, z, Or.inr rfl⟩
        · exact ⟨288, by rw [mMin_r (by omega)]; rfl, by omega, Nat.le_refl _, Or.inl ⟨rfl, by omega⟩⟩
      have l1 : wr ((t : Int) + e - t) = (e : Int) := by rw [wr_id (by omega) (by omega)]; omega
      have fA := fun (b f6 a9 a0 : mV) (o : Option Nat) (f : Int) (N : mM) (hk : kd N a = 14) (hl : ln N a = 288) => x_push_A (C := mc (d + 1)) (Q := Q) (a := a) (b := b) (f6 := f6) (a9 := a9) (a0 := a0) (o := o) (t := t) (u := u) (f := f) hu3.1 (u - t) t N (by omega) hk hl
      simp only [↓cpX1_pushByOver, ↓eX1_pushByOver_0, ↓eX1_pushByOver_1, ↓eX1_pushByOver_4, ↓eX1_pushByOver_6, ↓eX1_pushByOver_8, ↓eX1_pushByOver_9, ↓eX1_pushByOver_12, ↓eX1_pushByOver_14, ↓eX1_pushByOver_17, ↓eX1_pushByOver_20, ↓eX1_pushByOver_21, ↓eX1_pushByOver_22, ↓eX1_pushByOver_25, ↓eX1_pushByOver_28, ↓eX1_pushByOver_29, ↓eX1_pushByOver_30, ↓eX1_pushByOver_32, ↓eX1_pushByOver_33, ↓eX1_pushByOver_34, ↓eX1_pushByOver_35, ↓eX1_pushByOver_37, ↓eX1_pushByOver_38, ↓eX1_pushByOver_40, ↓eX1_pushByOver_43, ↓eX1_pushByOver_45, ↓eX1_pushByOver_47, ↓eX1_pushByOver_50, ↓eX1_pushByOver_52, ↓eX1_pushByOver_55, ↓eX1_pushByOver_58, ↓eX1_pushByOver_59, ↓eX1_pushByOver_60, ↓eX1_pushByOver_61, ↓eX1_pushByOver_62, ↓eX1_pushByOver_65, ↓eX1_pushByOver_66, ↓eX1_pushByOver_69, ↓eX1_pushByOver_72, ↓eX1_pushByOver_73, ↓eX1_pushByOver_76, ↓eX1_pushByOver_79, ↓eX1_pushByOver_82, ↓eX1_pushByOver_84, ↓eX1_pushByOver_86, ↓fa, hkb, hb2, hb3, t0, t1, t2, t3, t4, hka, hla, rt, w1, hx, hkx, q5, v5, hk1 h, hk5 h, hr5_4 h, hk13 h, hl13 h, na, nb, hu, gr_sw, kd_sw, ln_sw, reduceCtorEq, Int.cast_ofNat_Int, kd_si, gr_si, ln_si, gi_same, gi_na, gi_ni, nl_i, nl_r, nl_j, nj_i, nj_l, nj_r, true_and, and_true, and_self, cs_0, cs_1, cs_2, cs_3, cs_4, ↓reduceIte, Nat.reduceLeDiff, Nat.reduceEqDiff, Nat.reduceAdd, Int.reduceLE, Int.reduceLT, Int.reduceEq, Int.reduceAdd, Int.reduceNeg, Int.reduceToNat, Int.toNat_natCast, ne_eq, not_false_eq_true, not_true_eq_false, or_true, true_or, or_false, false_or]
      rw [fA _ _ _ _ _ _ _ (by rw [kd_sw]; exact hka) (by rw [ln_sw]; exact hla)]
      simp only [↓eX1_pushByOver_107, ↓eX1_pushByOver_108, ↓eX1_pushByOver_111, ↓eX1_pushByOver_113, ↓eX1_pushByOver_114, ↓eX1_pushByOver_116, ↓eX1_pushByOver_118, hkb, nb', nb, hb3, kd_sw, l1, Int.cast_ofNat_Int, kd_si, gr_si, ln_si, gi_same, gi_na, gi_ni, nl_i, nl_r, nl_j, nj_i, nj_l, nj_r, true_and, and_true, and_self, cs_0, cs_1, cs_2, cs_3, cs_4, ↓reduceIte, Nat.reduceLeDiff, Nat.reduceEqDiff, Nat.reduceAdd, Int.reduceLE, Int.reduceLT, Int.reduceEq, Int.reduceAdd, Int.reduceNeg, Int.reduceToNat, Int.toNat_natCast, ne_eq, not_false_eq_true, not_true_eq_false, or_true, true_or, or_false, false_or]
      refine x_push_B (M := M) (row := row) h hka hla ha (288 - t) t e (ps0 row t e) _ (by omega) he.2 ?_ ?_ ?_ ?_ ?_ ?_
      · exact DF_sw (by unfold isRow; omega) (DF_sw (by unfold isRow; omega) DF_refl)
      · intro a' ha' j
        rw [gi_swn (by unfold isRow at ha'; omega), gi_swn (by unfold isRow at ha'; omega)]
      · intro j hj
        rw [gi_swn (by omega), gi_sws, if_pos (by omega)]
        rw [← hr j hj]
        congr 1
        omega
      · intro j hj hj2
        rw [gi_sws, gi_swn na]
        unfold ps0
        by_cases y : j < t
        · rw [if_neg (by omega), if_pos y]; exact hr j hj
        · rw [if_pos (by omega), if_neg y, if_pos (by omega), w1]
      · intro j hj hj2
        rw [gi_sws, gi_swn na, if_neg (by omega)]
        exact hr j hj
      · intro N' hD' hF' hA'
        refine hQ N' hD' hF' (fun j hj => ?_)
        rw [hA' j hj]
        unfold psh
        rw [if_neg (fun z => by
          rcases z with z | z
          · omega
          · rw [w1, Int.toNat_natCast] at z; omega)]
