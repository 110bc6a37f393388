theorem vlo_n (M : mM) : vlo M (-1) = -1 := by
  unfold vlo
  rw [if_neg (fun w => w.1 rfl)]
theorem x_rankedAt {d : Nat} {M : mM} {Q : mV → mM → Prop} {k : Nat} (h : SH M) (hk : (k : Int) < gi M 1 1) (h3 : gi M 1 1 ≤ 6) : CP (mc (d + 1)) 29 [vr (some 1), vi k] M Q = Q (vr (gr M 3 k)) M := by
  have e0 : ((k : Int) < 0) = False := eq_false (by omega)
  have e1 : (gi M 1 1 ≤ (k : Int)) = False := eq_false (by omega)
  have e2 : ((6 : Int) ≤ (k : Int)) = False := eq_false (by omega)
  have e3 : (0 ≤ (k : Int)) = True := eq_true (by omega)
  have e4 : ((k : Int) < 6) = True := eq_true (by omega)
  simp only [↓cpX3_rankedAt, ↓eX3_rankedAt_0, ↓eX3_rankedAt_1, ↓eX3_rankedAt_4, ↓eX3_rankedAt_5, ↓eX3_rankedAt_6, ↓eX3_rankedAt_9, ↓eX3_rankedAt_12, ↓eX3_rankedAt_13, ↓eX3_rankedAt_14, ↓eX3_rankedAt_17, ↓eX3_rankedAt_18, ↓eX3_rankedAt_21, ↓eX3_rankedAt_22, ↓eX3_rankedAt_25, ↓eX3_rankedAt_26, ↓eX3_rankedAt_27, ↓eX3_rankedAt_30, ↓eX3_rankedAt_31, hk0 h, hk1 h, hk2 h, hl2 h, hk3 h, hl3 h, hk4 h, hl4 h, hk5 h, hk6 h, hl6 h, hk7 h, hl7 h, hk8 h, hl8 h, hk9 h, hl9 h, hk10 h, hl10 h, hk11 h, hl11 h, hk12 h, hl12 h, hk13 h, hl13 h, hk14 h, hl14 h, hk15 h, hl15 h, hk16 h, hk17 h, hl17 h, hk18 h, hk19 h, hl19 h, hk20 h, hk21 h, hk22 h, hl22 h, hk23 h, hl23 h, hk24 h, hl24 h, hk25 h, hl25 h, hk26 h, hk27 h, hl27 h, hk28 h, hl28 h, hk29 h, hl29 h, hk30 h, hl30 h, hk31 h, hk32 h, hl32 h, hk33 h, hk34 h, hl34 h, hr0_0 h, hr1_3 h, hr1_4 h, hr1_5 h, hr0_1 h, hr5_3 h, hr6_0 h, hr6_1 h, hr6_2 h, hr6_3 h, hr6_4 h, hr6_5 h, hr5_4 h, hr5_5 h, hr5_6 h, hr0_2 h, hr16_5 h, hr0_3 h, hr18_9 h, hr0_4 h, hr21_2 h, hr21_3 h, hr21_4 h, hr21_5 h, hr26_2 h, hr26_3 h, hr26_4 h, hr26_5 h, hr31_5 h, hr33_5 h, e0, e1, e2, e3, e4, Int.cast_ofNat_Int, kd_si, gr_si, ln_si, gi_same, gi_na, gi_ni, nl_i, nl_r, nl_j, nj_i, nj_l, nj_r, true_and, and_true, and_self, cs_0, cs_1, cs_2, cs_3, cs_4, ↓reduceIte, Nat.reduceLeDiff, Nat.reduceEqDiff, Nat.reduceAdd, Int.reduceLE, Int.reduceLT, Int.reduceEq, Int.reduceAdd, Int.reduceNeg, Int.reduceToNat, Int.toNat_natCast, ne_eq, not_false_eq_true, not_true_eq_false, or_true, true_or, or_false, false_or]
theorem x_lay_out {d : Nat} {M : mM} {Q : mV → mM → Prop} {W n S : Nat} {p : Nat → Nat} (h : SH M) (h1 : I1 M) (h3 : I3 M) (hf : FM M) (hS : gi M 1 1 = S) (hp : RKp M S p) (hn : (n : Int) ≤ gi M 1 2) (hkn : gi M 5 1 = n) (hW : gi M 5 2 = W) (hW2 : gi M 1 0 = W)
    (hQ : ∀ N, DF isRow M N → (∀ c t : Nat, c < W → t < 288 → gi N (7 + c) t = vlo M (cf M p c n t S)) → Q vj N) :
    ∀ (r R : Nat) (a3 a4 a5 : mV) (N : mM), R + r = S → nl a3 → nl a4 → DF isRow M N → (∀ c t : Nat, c < W → t < 288 → gi N (7 + c) t = vlo M (cf M p c n t R)) → WP (mc (d + 1)) tX1_layNotices 2 [vr (some 5), vr (some 1), vi R, a3, a4, a5] [] N Q := by
  have i1 := h1
  obtain ⟨⟨b1, b2, b3⟩, ⟨b4, b5, b6⟩, ⟨b7, b8, b9⟩, -⟩ := i1
  intro r
  induction r with
  | zero =>
    intro R a3 a4 a5 N hi n3 n4 hD hA
    have e : R = S := by omega
    subst e
    have k5 : gi N 1 1 = R := by rw [hD.2 1 1 (by unfold isRow; omega)]; exact hS
    have hN := DF_SH hD h
    simp only [↓eX1_layNotices_2, ↓eX1_layNotices_3, ↓eX1_layNotices_4, ↓eX1_layNotices_7, ↓eX1_layNotices_115, hk1 hN, k5, Int.le_refl, Int.cast_ofNat_Int, kd_si, gr_si, ln_si, gi_same, gi_na, gi_ni, nl_i, nl_r, nl_j, nj_i, nj_l, nj_r, true_and, and_true, and_self, cs_0, cs_1, cs_2, cs_3, cs_4, ↓reduceIte, Nat.reduceLeDiff, Nat.reduceEqDiff, Nat.reduceAdd, Int.reduceLE, Int.reduceLT, Int.reduceEq, Int.reduceAdd, Int.reduceNeg, Int.reduceToNat, Int.toNat_natCast, ne_eq, not_false_eq_true, not_true_eq_false, or_true, true_or, or_false, false_or]
    exact hQ N hD hA
  | succ r ih =>
    intro R a3 a4 a5 N hi n3 n4 hD hA
    have hN := DF_SH hD h
    have k11 : gi N 1 1 = S := by rw [hD.2 1 1 (by unfold isRow; omega)]; exact hS
    have e : ((S : Int) ≤ (R : Int)) = False := eq_false (by omega)
    have e2 : wr ((R : Int) + 1) = ((R + 1 : Nat) : Int) := by rw [wr_id (by omega) (by omega)]; omega
    obtain ⟨p1, p2⟩ := hp.1 R (by omega)
    obtain ⟨x, hx8, hxn, hx, hkx, hx0, -⟩ := h3.1 (p R) (by omega)
    have fa := fun (Q : mV → mM → Prop) => x_rankedAt (d := d) (Q := Q) (k := R) hN (by omega) (by omega)
    have hr : gr N 3 R = some x := by rw [DF_r hD, p2]; exact hx
    rw [eX1_layNotices_2]
    simp only [↓eX1_layNotices_3, ↓eX1_layNotices_4, ↓eX1_layNotices_7, ↓eX1_layNotices_10, ↓eX1_layNotices_11, ↓eX1_layNotices_12, ↓eX1_layNotices_15, ↓eX1_layNotices_16, ↓eX1_layNotices_17, e, k11, ↓fa, hr, hk1 hN, reduceCtorEq, Int.cast_ofNat_Int, kd_si, gr_si, ln_si, gi_same, gi_na, gi_ni, nl_i, nl_r, nl_j, nj_i, nj_l, nj_r, true_and, and_true, and_self, cs_0, cs_1, cs_2, cs_3, cs_4, ↓reduceIte, Nat.reduceLeDiff, Nat.reduceEqDiff, Nat.reduceAdd, Int.reduceLE, Int.reduceLT, Int.reduceEq, Int.reduceAdd, Int.reduceNeg, Int.reduceToNat, Int.toNat_natCast, ne_eq, not_false_eq_true, not_true_eq_false, or_true, true_or, or_false, false_or, n3, n4]
    have li := x_lay_in (d := d) (Q := Q) (W := W) (n := n) (x := x) (s := p R) (rk := R) (B := fun c t => gi N (7 + c) t) h h1 h3 hf hn hkn hW hW2 hkx hx0 hx8 (fun N' a4 a5 hD' n4 hA' => by
      have hN' := DF_SH hD' h
      simp only [↓eX1_layNotices_109, ↓eX1_layNotices_112, e2, Int.cast_ofNat_Int, kd_si, gr_si, ln_si, gi_same, gi_na, gi_ni, nl_i, nl_r, nl_j, nj_i, nj_l, nj_r, true_and, and_true, and_self, cs_0, cs_1, cs_2, cs_3, cs_4, ↓reduceIte, Nat.reduceLeDiff, Nat.reduceEqDiff, Nat.reduceAdd, Int.reduceLE, Int.reduceLT, Int.reduceEq, Int.reduceAdd, Int.reduceNeg, Int.reduceToNat, Int.toNat_natCast, ne_eq, not_false_eq_true, not_true_eq_false, or_true, true_or, or_false, false_or]
      refine ih (R + 1) _ a4 a5 N' (by omega) (nlR _) n4 hD' (fun c t hc ht => ?_)
      rw [hA' c t hc, cf]
      by_cases q : hrd M (p R) c n t ≠ -1
      · rw [if_pos q, if_pos q]
      · rw [if_neg q, if_neg q]
        exact hA c t hc ht) n 0 a5 N (by omega) hD (fun c t hc => by
          rw [hrd, if_neg (fun w => w rfl)])
    exact li
/-- layNotices: the rows of the first W channels, n facts known -/
theorem x_layNotices {d : Nat} {M : mM} {Q : mV → mM → Prop} {W n S : Nat} {p : Nat → Nat} (h : SH M) (h1 : I1 M) (h3 : I3 M) (hf : FM M) (hS : gi M 1 1 = S) (hp : RKp M S p) (hn : (n : Int) ≤ gi M 1 2) (hkn : gi M 5 1 = n) (hW : gi M 5 2 = W) (hW2 : gi M 1 0 = W) (h0 : ∀ c t : Nat, c < W → t < 288 → gi M (7 + c) t = -1)
    (hQ : ∀ N, DF isRow M N → (∀ c t : Nat, c < W → t < 288 → gi N (7 + c) t = bs M c n t) → Q vj N) : CP (mc (d + 2)) 12 [vr (some 5), vr (some 1)] M Q := by
  have i1 := h1
  obtain ⟨⟨b1, b2, b3⟩, ⟨b4, b5, b6⟩, ⟨b7, b8, b9⟩, -⟩ := i1
  simp only [↓cpX1_layNotices, ↓eX1_layNotices_0, ↓eX1_layNotices_1, Int.cast_ofNat_Int, kd_si, gr_si, ln_si, gi_same, gi_na, gi_ni, nl_i, nl_r, nl_j, nj_i, nj_l, nj_r, true_and, and_true, and_self, cs_0, cs_1, cs_2, cs_3, cs_4, ↓reduceIte, Nat.reduceLeDiff, Nat.reduceEqDiff, Nat.reduceAdd, Int.reduceLE, Int.reduceLT, Int.reduceEq, Int.reduceAdd, Int.reduceNeg, Int.reduceToNat, Int.toNat_natCast, ne_eq, not_false_eq_true, not_true_eq_false, or_true, true_or, or_false, false_or]
  refine x_lay_out h h1 h3 hf hS hp hn hkn hW hW2 (fun N hD hA => hQ N hD (fun c t hc ht => ?_)) S 0 vj vj vj M (by omega) nlJ nlJ DF_refl (fun c t hc ht => ?_)
  · rw [hA c t hc ht, cf_win hp]
    unfold bs
    obtain ⟨e, he⟩ : ∃ e, 6 = S + e := ⟨6 - S, by omega⟩
    rw [he, wn_stop hf (by omega) (by omega)]
  · rw [h0 c t hc ht, cf, vlo_n]
