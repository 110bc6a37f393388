/-! ===== the class finds a showing ===== -/
theorem x_at {d s : Nat} {N : mM} {Q : mV → mM → Prop} {k : Int} (h : SH N) (hs : gi N 5 0 = s) (h6 : s ≤ 600) : CP (mc (d + 1)) 10 [vr (some 5), vi k] N Q = Q (vr (if 0 ≤ k ∧ k < s then gr N 14 k.toNat else none)) N := by
  by_cases z : 0 ≤ k ∧ k < s
  · have a : (k < 0) = False := eq_false (by omega)
    have b : ((s : Int) ≤ k) = False := eq_false (by omega)
    have c : ((600 : Int) ≤ k) = False := eq_false (by omega)
    have e : (k < 600) = True := eq_true (by omega)
    have f : (0 ≤ k) = True := eq_true (by omega)
    rw [if_pos z]
    simp only [↓cpX1_at, ↓eX1_at_0, ↓eX1_at_1, ↓eX1_at_4, ↓eX1_at_5, ↓eX1_at_6, ↓eX1_at_9, ↓eX1_at_12, ↓eX1_at_13, ↓eX1_at_14, ↓eX1_at_17, ↓eX1_at_18, ↓eX1_at_21, ↓eX1_at_22, ↓eX1_at_25, ↓eX1_at_26, ↓eX1_at_27, ↓eX1_at_30, ↓eX1_at_31, hk5 h, hr5_5 h, hk14 h, hl14 h, hs, a, b, c, e, f, Int.cast_ofNat_Int, kd_si, gr_si, ln_si, gi_same, gi_na, gi_ni, nl_i, nl_r, nl_j, nj_i, nj_l, nj_r, true_and, and_true, and_self, cs_0, cs_1, cs_2, cs_3, cs_4, ↓reduceIte, Nat.reduceLeDiff, Nat.reduceEqDiff, Nat.reduceAdd, Int.reduceLE, Int.reduceLT, Int.reduceEq, Int.reduceAdd, Int.reduceNeg, Int.reduceToNat, Int.toNat_natCast, ne_eq, not_false_eq_true, not_true_eq_false, or_true, true_or, or_false, false_or]
  · rw [if_neg z]
    by_cases y : k < 0
    · simp only [↓cpX1_at, ↓eX1_at_0, ↓eX1_at_1, ↓eX1_at_4, ↓eX1_at_5, ↓eX1_at_6, ↓eX1_at_9, ↓eX1_at_12, ↓eX1_at_13, ↓eX1_at_14, ↓eX1_at_17, ↓eX1_at_18, ↓eX1_at_21, ↓eX1_at_22, ↓eX1_at_25, ↓eX1_at_26, ↓eX1_at_27, ↓eX1_at_30, ↓eX1_at_31, hk5 h, hr5_5 h, hk14 h, hl14 h, hs, y, Int.cast_ofNat_Int, kd_si, gr_si, ln_si, gi_same, gi_na, gi_ni, nl_i, nl_r, nl_j, nj_i, nj_l, nj_r, true_and, and_true, and_self, cs_0, cs_1, cs_2, cs_3, cs_4, ↓reduceIte, Nat.reduceLeDiff, Nat.reduceEqDiff, Nat.reduceAdd, Int.reduceLE, Int.reduceLT, Int.reduceEq, Int.reduceAdd, Int.reduceNeg, Int.reduceToNat, Int.toNat_natCast, ne_eq, not_false_eq_true, not_true_eq_false, or_true, true_or, or_false, false_or]
    · have b : ((s : Int) ≤ k) = True := eq_true (by omega)
      simp only [↓cpX1_at, ↓eX1_at_0, ↓eX1_at_1, ↓eX1_at_4, ↓eX1_at_5, ↓eX1_at_6, ↓eX1_at_9, ↓eX1_at_12, ↓eX1_at_13, ↓eX1_at_14, ↓eX1_at_17, ↓eX1_at_18, ↓eX1_at_21, ↓eX1_at_22, ↓eX1_at_25, ↓eX1_at_26, ↓eX1_at_27, ↓eX1_at_30, ↓eX1_at_31, hk5 h, hr5_5 h, hk14 h, hl14 h, hs, y, b, Int.cast_ofNat_Int, kd_si, gr_si, ln_si, gi_same, gi_na, gi_ni, nl_i, nl_r, nl_j, nj_i, nj_l, nj_r, true_and, and_true, and_self, cs_0, cs_1, cs_2, cs_3, cs_4, ↓reduceIte, Nat.reduceLeDiff, Nat.reduceEqDiff, Nat.reduceAdd, Int.reduceLE, Int.reduceLT, Int.reduceEq, Int.reduceAdd, Int.reduceNeg, Int.reduceToNat, Int.toNat_natCast, ne_eq, not_false_eq_true, not_true_eq_false, or_true, true_or, or_false, false_or]
theorem x_findG {d n : Nat} {M : mM} {Q : mV → mM → Prop} {k : Int} (h : TI M) (hn : (n : Int) ≤ gi M 1 2)
    (hQ : ∀ N W, FRM (dayS M) colT M N → TI N → gi M 1 0 = (W : Nat) → gi N 5 1 = n → gi N 5 2 = W → DAYC N n W → nx N ≤ nx M + 600 → Q (vr (if 0 ≤ k ∧ k < (cnt (dy N n) W 288 : Nat) then gr N 14 k.toNat else none)) N) : CP (mc (d + 6)) 121 [vr (some 0), vi k, vi n] M Q := by
  have h0 := h.1
  have fk := fun (Q : mV → mM → Prop) => x_isKnown (d := d + 4) (M := M) (Q := Q) (n := n) h0
  have n1 : 0 ≤ (n : Int) ∧ (n : Int) ≤ gi M 1 2 := ⟨by omega, hn⟩
  have sv := x_sv (d := d) (M := M) (Q := fun v N => v = vj ∧ WP (mc (d + 5)) tX11_findShowing 25 [vr (some 0), vi k, vi n] [] N Q) h hn (fun N W fN tN hW n51 n52 dN hx => ⟨rfl, by
    have hN := tN.1
    have i1 := tN.2.1.2.2.1
    have e12 : gi N 1 2 = gi M 1 2 := fN.1 1 2 (by have := h0.2.2.2; omega) (by unfold dayS isRow; rw [hk1 h0]; omega)
    have c6 := cnt_600 tN.2.2.2.1 (n := n) (by omega) W
    have fa := fun (Q : mV → mM → Prop) => x_at (d := d + 4) (N := N) (Q := Q) (k := k) hN dN.1 (by omega)
    have q := hQ N W fN tN hW n51 n52 dN hx
    simp only [↓eX11_findShowing_25, ↓eX11_findShowing_26, ↓eX11_findShowing_29, ↓eX11_findShowing_30, ↓eX11_findShowing_33, hk0 hN, hr0_1 hN, hk5 hN, ↓fa, Int.cast_ofNat_Int, kd_si, gr_si, ln_si, gi_same, gi_na, gi_ni, nl_i, nl_r, nl_j, nj_i, nj_l, nj_r, true_and, and_true, and_self, cs_0, cs_1, cs_2, cs_3, cs_4, ↓reduceIte, Nat.reduceLeDiff, Nat.reduceEqDiff, Nat.reduceAdd, Int.reduceLE, Int.reduceLT, Int.reduceEq, Int.reduceAdd, Int.reduceNeg, Int.reduceToNat, Int.toNat_natCast, ne_eq, not_false_eq_true, not_true_eq_false, or_true, true_or, or_false, false_or]
    exact q⟩)
  simp only [↓cpX11_findShowing, ↓eX11_findShowing_0, ↓eX11_findShowing_1, ↓eX11_findShowing_4, ↓eX11_findShowing_5, ↓eX11_findShowing_8, ↓eX11_findShowing_11, ↓eX11_findShowing_12, ↓eX11_findShowing_13, ↓eX11_findShowing_14, ↓eX11_findShowing_17, ↓eX11_findShowing_18, ↓eX11_findShowing_21, ↓eX11_findShowing_22, hk0 h0, hr0_0 h0, hr0_1 h0, hk1 h0, hk5 h0, ↓fk, if_pos n1, Int.cast_ofNat_Int, kd_si, gr_si, ln_si, gi_same, gi_na, gi_ni, nl_i, nl_r, nl_j, nj_i, nj_l, nj_r, true_and, and_true, and_self, cs_0, cs_1, cs_2, cs_3, cs_4, ↓reduceIte, Nat.reduceLeDiff, Nat.reduceEqDiff, Nat.reduceAdd, Int.reduceLE, Int.reduceLT, Int.reduceEq, Int.reduceAdd, Int.reduceNeg, Int.reduceToNat, Int.toNat_natCast, ne_eq, not_false_eq_true, not_true_eq_false, or_true, true_or, or_false, false_or]
  exact sv
