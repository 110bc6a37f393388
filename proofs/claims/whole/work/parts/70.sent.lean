/-! ===== sent, showings ===== -/
theorem x_sentG {d n c t : Nat} {M : mM} {Q : mV → mM → Prop} (h : TI M) (hc : (c : Int) < gi M 1 0) (ht : t < 288) (hn : (n : Int) ≤ gi M 1 2)
    (hQ : ∀ N, FRM (dayS M) colT M N → TI N → nx N ≤ nx M + 600 → Q (vi (dy N n c t)) N) : CP (mc (d + 6)) 112 [vr (some 0), vi c, vi t, vi n] M Q := by
  have h0 := h.1
  have fh := fun (Q : mV → mM → Prop) => x_hasChannel (d := d + 4) (M := M) (Q := Q) (n := c) h0
  have fk := fun (Q : mV → mM → Prop) => x_isKnown (d := d + 4) (M := M) (Q := Q) (n := n) h0
  have c1 : 0 ≤ (c : Int) ∧ (c : Int) < gi M 1 0 := ⟨by omega, hc⟩
  have n1 : 0 ≤ (n : Int) ∧ (n : Int) ≤ gi M 1 2 := ⟨by omega, hn⟩
  have t0 : ((t : Int) < 0) = False := eq_false (by omega)
  have t1 : ((288 : Int) ≤ (t : Int)) = False := eq_false (by omega)
  have t2 : ((t : Int) < 288) = True := eq_true (by omega)
  have t3 : (0 ≤ (t : Int)) = True := eq_true (by omega)
  have sv := x_sv (d := d) (M := M) (Q := fun v N => v = vj ∧ WP (mc (d + 5)) tX11_sent 47 [vr (some 0), vi c, vi t, vi n] [] N Q) h hn (fun N W fN tN hW n51 n52 dN hx => ⟨rfl, by
    have hN := tN.1
    have b6 := h.2.1.1
    have cW : c < W := by omega
    obtain ⟨r1, r2, r3⟩ := row_r hN (c := c) (by omega)
    have q0 : ((c : Int) < 0) = False := eq_false (by omega)
    have q1 : ((W : Int) ≤ (c : Int)) = False := eq_false (by omega)
    have q2 : (0 ≤ (c : Int)) = True := eq_true (by omega)
    have q3 : ((c : Int) < 6) = True := eq_true (by omega)
    have g := dN.2.1 c t cW ht
    have q := hQ N fN tN hx
    simp only [↓eX11_sent_47, ↓eX11_sent_48, ↓eX11_sent_51, ↓eX11_sent_52, ↓eX11_sent_53, ↓eX11_sent_56, ↓cpX1_factAt, ↓eX1_factAt_0, ↓eX1_factAt_1, ↓eX1_factAt_4, ↓eX1_factAt_5, ↓eX1_factAt_6, ↓eX1_factAt_9, ↓eX1_factAt_12, ↓eX1_factAt_13, ↓eX1_factAt_16, ↓eX1_factAt_17, ↓eX1_factAt_20, ↓eX1_factAt_23, ↓eX1_factAt_24, ↓eX1_factAt_25, ↓eX1_factAt_26, ↓eX1_factAt_29, ↓eX1_factAt_30, ↓eX1_factAt_31, ↓eX1_factAt_32, ↓eX1_factAt_33, hk0 hN, hr0_1 hN, hk5 hN, hr5_3 hN, hk6 hN, hl6 hN, n52, q0, q1, q2, q3, t0, t1, t2, t3, r1, r2, r3, g, Int.cast_ofNat_Int, kd_si, gr_si, ln_si, gi_same, gi_na, gi_ni, nl_i, nl_r, nl_j, nj_i, nj_l, nj_r, true_and, and_true, and_self, cs_0, cs_1, cs_2, cs_3, cs_4, ↓reduceIte, Nat.reduceLeDiff, Nat.reduceEqDiff, Nat.reduceAdd, Int.reduceLE, Int.reduceLT, Int.reduceEq, Int.reduceAdd, Int.reduceNeg, Int.reduceToNat, Int.toNat_natCast, ne_eq, not_false_eq_true, not_true_eq_false, or_true, true_or, or_false, false_or]
    exact q⟩)
  simp only [↓cpX11_sent, ↓eX11_sent_0, ↓eX11_sent_1, ↓eX11_sent_4, ↓eX11_sent_5, ↓eX11_sent_8, ↓eX11_sent_11, ↓eX11_sent_12, ↓eX11_sent_15, ↓eX11_sent_16, ↓eX11_sent_19, ↓eX11_sent_22, ↓eX11_sent_23, ↓eX11_sent_26, ↓eX11_sent_27, ↓eX11_sent_30, ↓eX11_sent_33, ↓eX11_sent_34, ↓eX11_sent_35, ↓eX11_sent_36, ↓eX11_sent_39, ↓eX11_sent_40, ↓eX11_sent_43, ↓eX11_sent_44, hk0 h0, hr0_0 h0, hr0_1 h0, hk1 h0, hk5 h0, ↓fh, ↓fk, if_pos c1, if_pos n1, t0, t1, Int.cast_ofNat_Int, kd_si, gr_si, ln_si, gi_same, gi_na, gi_ni, nl_i, nl_r, nl_j, nj_i, nj_l, nj_r, true_and, and_true, and_self, cs_0, cs_1, cs_2, cs_3, cs_4, ↓reduceIte, Nat.reduceLeDiff, Nat.reduceEqDiff, Nat.reduceAdd, Int.reduceLE, Int.reduceLT, Int.reduceEq, Int.reduceAdd, Int.reduceNeg, Int.reduceToNat, Int.toNat_natCast, ne_eq, not_false_eq_true, not_true_eq_false, or_true, true_or, or_false, false_or]
  exact sv
theorem x_showingsG {d n : Nat} {M : mM} {Q : mV → mM → Prop} (h : TI M) (hn : (n : Int) ≤ gi M 1 2)
    (hQ : ∀ N W, FRM (dayS M) colT M N → TI N → gi M 1 0 = (W : Nat) → nx N ≤ nx M + 600 → Q (vi (cnt (dy N n) W 288 : Nat)) N) : CP (mc (d + 6)) 115 [vr (some 0), vi n] M Q := by
  have h0 := h.1
  have fk := fun (Q : mV → mM → Prop) => x_isKnown (d := d + 4) (M := M) (Q := Q) (n := n) h0
  have n1 : 0 ≤ (n : Int) ∧ (n : Int) ≤ gi M 1 2 := ⟨by omega, hn⟩
  have sv := x_sv (d := d) (M := M) (Q := fun v N => v = vj ∧ WP (mc (d + 5)) tX11_showings 25 [vr (some 0), vi n] [] N Q) h hn (fun N W fN tN hW n51 n52 dN hx => ⟨rfl, by
    have hN := tN.1
    have g := dN.1
    have q := hQ N W fN tN hW hx
    simp only [↓eX11_showings_25, ↓eX11_showings_26, ↓eX11_showings_29, ↓eX11_showings_32, hk0 hN, hr0_1 hN, hk5 hN, g, Int.cast_ofNat_Int, kd_si, gr_si, ln_si, gi_same, gi_na, gi_ni, nl_i, nl_r, nl_j, nj_i, nj_l, nj_r, true_and, and_true, and_self, cs_0, cs_1, cs_2, cs_3, cs_4, ↓reduceIte, Nat.reduceLeDiff, Nat.reduceEqDiff, Nat.reduceAdd, Int.reduceLE, Int.reduceLT, Int.reduceEq, Int.reduceAdd, Int.reduceNeg, Int.reduceToNat, Int.toNat_natCast, ne_eq, not_false_eq_true, not_true_eq_false, or_true, true_or, or_false, false_or]
    exact q⟩)
  simp only [↓cpX11_showings, ↓eX11_showings_0, ↓eX11_showings_1, ↓eX11_showings_4, ↓eX11_showings_5, ↓eX11_showings_8, ↓eX11_showings_11, ↓eX11_showings_12, ↓eX11_showings_13, ↓eX11_showings_14, ↓eX11_showings_17, ↓eX11_showings_18, ↓eX11_showings_21, ↓eX11_showings_22, hk0 h0, hr0_0 h0, hr0_1 h0, hk1 h0, hk5 h0, ↓fk, if_pos n1, Int.cast_ofNat_Int, kd_si, gr_si, ln_si, gi_same, gi_na, gi_ni, nl_i, nl_r, nl_j, nj_i, nj_l, nj_r, true_and, and_true, and_self, cs_0, cs_1, cs_2, cs_3, cs_4, ↓reduceIte, Nat.reduceLeDiff, Nat.reduceEqDiff, Nat.reduceAdd, Int.reduceLE, Int.reduceLT, Int.reduceEq, Int.reduceAdd, Int.reduceNeg, Int.reduceToNat, Int.toNat_natCast, ne_eq, not_false_eq_true, not_true_eq_false, or_true, true_or, or_false, false_or]
  exact sv
theorem y_sentG {d n c t : Nat} {M : mM} {Q : mV → mM → Prop} (h : TI M) (hc : (c : Int) < gi M 1 0) (ht : t < 288) (hn : (n : Int) ≤ gi M 1 2)
    (hQ : ∀ N, YF mdS M N → TI N → Q (vi (dy N n c t)) N) : CP (mc (d + 3)) 160 [vr (some 35), vi c, vi t, vi n] M Q := by
  have h0 := h.1
  have i1 := h.2.1
  obtain ⟨⟨b1, b2, b3⟩, -, ⟨b7, b8, b9⟩, -⟩ := i1
  have fh := fun (Q : mV → mM → Prop) => y_isChannel (d := d + 1) (M := M) (Q := Q) (n := c) h0
  have fk := fun (Q : mV → mM → Prop) => y_isKnown (d := d + 1) (M := M) (Q := Q) (n := n) h0
  have fs := fun (Q : mV → mM → Prop) => y_isSlot (d := d + 1) (M := M) (Q := Q) (a := t)
  have c1 : 0 ≤ (c : Int) ∧ (c : Int) < gi M 35 34 := ⟨by omega, by omega⟩
  have n1 : 0 ≤ (n : Int) ∧ (n : Int) ≤ gi M 35 37 := ⟨by omega, by omega⟩
  have t1 : 0 ≤ (t : Int) ∧ (t : Int) < 288 := ⟨by omega, by omega⟩
  have mk := y_mk (d := d) (M := M) (Q := fun v N => v = vj ∧ WP (mc (d + 2)) tX12_sent 30 [vr (some 35), vi c, vi t, vi n] [] N Q) h hn (fun N W yN tN hW dN => ⟨rfl, by
    have hN := tN.1
    have c6 : c < 6 := by omega
    have i0 : (0 ≤ ((288 * c + t : Nat) : Int)) = True := eq_true (by omega)
    have i1 : (((288 * c + t : Nat) : Int) < 1728) = True := eq_true (by omega)
    have g := dN.1 c t (by omega) ht
    have q := hQ N yN tN
    simp only [↓eX12_sent_30, ↓eX12_sent_31, ↓eX12_sent_34, ↓eX12_sent_37, ↓eX12_sent_38, ↓eX12_sent_39, ↓eX12_sent_40, ↓eX12_sent_41, ↓eX12_sent_42, hk35 hN, hr35_53 hN, hk65 hN, hl65 hN, w288 c6, w289 c6 ht, i0, i1, g, Int.cast_ofNat_Int, kd_si, gr_si, ln_si, gi_same, gi_na, gi_ni, nl_i, nl_r, nl_j, nj_i, nj_l, nj_r, true_and, and_true, and_self, cs_0, cs_1, cs_2, cs_3, cs_4, ↓reduceIte, Nat.reduceLeDiff, Nat.reduceEqDiff, Nat.reduceAdd, Int.reduceLE, Int.reduceLT, Int.reduceEq, Int.reduceAdd, Int.reduceNeg, Int.reduceToNat, Int.toNat_natCast, ne_eq, not_false_eq_true, not_true_eq_false, or_true, true_or, or_false, false_or]
    exact q⟩)
  simp only [↓cpX12_sent, ↓eX12_sent_0, ↓eX12_sent_1, ↓eX12_sent_2, ↓eX12_sent_5, ↓eX12_sent_8, ↓eX12_sent_9, ↓eX12_sent_12, ↓eX12_sent_15, ↓eX12_sent_16, ↓eX12_sent_17, ↓eX12_sent_20, ↓eX12_sent_23, ↓eX12_sent_24, ↓eX12_sent_25, ↓eX12_sent_26, ↓eX12_sent_27, hk35 h0, ↓fh, ↓fk, ↓fs, if_pos c1, if_pos n1, if_pos t1, Int.cast_ofNat_Int, kd_si, gr_si, ln_si, gi_same, gi_na, gi_ni, nl_i, nl_r, nl_j, nj_i, nj_l, nj_r, true_and, and_true, and_self, cs_0, cs_1, cs_2, cs_3, cs_4, ↓reduceIte, Nat.reduceLeDiff, Nat.reduceEqDiff, Nat.reduceAdd, Int.reduceLE, Int.reduceLT, Int.reduceEq, Int.reduceAdd, Int.reduceNeg, Int.reduceToNat, Int.toNat_natCast, ne_eq, not_false_eq_true, not_true_eq_false, or_true, true_or, or_false, false_or]
  exact mk
theorem y_showingsG {d n : Nat} {M : mM} {Q : mV → mM → Prop} (h : TI M) (hn : (n : Int) ≤ gi M 1 2)
    (hQ : ∀ N W, YF mdS M N → TI N → gi M 1 0 = (W : Nat) → Q (vi (cnt (dy N n) W 288 : Nat)) N) : CP (mc (d + 3)) 168 [vr (some 35), vi n] M Q := by
  have h0 := h.1
  have b9 := h.2.1.2.2.1
  have fk := fun (Q : mV → mM → Prop) => y_isKnown (d := d + 1) (M := M) (Q := Q) (n := n) h0
  have n1 : 0 ≤ (n : Int) ∧ (n : Int) ≤ gi M 35 37 := ⟨by omega, by omega⟩
  have mk := y_mk (d := d) (M := M) (Q := fun v N => v = vj ∧ WP (mc (d + 2)) tX12_showings 15 [vr (some 35), vi n] [] N Q) h hn (fun N W yN tN hW dN => ⟨rfl, by
    have hN := tN.1
    have g := dN.2.1
    have q := hQ N W yN tN hW
    simp only [↓eX12_showings_15, ↓eX12_showings_16, ↓eX12_showings_19, hk35 hN, g, Int.cast_ofNat_Int, kd_si, gr_si, ln_si, gi_same, gi_na, gi_ni, nl_i, nl_r, nl_j, nj_i, nj_l, nj_r, true_and, and_true, and_self, cs_0, cs_1, cs_2, cs_3, cs_4, ↓reduceIte, Nat.reduceLeDiff, Nat.reduceEqDiff, Nat.reduceAdd, Int.reduceLE, Int.reduceLT, Int.reduceEq, Int.reduceAdd, Int.reduceNeg, Int.reduceToNat, Int.toNat_natCast, ne_eq, not_false_eq_true, not_true_eq_false, or_true, true_or, or_false, false_or]
    exact q⟩)
  simp only [↓cpX12_showings, ↓eX12_showings_0, ↓eX12_showings_1, ↓eX12_showings_2, ↓eX12_showings_5, ↓eX12_showings_8, ↓eX12_showings_9, ↓eX12_showings_10, ↓eX12_showings_11, ↓eX12_showings_12, hk35 h0, ↓fk, if_pos n1, Int.cast_ofNat_Int, kd_si, gr_si, ln_si, gi_same, gi_na, gi_ni, nl_i, nl_r, nl_j, nj_i, nj_l, nj_r, true_and, and_true, and_self, cs_0, cs_1, cs_2, cs_3, cs_4, ↓reduceIte, Nat.reduceLeDiff, Nat.reduceEqDiff, Nat.reduceAdd, Int.reduceLE, Int.reduceLT, Int.reduceEq, Int.reduceAdd, Int.reduceNeg, Int.reduceToNat, Int.toNat_natCast, ne_eq, not_false_eq_true, not_true_eq_false, or_true, true_or, or_false, false_or]
  exact mk
