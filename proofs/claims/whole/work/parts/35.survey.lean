/-! ===== the class collects all showings ===== -/
theorem cn_s {D : Nat → Nat → Int} {W t c : Nat} : cn D W t (c + 1) = cn D W t c + (if stt D c t = true then 1 else 0) := by
  unfold cn cnr
  rw [ctp, Nat.add_assoc]
theorem cn_W {D : Nat → Nat → Int} {W t : Nat} : cn D W t W = cn D W (t + 1) 0 := by
  unfold cn
  rw [cnt]
  rfl
theorem cn_0 {D : Nat → Nat → Int} {W t : Nat} : cn D W t 0 = cnt D W t := rfl
theorem rowB {B N : mM} (hB : SH B) (hF : FRM (colS B) colT B N) {c : Nat} (hc : c < 6) (t : Nat) : gi N (7 + c) t = gi B (7 + c) t := by
  have h8 := hB.2.2.2
  refine hF.1 _ _ (by omega) (fun w => ?_)
  unfold colS at w
  rw [(row_r hB hc).2.1] at w
  omega
/-- the channels loop of one slot -/
theorem x_col_in {d n : Nat} {B : mM} {Q : mV → mM → Prop} {D : Nat → Nat → Int} {W t : Nat} (hB : SH B) (h1 : I1 B) (h3 : I3 B) (hf : FM B) (hD : D = dy B n) (hn : (n : Int) ≤ gi B 1 2) (hW : gi B 5 2 = W) (hW2 : gi B 1 0 = W) (ht : t < 288)
    (hA : ∀ c t : Nat, c < W → t < 288 → gi B (7 + c) t = D c t)
    (hQ : ∀ N (a4 : mV), FRM (colS B) colT B N → SCI B D W (cn D W (t + 1) 0) N → nx N ≤ nx B + cn D W (t + 1) 0 → WP (mc (d + 3)) tX1_collectShowings 96 [vr (some 5), vr (some 1), vi t, vi W, a4] [] N Q) :
    ∀ (r c : Nat) (a4 : mV) (N : mM), c + r = W → FRM (colS B) colT B N → SCI B D W (cn D W t c) N → nx N ≤ nx B + cn D W t c → WP (mc (d + 3)) tX1_collectShowings 24 [vr (some 5), vr (some 1), vi t, vi c, a4] [] N Q := by
  have i1 := h1
  obtain ⟨⟨b1, b2, b3⟩, ⟨b4, b5, b6⟩, ⟨b7, b8, b9⟩, -⟩ := i1
  have h88 := hB.2.2.2
  intro r
  induction r with
  | zero =>
    intro c a4 N hi hF hS hx
    have e : c = W := by omega
    subst e
    have hN := FRM_SH hF hB colrf
    have k5 : gi N 5 2 = c := by rw [hF.1 5 2 (by omega) (by unfold colS; rw [hk5 hB]; omega)]; exact hW
    rw [eX1_collectShowings_24]
    simp only [↓eX1_collectShowings_25, ↓eX1_collectShowings_26, ↓eX1_collectShowings_29, hk5 hN, k5, Int.le_refl, Int.cast_ofNat_Int, kd_si, gr_si, ln_si, gi_same, gi_na, gi_ni, nl_i, nl_r, nl_j, nj_i, nj_l, nj_r, true_and, and_true, and_self, cs_0, cs_1, cs_2, cs_3, cs_4, ↓reduceIte, Nat.reduceLeDiff, Nat.reduceEqDiff, Nat.reduceAdd, Int.reduceLE, Int.reduceLT, Int.reduceEq, Int.reduceAdd, Int.reduceNeg, Int.reduceToNat, Int.toNat_natCast, ne_eq, not_false_eq_true, not_true_eq_false, or_true, true_or, or_false, false_or]
    rw [cn_W] at hS hx
    exact hQ N a4 hF hS hx
  | succ r ih =>
    intro c a4 N hi hF hS hx
    have hN := FRM_SH hF hB colrf
    have k5 : gi N 5 2 = W := by rw [hF.1 5 2 (by omega) (by unfold colS; rw [hk5 hB]; omega)]; exact hW
    have e : ((W : Int) ≤ (c : Int)) = False := eq_false (by omega)
    have e2 : wr ((c : Int) + 1) = ((c + 1 : Nat) : Int) := by rw [wr_id (by omega) (by omega)]; omega
    obtain ⟨r1, r2, r3⟩ := row_r hN (c := c) (by omega)
    have c0 : (0 ≤ (c : Int)) = True := eq_true (by omega)
    have c6 : ((c : Int) < 6) = True := eq_true (by omega)
    have t0 : (0 ≤ (t : Int)) = True := eq_true (by omega)
    have t6 : ((t : Int) < 288) = True := eq_true (by omega)
    have hg : ∀ j, j < 288 → gi N (7 + c) j = D c j := fun j hj => by rw [rowB hB hF (by omega)]; exact hA c j (by omega) hj
    have g1 := hg t ht
    have g2 : ∀ (h : t ≠ 0), wr ((t : Int) - 1) = ((t - 1 : Nat) : Int) ∧ (0 ≤ ((t - 1 : Nat) : Int)) ∧ ((t - 1 : Nat) : Int) < 288 ∧ gi N (7 + c) (t - 1) = D c (t - 1) := fun h => ⟨by rw [wr_id (by omega) (by omega)]; omega, by omega, by omega, hg _ (by omega)⟩
    by_cases q : stt D c t = true
    · have q' := stR_iff.mp q
      obtain ⟨p1, p2⟩ := pk_at (W := W) ht (show c < W by omega) q
      have hsT : sT D W (cn D W t c) = t := by unfold sT; rw [p1]
      have hsC : sC D W (cn D W t c) = c := by unfold sC; rw [p1]
      have hsF : sF D W (cn D W t c) = D c t := by unfold sF; rw [hsC, hsT]
      have hsU : sU D W (cn D W t c) = eor (D c) (D c t) (287 - t) (t + 1) := by unfold sU; rw [hsC, hsT, hsF]
      have okk : okf B c n (D c t) := by rw [hD]; exact dy_ok B n c t
      have u2 := cnt_600 hf (n := n) (by omega) W
      rw [← hD] at u2
      rcases okk with w | ⟨f, w, w2, w3, w4, w5⟩
      · exact absurd w q'.1
      obtain ⟨b, m1, m2, m3, m4, m5, m6, m7, -⟩ := h3.2 f (by omega)
      obtain ⟨m7, m8, m9, m10, m11⟩ := m7 w3
      have hfm := ((hf f (by omega)).2.2.1 w3).1
      obtain ⟨y, l1, l2, l3, l4, l5, l6, -⟩ := h3.1 (gi B 57 f).toNat (by omega)
      have nb : ∀ i, ¬ colS B b i := fun i => by unfold colS; rw [m4]; omega
      have ny : ∀ i, ¬ colS B y i := fun i => by unfold colS; rw [l4]; omega
      have x4 : gr N 4 f = some b := by rw [hF.2.1 4 f (by omega) (by unfold colT; omega)]; exact m3
      have x1 : ∀ i, gi N 1 i = gi B 1 i := fun i => hF.1 1 i (by omega) (by unfold colS; rw [hk1 hB]; omega)
      have step : WP (mc (d + 3)) tX1_collectShowings 24 [vr (some 5), vr (some 1), vi t, vi c, a4] [] N Q = WP (mc (d + 3)) tX1_collectShowings 67 [vr (some 5), vr (some 1), vi t, vi c, vi f] [] N Q := by
        by_cases z : t = 0
        · subst z
          have n1 : (D c 0 = -1) = False := eq_false q'.1
          rw [w] at n1 g1
          rw [eX1_collectShowings_24]
          simp only [↓eX1_collectShowings_25, ↓eX1_collectShowings_26, ↓eX1_collectShowings_29, ↓eX1_collectShowings_32, ↓eX1_collectShowings_33, ↓eX1_collectShowings_36, ↓eX1_collectShowings_37, ↓eX1_collectShowings_38, ↓eX1_collectShowings_39, ↓eX1_collectShowings_40, ↓eX1_collectShowings_42, ↓eX1_collectShowings_44, ↓eX1_collectShowings_45, ↓eX1_collectShowings_48, ↓eX1_collectShowings_49, ↓eX1_collectShowings_52, ↓eX1_collectShowings_53, ↓eX1_collectShowings_56, ↓eX1_collectShowings_57, ↓eX1_collectShowings_58, ↓eX1_collectShowings_59, ↓eX1_collectShowings_60, ↓eX1_collectShowings_61, ↓eX1_collectShowings_62, ↓eX1_collectShowings_64, hk5 hN, hk6 hN, hl6 hN, hr5_3 hN, k5, e, r1, r2, r3, c0, c6, t0, t6, g1, n1, Int.ofNat_zero, Int.cast_ofNat_Int, Int.cast_ofNat_Int, kd_si, gr_si, ln_si, gi_same, gi_na, gi_ni, nl_i, nl_r, nl_j, nj_i, nj_l, nj_r, true_and, and_true, and_self, cs_0, cs_1, cs_2, cs_3, cs_4, ↓reduceIte, Nat.reduceLeDiff, Nat.reduceEqDiff, Nat.reduceAdd, Int.reduceLE, Int.reduceLT, Int.reduceEq, Int.reduceAdd, Int.reduceNeg, Int.reduceToNat, Int.toNat_natCast, ne_eq, not_false_eq_true, not_true_eq_false, or_true, true_or, or_false, false_or]
        · obtain ⟨s1, s2, s3, s4⟩ := g2 z
          have n1 : (D c t = -1) = False := eq_false q'.1
          have n2 : ((t : Int) = 0) = False := eq_false (by omega)
          have n3 : (D c (t - 1) = D c t) = False := eq_false (fun w => (q'.2.resolve_left z) w)
          rw [w] at n1 g1 n3
          rw [eX1_collectShowings_24]
          simp only [↓eX1_collectShowings_25, ↓eX1_collectShowings_26, ↓eX1_collectShowings_29, ↓eX1_collectShowings_32, ↓eX1_collectShowings_33, ↓eX1_collectShowings_36, ↓eX1_collectShowings_37, ↓eX1_collectShowings_38, ↓eX1_collectShowings_39, ↓eX1_collectShowings_40, ↓eX1_collectShowings_42, ↓eX1_collectShowings_44, ↓eX1_collectShowings_45, ↓eX1_collectShowings_48, ↓eX1_collectShowings_49, ↓eX1_collectShowings_52, ↓eX1_collectShowings_53, ↓eX1_collectShowings_56, ↓eX1_collectShowings_57, ↓eX1_collectShowings_58, ↓eX1_collectShowings_59, ↓eX1_collectShowings_60, ↓eX1_collectShowings_61, ↓eX1_collectShowings_62, ↓eX1_collectShowings_64, hk5 hN, hk6 hN, hl6 hN, hr5_3 hN, k5, e, r1, r2, r3, c0, c6, t0, t6, g1, n1, n2, n3, s1, s2, s3, s4, Int.cast_ofNat_Int, kd_si, gr_si, ln_si, gi_same, gi_na, gi_ni, nl_i, nl_r, nl_j, nj_i, nj_l, nj_r, true_and, and_true, and_self, cs_0, cs_1, cs_2, cs_3, cs_4, ↓reduceIte, Nat.reduceLeDiff, Nat.reduceEqDiff, Nat.reduceAdd, Int.reduceLE, Int.reduceLT, Int.reduceEq, Int.reduceAdd, Int.reduceNeg, Int.reduceToNat, Int.toNat_natCast, ne_eq, not_false_eq_true, not_true_eq_false, or_true, true_or, or_false, false_or]
      rw [step]
      have fa := fun (Q : mV → mM → Prop) => x_factAt (d := d + 2) (Q := Q) (k := f) hN (by rw [x1]; omega) (by rw [x1]; omega)
      have fe := fun (Q : mV → mM → Prop) => x_endOfRun (d := d + 2) (Q := Q) (t := t) (row := D c) r2 r3 hg ht
      rw [← hsU] at fe
      have hcn : cn D W t (c + 1) = cn D W t c + 1 := by rw [cn_s, if_pos q]
      have ad := x_addShowing (d := d) (n := n) (B := B) (N := N) (D := D) (W := W) (k := cn D W t c) (b := b) (y := y) (Q := fun v M => v = vj ∧ WP (mc (d + 3)) tX1_collectShowings 90 [vr (some 5), vr (some 1), vi t, vi c, vi f] [] M Q) hB hD hf (by omega) p2 (by omega) hF hS (by rw [(hF.2.2.1 b m2).1]; exact m4) (by rw [(hF.2.2.1 y l2).1]; exact l4) (by have := hF.2.2.2.1; omega) (by have := hF.2.2.2.1; omega)
        (by rw [hF.2.1 b 0 m2 (by unfold colT; omega), m7]; exact l3) (by rw [hF.1 b 1 m2 (nb 1), m5, w4, hsC]) (by rw [hF.1 b 4 m2 (nb 4), m9, hsF, w]; rfl) (by rw [hF.1 b 5 m2 (nb 5), m10, hsF, w]; rfl) (by rw [hF.1 b 6 m2 (nb 6), m11, hsF, w]; rfl) (by rw [hF.1 y 1 l2 (ny 1), l6, hsF, w]; rfl)
        (fun N' q1 q2 q3 => ⟨rfl, by
          simp only [↓eX1_collectShowings_90, ↓eX1_collectShowings_93, e2, Int.cast_ofNat_Int, kd_si, gr_si, ln_si, gi_same, gi_na, gi_ni, nl_i, nl_r, nl_j, nj_i, nj_l, nj_r, true_and, and_true, and_self, cs_0, cs_1, cs_2, cs_3, cs_4, ↓reduceIte, Nat.reduceLeDiff, Nat.reduceEqDiff, Nat.reduceAdd, Int.reduceLE, Int.reduceLT, Int.reduceEq, Int.reduceAdd, Int.reduceNeg, Int.reduceToNat, Int.toNat_natCast, ne_eq, not_false_eq_true, not_true_eq_false, or_true, true_or, or_false, false_or]
          exact ih (c + 1) _ N' (by omega) q1 (by rw [hcn]; exact q2) (by rw [hcn]; omega)⟩)
      rw [hsF, hsT, w] at ad
      simp only [↓eX1_collectShowings_67, ↓eX1_collectShowings_68, ↓eX1_collectShowings_70, ↓eX1_collectShowings_71, ↓eX1_collectShowings_73, ↓eX1_collectShowings_76, ↓eX1_collectShowings_77, ↓eX1_collectShowings_78, ↓eX1_collectShowings_81, ↓eX1_collectShowings_82, ↓eX1_collectShowings_83, ↓eX1_collectShowings_84, ↓eX1_collectShowings_87, hk1 hN, hk5 hN, hk6 hN, hl6 hN, hr5_3 hN, r1, r2, r3, c0, c6, ↓fa, ↓fe, x4, Int.cast_ofNat_Int, kd_si, gr_si, ln_si, gi_same, gi_na, gi_ni, nl_i, nl_r, nl_j, nj_i, nj_l, nj_r, true_and, and_true, and_self, cs_0, cs_1, cs_2, cs_3, cs_4, ↓reduceIte, Nat.reduceLeDiff, Nat.reduceEqDiff, Nat.reduceAdd, Int.reduceLE, Int.reduceLT, Int.reduceEq, Int.reduceAdd, Int.reduceNeg, Int.reduceToNat, Int.toNat_natCast, ne_eq, not_false_eq_true, not_true_eq_false, or_true, true_or, or_false, false_or]
      exact ad
    · have hcn : cn D W t (c + 1) = cn D W t c := by rw [cn_s, if_neg q, Nat.add_zero]
      have step : WP (mc (d + 3)) tX1_collectShowings 24 [vr (some 5), vr (some 1), vi t, vi c, a4] [] N Q = WP (mc (d + 3)) tX1_collectShowings 24 [vr (some 5), vr (some 1), vi t, vi ((c + 1 : Nat) : Int), vi (D c t)] [] N Q := by
        by_cases z1 : D c t = -1
        · rw [eX1_collectShowings_24]
          simp only [↓eX1_collectShowings_25, ↓eX1_collectShowings_26, ↓eX1_collectShowings_29, ↓eX1_collectShowings_32, ↓eX1_collectShowings_33, ↓eX1_collectShowings_36, ↓eX1_collectShowings_37, ↓eX1_collectShowings_38, ↓eX1_collectShowings_39, ↓eX1_collectShowings_40, ↓eX1_collectShowings_42, ↓eX1_collectShowings_44, ↓eX1_collectShowings_45, ↓eX1_collectShowings_48, ↓eX1_collectShowings_49, ↓eX1_collectShowings_52, ↓eX1_collectShowings_53, ↓eX1_collectShowings_56, ↓eX1_collectShowings_57, ↓eX1_collectShowings_58, ↓eX1_collectShowings_59, ↓eX1_collectShowings_60, ↓eX1_collectShowings_61, ↓eX1_collectShowings_62, ↓eX1_collectShowings_64, ↓eX1_collectShowings_67, ↓eX1_collectShowings_68, ↓eX1_collectShowings_70, ↓eX1_collectShowings_71, ↓eX1_collectShowings_73, ↓eX1_collectShowings_76, ↓eX1_collectShowings_77, ↓eX1_collectShowings_78, ↓eX1_collectShowings_81, ↓eX1_collectShowings_82, ↓eX1_collectShowings_83, ↓eX1_collectShowings_84, ↓eX1_collectShowings_87, ↓eX1_collectShowings_90, ↓eX1_collectShowings_93, hk5 hN, hk6 hN, hl6 hN, hr5_3 hN, k5, e, e2, r1, r2, r3, c0, c6, t0, t6, g1, z1, Int.cast_ofNat_Int, kd_si, gr_si, ln_si, gi_same, gi_na, gi_ni, nl_i, nl_r, nl_j, nj_i, nj_l, nj_r, true_and, and_true, and_self, cs_0, cs_1, cs_2, cs_3, cs_4, ↓reduceIte, Nat.reduceLeDiff, Nat.reduceEqDiff, Nat.reduceAdd, Int.reduceLE, Int.reduceLT, Int.reduceEq, Int.reduceAdd, Int.reduceNeg, Int.reduceToNat, Int.toNat_natCast, ne_eq, not_false_eq_true, not_true_eq_false, or_true, true_or, or_false, false_or]
        · have z : t ≠ 0 := fun w => q (stR_iff.mpr ⟨z1, Or.inl w⟩)
          obtain ⟨s1, s2, s3, s4⟩ := g2 z
          have n3 : D c (t - 1) = D c t := by
            by_cases y : D c (t - 1) = D c t
            · exact y
            · exact absurd (stR_iff.mpr ⟨z1, Or.inr y⟩) q
          have n2 : ((t : Int) = 0) = False := eq_false (by omega)
          rw [eX1_collectShowings_24]
          simp only [↓eX1_collectShowings_25, ↓eX1_collectShowings_26, ↓eX1_collectShowings_29, ↓eX1_collectShowings_32, ↓eX1_collectShowings_33, ↓eX1_collectShowings_36, ↓eX1_collectShowings_37, ↓eX1_collectShowings_38, ↓eX1_collectShowings_39, ↓eX1_collectShowings_40, ↓eX1_collectShowings_42, ↓eX1_collectShowings_44, ↓eX1_collectShowings_45, ↓eX1_collectShowings_48, ↓eX1_collectShowings_49, ↓eX1_collectShowings_52, ↓eX1_collectShowings_53, ↓eX1_collectShowings_56, ↓eX1_collectShowings_57, ↓eX1_collectShowings_58, ↓eX1_collectShowings_59, ↓eX1_collectShowings_60, ↓eX1_collectShowings_61, ↓eX1_collectShowings_62, ↓eX1_collectShowings_64, ↓eX1_collectShowings_67, ↓eX1_collectShowings_68, ↓eX1_collectShowings_70, ↓eX1_collectShowings_71, ↓eX1_collectShowings_73, ↓eX1_collectShowings_76, ↓eX1_collectShowings_77, ↓eX1_collectShowings_78, ↓eX1_collectShowings_81, ↓eX1_collectShowings_82, ↓eX1_collectShowings_83, ↓eX1_collectShowings_84, ↓eX1_collectShowings_87, ↓eX1_collectShowings_90, ↓eX1_collectShowings_93, hk5 hN, hk6 hN, hl6 hN, hr5_3 hN, k5, e, e2, r1, r2, r3, c0, c6, t0, t6, g1, z1, n2, n3, s1, s2, s3, s4, Int.cast_ofNat_Int, kd_si, gr_si, ln_si, gi_same, gi_na, gi_ni, nl_i, nl_r, nl_j, nj_i, nj_l, nj_r, true_and, and_true, and_self, cs_0, cs_1, cs_2, cs_3, cs_4, ↓reduceIte, Nat.reduceLeDiff, Nat.reduceEqDiff, Nat.reduceAdd, Int.reduceLE, Int.reduceLT, Int.reduceEq, Int.reduceAdd, Int.reduceNeg, Int.reduceToNat, Int.toNat_natCast, ne_eq, not_false_eq_true, not_true_eq_false, or_true, true_or, or_false, false_or]
      rw [step]
      exact ih (c + 1) _ N (by omega) hF (by rw [hcn]; exact hS) (by rw [hcn]; exact hx)
/-- the slots loop -/
theorem x_col_out {d n : Nat} {B : mM} {Q : mV → mM → Prop} {D : Nat → Nat → Int} {W : Nat} (hB : SH B) (h1 : I1 B) (h3 : I3 B) (hf : FM B) (hD : D = dy B n) (hn : (n : Int) ≤ gi B 1 2) (hW : gi B 5 2 = W) (hW2 : gi B 1 0 = W)
    (hA : ∀ c t : Nat, c < W → t < 288 → gi B (7 + c) t = D c t)
    (hQ : ∀ N, FRM (colS B) colT B N → SCI B D W (cnt D W 288) N → nx N ≤ nx B + cnt D W 288 → Q vj N) :
    ∀ (r t : Nat) (a3 a4 : mV) (N : mM), t + r = 288 → FRM (colS B) colT B N → SCI B D W (cn D W t 0) N → nx N ≤ nx B + cn D W t 0 → WP (mc (d + 3)) tX1_collectShowings 15 [vr (some 5), vr (some 1), vi t, a3, a4] [] N Q := by
  intro r
  induction r with
  | zero =>
    intro t a3 a4 N hi hF hS hx
    have e : t = 288 := by omega
    subst e
    rw [eX1_collectShowings_15]
    simp only [↓eX1_collectShowings_16, ↓eX1_collectShowings_19, ↓eX1_collectShowings_102, Int.le_refl, Int.cast_ofNat_Int, Int.cast_ofNat_Int, kd_si, gr_si, ln_si, gi_same, gi_na, gi_ni, nl_i, nl_r, nl_j, nj_i, nj_l, nj_r, true_and, and_true, and_self, cs_0, cs_1, cs_2, cs_3, cs_4, ↓reduceIte, Nat.reduceLeDiff, Nat.reduceEqDiff, Nat.reduceAdd, Int.reduceLE, Int.reduceLT, Int.reduceEq, Int.reduceAdd, Int.reduceNeg, Int.reduceToNat, Int.toNat_natCast, ne_eq, not_false_eq_true, not_true_eq_false, or_true, true_or, or_false, false_or]
    rw [cn_0] at hS hx
    exact hQ N hF hS hx
  | succ r ih =>
    intro t a3 a4 N hi hF hS hx
    have e : ((288 : Int) ≤ (t : Int)) = False := eq_false (by omega)
    have e2 : wr ((t : Int) + 1) = ((t + 1 : Nat) : Int) := by rw [wr_id (by omega) (by omega)]; omega
    rw [eX1_collectShowings_15]
    simp only [↓eX1_collectShowings_16, ↓eX1_collectShowings_19, ↓eX1_collectShowings_22, ↓eX1_collectShowings_23, e, Int.cast_ofNat_Int, kd_si, gr_si, ln_si, gi_same, gi_na, gi_ni, nl_i, nl_r, nl_j, nj_i, nj_l, nj_r, true_and, and_true, and_self, cs_0, cs_1, cs_2, cs_3, cs_4, ↓reduceIte, Nat.reduceLeDiff, Nat.reduceEqDiff, Nat.reduceAdd, Int.reduceLE, Int.reduceLT, Int.reduceEq, Int.reduceAdd, Int.reduceNeg, Int.reduceToNat, Int.toNat_natCast, ne_eq, not_false_eq_true, not_true_eq_false, or_true, true_or, or_false, false_or]
    exact x_col_in hB h1 h3 hf hD hn hW hW2 (by omega) hA (fun N' a4 q1 q2 q3 => by
      simp only [↓eX1_collectShowings_96, ↓eX1_collectShowings_99, e2, Int.cast_ofNat_Int, kd_si, gr_si, ln_si, gi_same, gi_na, gi_ni, nl_i, nl_r, nl_j, nj_i, nj_l, nj_r, true_and, and_true, and_self, cs_0, cs_1, cs_2, cs_3, cs_4, ↓reduceIte, Nat.reduceLeDiff, Nat.reduceEqDiff, Nat.reduceAdd, Int.reduceLE, Int.reduceLT, Int.reduceEq, Int.reduceAdd, Int.reduceNeg, Int.reduceToNat, Int.toNat_natCast, ne_eq, not_false_eq_true, not_true_eq_false, or_true, true_or, or_false, false_or]
      exact ih (t + 1) _ a4 N' (by omega) q1 q2 q3) W 0 a4 N (by omega) hF hS hx
theorem x_collect {d n : Nat} {B : mM} {Q : mV → mM → Prop} {D : Nat → Nat → Int} {W : Nat} (hB : SH B) (h1 : I1 B) (h3 : I3 B) (hf : FM B) (hso : SO B) (hD : D = dy B n) (hn : (n : Int) ≤ gi B 1 2) (hW : gi B 5 2 = W) (hW2 : gi B 1 0 = W)
    (hA : ∀ c t : Nat, c < W → t < 288 → gi B (7 + c) t = D c t)
    (hQ : ∀ N, FRM (colS B) colT B N → SCI B D W (cnt D W 288) N → nx N ≤ nx B + 600 → Q vj N) : CP (mc (d + 4)) 16 [vr (some 5), vr (some 1)] B Q := by
  have u2 := cnt_600 hf (n := n) (by have := h1.2.2.1; omega) W
  rw [← hD] at u2
  have hB0 : SH (si B 5 0 0) := hB
  have fa := fun (Q : mV → mM → Prop) => z_fill (d := d + 2) (a := 15) (v := -1) (M := si B 5 0 0) (Q := Q) (hk15 hB0) (by rw [hl15 hB0]; decide)
  rw [hl15 hB0] at fa
  simp only [↓cpX1_collectShowings, ↓eX1_collectShowings_0, ↓eX1_collectShowings_1, ↓eX1_collectShowings_2, ↓eX1_collectShowings_5, ↓eX1_collectShowings_6, ↓eX1_collectShowings_9, ↓eX1_collectShowings_10, ↓eX1_collectShowings_13, ↓eX1_collectShowings_14, hk0 hB, hk1 hB, hk2 hB, hl2 hB, hk3 hB, hl3 hB, hk4 hB, hl4 hB, hk5 hB, hk6 hB, hl6 hB, hk7 hB, hl7 hB, hk8 hB, hl8 hB, hk9 hB, hl9 hB, hk10 hB, hl10 hB, hk11 hB, hl11 hB, hk12 hB, hl12 hB, hk13 hB, hl13 hB, hk14 hB, hl14 hB, hk15 hB, hl15 hB, hk16 hB, hk17 hB, hl17 hB, hk18 hB, hk19 hB, hl19 hB, hk20 hB, hk21 hB, hk22 hB, hl22 hB, hk23 hB, hl23 hB, hk24 hB, hl24 hB, hk25 hB, hl25 hB, hk26 hB, hk27 hB, hl27 hB, hk28 hB, hl28 hB, hk29 hB, hl29 hB, hk30 hB, hl30 hB, hk31 hB, hk32 hB, hl32 hB, hk33 hB, hk34 hB, hl34 hB, hr0_0 hB, hr1_3 hB, hr1_4 hB, hr1_5 hB, hr0_1 hB, hr5_3 hB, hr6_0 hB, hr6_1 hB, hr6_2 hB, hr6_3 hB, hr6_4 hB, hr6_5 hB, hr5_4 hB, hr5_5 hB, hr5_6 hB, hr0_2 hB, hr16_5 hB, hr0_3 hB, hr18_9 hB, hr0_4 hB, hr21_2 hB, hr21_3 hB, hr21_4 hB, hr21_5 hB, hr26_2 hB, hr26_3 hB, hr26_4 hB, hr26_5 hB, hr31_5 hB, hr33_5 hB, ↓fa, Int.cast_ofNat_Int, kd_si, gr_si, ln_si, gi_same, gi_na, gi_ni, nl_i, nl_r, nl_j, nj_i, nj_l, nj_r, true_and, and_true, and_self, cs_0, cs_1, cs_2, cs_3, cs_4, ↓reduceIte, Nat.reduceLeDiff, Nat.reduceEqDiff, Nat.reduceAdd, Int.reduceLE, Int.reduceLT, Int.reduceEq, Int.reduceAdd, Int.reduceNeg, Int.reduceToNat, Int.toNat_natCast, ne_eq, not_false_eq_true, not_true_eq_false, or_true, true_or, or_false, false_or]
  refine x_col_out hB h1 h3 hf hD hn hW hW2 hA (fun N q1 q2 q3 => hQ N q1 q2 (by have := h1.2.2.1; omega)) 288 0 vj vj _ (by omega) ?_ ⟨?_, ?_, ?_, ?_⟩ ?_
  · exact FRM_sw (fun j _ => Or.inl (Or.inr (Or.inl rfl))) (FRM_si (fun _ => Or.inl ⟨rfl, rfl⟩) FRM_refl)
  · rw [gi_swn (by decide), gi_same]; rfl
  · exact hso
  · intro j hj; exact absurd hj (Nat.not_lt_zero j)
  · intro m hm
    refine Or.inl ⟨?_, fun j hj => absurd hj (Nat.not_lt_zero j)⟩
    rw [gi_sw, if_pos rfl, if_pos hm]
  · show nx B ≤ _; omega
/-! ===== survey ===== -/
/-- the day as surveyed -/
def DAYC (M : mM) (n W : Nat) : Prop := gi M 5 0 = cnt (dy M n) W 288 ∧ (∀ c t : Nat, c < W → t < 288 → gi M (7 + c) t = dy M n c t) ∧ ∀ j, j < cnt (dy M n) W 288 → ∃ a, gr M 14 j = some a ∧ shob M M (dy M n) W j a
def DC (M : mM) : Prop := SO M ∧ (gi M 5 1 = -1 ∨ ∃ n W : Nat, gi M 5 1 = n ∧ gi M 5 2 = W ∧ (n : Int) ≤ gi M 1 2 ∧ W ≤ 6 ∧ DAYC M n W)
def dayS (M : mM) (a i : Nat) : Prop := (a = 5 ∧ i ≤ 2) ∨ isRow a ∨ a = 15 ∨ kd M a = 6
theorem dayTS {M : mM} (h : SH M) : TS (dayS M) colT M := by
  refine ⟨fun a i ha w => ?_, (colTS h).2⟩
  unfold dayS at w
  rcases w with w | w | w | w
  · obtain ⟨rfl, -⟩ := w
    exact ⟨by omega, by rw [hk5 h]; decide, by rw [hk5 h]; decide⟩
  · unfold isRow at w
    refine ⟨by omega, ?_, ?_⟩
    · rw [h.1 a (by omega)]
      exact (by decide : ∀ a : Fin 88, 7 ≤ a.val ∧ a.val ≤ 13 → kdT.getD a.val 0 ≠ 2) ⟨a, by omega⟩ w
    · rw [h.1 a (by omega)]
      exact (by decide : ∀ a : Fin 88, 7 ≤ a.val ∧ a.val ≤ 13 → kdT.getD a.val 0 ≠ 7) ⟨a, by omega⟩ w
  · exact (colTS h).1 a i ha (Or.inr (Or.inl w))
  · exact (colTS h).1 a i ha (Or.inr (Or.inr w))
theorem lo_eq {B B' : mM} {F : Nat → Int} {m : Nat} (h : ∀ j, j < m → gi B' 61 (F j).toNat = gi B 61 (F j).toNat ∧ gi B' 62 (F j).toNat = gi B 62 (F j).toNat) {k : Nat} (hk : k < m) : lo B' F k = lo B F k := by
  have ha : ∀ j, j < m → (aro B' F j k ↔ aro B F j k) := fun j hj => by
    unfold aro
    rw [(h j hj).1, (h j hj).2, (h k hk).1, (h k hk).2]
  refine LO_1 (M := B) (F := F) (k := k) ?_ (lo_LO B F k)
  rcases lo_LO B' F k with ⟨a, b⟩ | ⟨a, b, c⟩
  · exact Or.inl ⟨a, fun j hj w => b j hj ((ha j (by omega)).mpr w)⟩
  · exact Or.inr ⟨a, (ha _ (by omega)).mp b, fun j hj w => c j hj ((ha j (by omega)).mpr w)⟩
theorem shob_fe {B B' N : mM} {n W j a : Nat} (hf : FM B) (hn : (n : Int) ≤ gi B 35 37) (h : fe n B B') (hj : j < cnt (dy B n) W 288) (k : shob B N (dy B n) W j a) : shob B' N (dy B n) W j a := by
  have hx : ∀ i, i < cnt (dy B n) W 288 → ∃ f : Nat, sF (dy B n) W i = f ∧ f < n ∧ gi B 56 f = 0 := fun i hi => by
    rcases dy_ok B n (sC (dy B n) W i) (sT (dy B n) W i) with z | ⟨f, z, z2, z3, z4, z5⟩
    · exact absurd z (sF_ne hi)
    · exact ⟨f, z, z2, z3⟩
  obtain ⟨f, e, f1, f2⟩ := hx j hj
  have fs := ((hf f (by omega)).2.2.1 f2).1
  have hl : lo B' (sF (dy B n) W) j = lo B (sF (dy B n) W) j := lo_eq (m := cnt (dy B n) W 288) (fun i hi => by
    obtain ⟨g, e, g1, g2⟩ := hx i hi
    rw [e, Int.toNat_natCast, h.1 61 g (by decide) (by decide) g1, h.1 62 g (by decide) (by decide) g1]
    exact ⟨rfl, rfl⟩) hj
  unfold shob at k ⊢
  rw [hl, e, Int.toNat_natCast, h.1 61 f (by decide) (by decide) f1, h.1 62 f (by decide) (by decide) f1, h.1 63 f (by decide) (by decide) f1, h.1 57 f (by decide) (by decide) f1, h.2 (gi B 57 f).toNat (by omega)]
  rw [e, Int.toNat_natCast] at k
  exact k
theorem dyD {M M' : mM} {n : Nat} (hf : FM M) (hn : (n : Int) ≤ gi M 35 37) (h : fe n M M') : dy M' n = dy M n := by
  funext c t
  exact dy_fe hf hn h c t
/-- a surveyed day stays one while later facts are told -/
theorem DAYC_fe {M M' : mM} {n W : Nat} (hf : FM M) (hn : (n : Int) ≤ gi M 35 37) (h : fe n M M') (h6 : W ≤ 6) (hd : DAYC M n W) (hso : SO M) (hs : SH M) (c : cnt (dy M n) W 288 ≤ 600) (h5 : gi M' 5 0 = gi M 5 0) (hr : ∀ a t, 7 ≤ a → a ≤ 12 → gi M' a t = gi M a t) (h14 : ∀ j, gr M' 14 j = gr M 14 j) (hx : ∀ a i, a < nx M → kd M a = 6 → gi M' a i = gi M a i ∧ kd M' a = 6) : DAYC M' n W := by
  obtain ⟨a1, a2, a3⟩ := hd
  unfold DAYC
  rw [dyD hf hn h]
  refine ⟨h5.trans a1, fun c t hc ht => (hr _ t (by omega) (by omega)).trans (a2 c t hc ht), fun j hj => ?_⟩
  obtain ⟨a, q1, q2⟩ := a3 j hj
  obtain ⟨o1, o2, o3⟩ := hso.1 j a (by omega) q1
  refine ⟨a, (h14 j).trans q1, ?_⟩
  have := shob_fe hf hn h hj q2
  unfold shob at this ⊢
  simp only [fun i => (hx a i o2 o3).1, (hx a 0 o2 o3).2]
  exact ⟨trivial, this.2⟩
/-- the rows are cleared -/
theorem x_sv_loop {d : Nat} {M : mM} {Q : mV → mM → Prop} {W : Nat} {n : Int} (h : SH M) (hW : gi M 5 2 = W) (h6 : W ≤ 6)
    (hQ : ∀ N, DF isRow M N → (∀ c t : Nat, c < W → t < 288 → gi N (7 + c) t = -1) → WP (mc (d + 1)) tX1_survey 67 [vr (some 5), vr (some 1), vi n, vi W] [] N Q) :
    ∀ (r c : Nat) (N : mM), c + r = W → DF isRow M N → (∀ j t : Nat, j < c → t < 288 → gi N (7 + j) t = -1) → WP (mc (d + 1)) tX1_survey 43 [vr (some 5), vr (some 1), vi n, vi c] [] N Q := by
  intro r
  induction r with
  | zero =>
    intro c N hi hD hA
    have e : c = W := by omega
    subst e
    have hN := DF_SH hD h
    have k5 : gi N 5 2 = c := by rw [hD.2 5 2 (by unfold isRow; omega)]; exact hW
    rw [eX1_survey_43]
    simp only [↓eX1_survey_44, ↓eX1_survey_45, ↓eX1_survey_48, hk5 hN, k5, Int.le_refl, Int.cast_ofNat_Int, kd_si, gr_si, ln_si, gi_same, gi_na, gi_ni, nl_i, nl_r, nl_j, nj_i, nj_l, nj_r, true_and, and_true, and_self, cs_0, cs_1, cs_2, cs_3, cs_4, ↓reduceIte, Nat.reduceLeDiff, Nat.reduceEqDiff, Nat.reduceAdd, Int.reduceLE, Int.reduceLT, Int.reduceEq, Int.reduceAdd, Int.reduceNeg, Int.reduceToNat, Int.toNat_natCast, ne_eq, not_false_eq_true, not_true_eq_false, or_true, true_or, or_false, false_or]
    exact hQ N hD hA
  | succ r ih =>
    intro c N hi hD hA
    have hN := DF_SH hD h
    have k5 : gi N 5 2 = W := by rw [hD.2 5 2 (by unfold isRow; omega)]; exact hW
    have e : ((W : Int) ≤ (c : Int)) = False := eq_false (by omega)
    have e2 : wr ((c : Int) + 1) = ((c + 1 : Nat) : Int) := by rw [wr_id (by omega) (by omega)]; omega
    obtain ⟨r1, r2, r3⟩ := row_r hN (c := c) (by omega)
    have c0 : (0 ≤ (c : Int)) = True := eq_true (by omega)
    have c6 : ((c : Int) < 6) = True := eq_true (by omega)
    have fa := fun (Q : mV → mM → Prop) => z_fill (d := d) (a := 7 + c) (v := -1) (M := N) (Q := Q) r2 (by rw [r3]; decide)
    rw [r3] at fa
    rw [eX1_survey_43]
    simp only [↓eX1_survey_44, ↓eX1_survey_45, ↓eX1_survey_48, ↓eX1_survey_51, ↓eX1_survey_52, ↓eX1_survey_55, ↓eX1_survey_56, ↓eX1_survey_57, ↓eX1_survey_58, ↓eX1_survey_61, ↓eX1_survey_64, hk5 hN, hk6 hN, hl6 hN, hr5_3 hN, k5, e, e2, r1, r2, r3, c0, c6, ↓fa, Int.cast_ofNat_Int, kd_si, gr_si, ln_si, gi_same, gi_na, gi_ni, nl_i, nl_r, nl_j, nj_i, nj_l, nj_r, true_and, and_true, and_self, cs_0, cs_1, cs_2, cs_3, cs_4, ↓reduceIte, Nat.reduceLeDiff, Nat.reduceEqDiff, Nat.reduceAdd, Int.reduceLE, Int.reduceLT, Int.reduceEq, Int.reduceAdd, Int.reduceNeg, Int.reduceToNat, Int.toNat_natCast, ne_eq, not_false_eq_true, not_true_eq_false, or_true, true_or, or_false, false_or]
    refine ih (c + 1) _ (by omega) (DF_sw (by unfold isRow; omega) hD) (fun j t hj ht => ?_)
    by_cases z : j = c
    · rw [z, gi_sw, if_pos rfl, if_pos ht]
    · rw [gi_swn (by omega)]
      exact hA j t (by omega) ht
theorem x_survey {d n S W : Nat} {M : mM} {Q : mV → mM → Prop} {p : Nat → Nat} (h : SH M) (h1 : I1 M) (h3 : I3 M) (hf : FM M) (hS : gi M 1 1 = S) (hp : RKp M S p) (hW : gi M 1 0 = W) (hn : (n : Int) ≤ gi M 1 2) (hd : DC M)
    (hQ : ∀ N, FRM (dayS M) colT M N → DC N → gi N 5 1 = n → gi N 5 2 = W → DAYC N n W → nx N ≤ nx M + 600 → Q vj N) : CP (mc (d + 5)) 8 [vr (some 5), vr (some 1), vi n] M Q := by
  have i1 := h1
  obtain ⟨⟨b1, b2, b3⟩, ⟨b4, b5, b6⟩, ⟨b7, b8, b9⟩, -⟩ := i1
  have h88 := h.2.2.2
  by_cases q : (n : Int) = gi M 5 1 ∧ (W : Int) = gi M 5 2
  · obtain ⟨q1, q2⟩ := q
    simp only [↓cpX1_survey, ↓eX1_survey_0, ↓eX1_survey_1, ↓eX1_survey_2, ↓eX1_survey_5, ↓eX1_survey_8, ↓eX1_survey_9, ↓eX1_survey_12, ↓eX1_survey_13, ↓eX1_survey_16, ↓eX1_survey_19, hk0 h, hk1 h, hk2 h, hl2 h, hk3 h, hl3 h, hk4 h, hl4 h, hk5 h, hk6 h, hl6 h, hk7 h, hl7 h, hk8 h, hl8 h, hk9 h, hl9 h, hk10 h, hl10 h, hk11 h, hl11 h, hk12 h, hl12 h, hk13 h, hl13 h, hk14 h, hl14 h, hk15 h, hl15 h, hk16 h, hk17 h, hl17 h, hk18 h, hk19 h, hl19 h, hk20 h, hk21 h, hk22 h, hl22 h, hk23 h, hl23 h, hk24 h, hl24 h, hk25 h, hl25 h, hk26 h, hk27 h, hl27 h, hk28 h, hl28 h, hk29 h, hl29 h, hk30 h, hl30 h, hk31 h, hk32 h, hl32 h, hk33 h, hk34 h, hl34 h, hr0_0 h, hr1_3 h, hr1_4 h, hr1_5 h, hr0_1 h, hr5_3 h, hr6_0 h, hr6_1 h, hr6_2 h, hr6_3 h, hr6_4 h, hr6_5 h, hr5_4 h, hr5_5 h, hr5_6 h, hr0_2 h, hr16_5 h, hr0_3 h, hr18_9 h, hr0_4 h, hr21_2 h, hr21_3 h, hr21_4 h, hr21_5 h, hr26_2 h, hr26_3 h, hr26_4 h, hr26_5 h, hr31_5 h, hr33_5 h, hW, q1, q2, Int.cast_ofNat_Int, kd_si, gr_si, ln_si, gi_same, gi_na, gi_ni, nl_i, nl_r, nl_j, nj_i, nj_l, nj_r, true_and, and_true, and_self, cs_0, cs_1, cs_2, cs_3, cs_4, ↓reduceIte, Nat.reduceLeDiff, Nat.reduceEqDiff, Nat.reduceAdd, Int.reduceLE, Int.reduceLT, Int.reduceEq, Int.reduceAdd, Int.reduceNeg, Int.reduceToNat, Int.toNat_natCast, ne_eq, not_false_eq_true, not_true_eq_false, or_true, true_or, or_false, false_or]
    obtain ⟨hso, hd⟩ := hd
    have hd' := hd
    rcases hd with w | ⟨n', W', w1, w2, w3, w4, w5⟩
    · omega
    · have e1 : n' = n := by omega
      have e2 : W' = W := by omega
      subst e1 e2
      exact hQ M FRM_refl ⟨hso, hd'⟩ w1 w2 w5 (by omega)
  · have mn : mMin (W : Int) 6 = W := mMin_l (by omega)
    have step : CP (mc (d + 5)) 8 [vr (some 5), vr (some 1), vi n] M Q = WP (mc (d + 4)) tX1_survey 43 [vr (some 5), vr (some 1), vi n, vi ((0 : Nat) : Int)] [] (si (si M 5 1 n) 5 2 W) Q := by
      by_cases q1 : (n : Int) = gi M 5 1
      · have q2 : ((W : Int) = gi M 5 2) = False := eq_false (fun w => q ⟨q1, w⟩)
        simp only [↓cpX1_survey, ↓eX1_survey_0, ↓eX1_survey_1, ↓eX1_survey_2, ↓eX1_survey_5, ↓eX1_survey_8, ↓eX1_survey_9, ↓eX1_survey_12, ↓eX1_survey_13, ↓eX1_survey_16, ↓eX1_survey_19, ↓eX1_survey_20, ↓eX1_survey_21, ↓eX1_survey_22, ↓eX1_survey_25, ↓eX1_survey_26, ↓eX1_survey_27, ↓eX1_survey_30, ↓eX1_survey_31, ↓eX1_survey_34, ↓eX1_survey_35, ↓eX1_survey_38, ↓eX1_survey_41, ↓eX1_survey_42, hk0 h, hk1 h, hk2 h, hl2 h, hk3 h, hl3 h, hk4 h, hl4 h, hk5 h, hk6 h, hl6 h, hk7 h, hl7 h, hk8 h, hl8 h, hk9 h, hl9 h, hk10 h, hl10 h, hk11 h, hl11 h, hk12 h, hl12 h, hk13 h, hl13 h, hk14 h, hl14 h, hk15 h, hl15 h, hk16 h, hk17 h, hl17 h, hk18 h, hk19 h, hl19 h, hk20 h, hk21 h, hk22 h, hl22 h, hk23 h, hl23 h, hk24 h, hl24 h, hk25 h, hl25 h, hk26 h, hk27 h, hl27 h, hk28 h, hl28 h, hk29 h, hl29 h, hk30 h, hl30 h, hk31 h, hk32 h, hl32 h, hk33 h, hk34 h, hl34 h, hr0_0 h, hr1_3 h, hr1_4 h, hr1_5 h, hr0_1 h, hr5_3 h, hr6_0 h, hr6_1 h, hr6_2 h, hr6_3 h, hr6_4 h, hr6_5 h, hr5_4 h, hr5_5 h, hr5_6 h, hr0_2 h, hr16_5 h, hr0_3 h, hr18_9 h, hr0_4 h, hr21_2 h, hr21_3 h, hr21_4 h, hr21_5 h, hr26_2 h, hr26_3 h, hr26_4 h, hr26_5 h, hr31_5 h, hr33_5 h, hW, ← q1, q2, mn, Int.cast_ofNat_Int, kd_si, gr_si, ln_si, gi_same, gi_na, gi_ni, nl_i, nl_r, nl_j, nj_i, nj_l, nj_r, true_and, and_true, and_self, cs_0, cs_1, cs_2, cs_3, cs_4, ↓reduceIte, Nat.reduceLeDiff, Nat.reduceEqDiff, Nat.reduceAdd, Int.reduceLE, Int.reduceLT, Int.reduceEq, Int.reduceAdd, Int.reduceNeg, Int.reduceToNat, Int.toNat_natCast, ne_eq, not_false_eq_true, not_true_eq_false, or_true, true_or, or_false, false_or]
      · have q1' : ((n : Int) = gi M 5 1) = False := eq_false q1
        simp only [↓cpX1_survey, ↓eX1_survey_0, ↓eX1_survey_1, ↓eX1_survey_2, ↓eX1_survey_5, ↓eX1_survey_8, ↓eX1_survey_9, ↓eX1_survey_12, ↓eX1_survey_13, ↓eX1_survey_16, ↓eX1_survey_19, ↓eX1_survey_20, ↓eX1_survey_21, ↓eX1_survey_22, ↓eX1_survey_25, ↓eX1_survey_26, ↓eX1_survey_27, ↓eX1_survey_30, ↓eX1_survey_31, ↓eX1_survey_34, ↓eX1_survey_35, ↓eX1_survey_38, ↓eX1_survey_41, ↓eX1_survey_42, hk0 h, hk1 h, hk2 h, hl2 h, hk3 h, hl3 h, hk4 h, hl4 h, hk5 h, hk6 h, hl6 h, hk7 h, hl7 h, hk8 h, hl8 h, hk9 h, hl9 h, hk10 h, hl10 h, hk11 h, hl11 h, hk12 h, hl12 h, hk13 h, hl13 h, hk14 h, hl14 h, hk15 h, hl15 h, hk16 h, hk17 h, hl17 h, hk18 h, hk19 h, hl19 h, hk20 h, hk21 h, hk22 h, hl22 h, hk23 h, hl23 h, hk24 h, hl24 h, hk25 h, hl25 h, hk26 h, hk27 h, hl27 h, hk28 h, hl28 h, hk29 h, hl29 h, hk30 h, hl30 h, hk31 h, hk32 h, hl32 h, hk33 h, hk34 h, hl34 h, hr0_0 h, hr1_3 h, hr1_4 h, hr1_5 h, hr0_1 h, hr5_3 h, hr6_0 h, hr6_1 h, hr6_2 h, hr6_3 h, hr6_4 h, hr6_5 h, hr5_4 h, hr5_5 h, hr5_6 h, hr0_2 h, hr16_5 h, hr0_3 h, hr18_9 h, hr0_4 h, hr21_2 h, hr21_3 h, hr21_4 h, hr21_5 h, hr26_2 h, hr26_3 h, hr26_4 h, hr26_5 h, hr31_5 h, hr33_5 h, hW, q1', mn, Int.cast_ofNat_Int, kd_si, gr_si, ln_si, gi_same, gi_na, gi_ni, nl_i, nl_r, nl_j, nj_i, nj_l, nj_r, true_and, and_true, and_self, cs_0, cs_1, cs_2, cs_3, cs_4, ↓reduceIte, Nat.reduceLeDiff, Nat.reduceEqDiff, Nat.reduceAdd, Int.reduceLE, Int.reduceLT, Int.reduceEq, Int.reduceAdd, Int.reduceNeg, Int.reduceToNat, Int.toNat_natCast, ne_eq, not_false_eq_true, not_true_eq_false, or_true, true_or, or_false, false_or]
    rw [step]
    obtain ⟨M1, hM1⟩ : ∃ M1, M1 = si (si M 5 1 n) 5 2 W := ⟨_, rfl⟩
    rw [← hM1]
    have s1 : SH M1 := by rw [hM1]; exact h
    have w51 : gi M1 5 1 = n := by rw [hM1, gi_ni (by decide), gi_same]
    have w52 : gi M1 5 2 = W := by rw [hM1, gi_same]
    have d1 : DF (fun a => a = 5) M M1 := by rw [hM1]; exact DF_si rfl (DF_si rfl DF_refl)
    have t5 : ∀ a, isTold a → ¬ a = 5 := fun a z w => by unfold isTold at z; omega
    have f1 : FRM (dayS M) colT M M1 := by rw [hM1]; exact FRM_si (fun _ => Or.inl ⟨rfl, by decide⟩) (FRM_si (fun _ => Or.inl ⟨rfl, by decide⟩) FRM_refl)
    refine x_sv_loop s1 w52 (by omega) (fun N2 dN2 hc2 => ?_) W 0 M1 (by omega) DF_refl (fun j t hj => absurd hj (Nat.not_lt_zero j))
    have dM2 : DF (fun a => a = 5 ∨ isRow a) M N2 := DF_trans (DF_mono (fun a z => Or.inl z) d1) (DF_mono (fun a z => Or.inr z) dN2)
    have t2 : ∀ a, isTold a → ¬ (a = 5 ∨ isRow a) := fun a z w => w.elim (t5 a z) (told_row a z)
    have s2 := DF_SH dM2 h
    have e52 : ∀ i, gi N2 5 i = gi M1 5 i := fun i => dN2.2 5 i (by unfold isRow; omega)
    have e12 : ∀ i, gi N2 1 i = gi M 1 i := fun i => dM2.2 1 i (t2 1 (Or.inl rfl))
    have rk2 : RKp N2 S p := by
      have e55 : ∀ i, gi N2 55 i = gi M 55 i := fun i => dM2.2 55 i (by unfold isRow; omega)
      have hp' := hp
      unfold RKp bts at hp' ⊢
      simp only [e55, DF_r dM2]
      exact hp'
    have fe2 := DF_fe dM2 t2 n
    have ln := x_layNotices (d := d + 2) (M := N2) (W := W) (n := n) (S := S) (p := p) (Q := fun v M => v = vj ∧ WP (mc (d + 4)) tX1_survey 72 [vr (some 5), vr (some 1), vi n, vi W] [] M Q) s2 (DF_I1 dM2 t2 h1) (DF_I3 dM2 t2 h3) (DF_FM dM2 t2 hf) (by rw [e12]; exact hS) rk2 (by rw [e12]; exact hn) (by rw [e52]; exact w51) (by rw [e52]; exact w52) (by rw [e12]; exact hW) hc2 (fun N3 dN3 hc3 => ⟨rfl, ?_⟩)
    · simp only [↓eX1_survey_67, ↓eX1_survey_68, ↓eX1_survey_69, hk5 s2, Int.cast_ofNat_Int, kd_si, gr_si, ln_si, gi_same, gi_na, gi_ni, nl_i, nl_r, nl_j, nj_i, nj_l, nj_r, true_and, and_true, and_self, cs_0, cs_1, cs_2, cs_3, cs_4, ↓reduceIte, Nat.reduceLeDiff, Nat.reduceEqDiff, Nat.reduceAdd, Int.reduceLE, Int.reduceLT, Int.reduceEq, Int.reduceAdd, Int.reduceNeg, Int.reduceToNat, Int.toNat_natCast, ne_eq, not_false_eq_true, not_true_eq_false, or_true, true_or, or_false, false_or]
      exact ln
    have dM3 : DF (fun a => a = 5 ∨ isRow a) M N3 := DF_trans dM2 (DF_mono (fun a z => Or.inr z) dN3)
    have s3 := DF_SH dM3 h
    have e53 : ∀ i, gi N3 5 i = gi M1 5 i := fun i => (dN3.2 5 i (by unfold isRow; omega)).trans (e52 i)
    have e13 : ∀ i, gi N3 1 i = gi M 1 i := fun i => dM3.2 1 i (t2 1 (Or.inl rfl))
    have fe3 := DF_fe dM3 t2 n
    have po := x_pushByOvers (d := d + 1) (M := N3) (W := W) (n := n) (Q := fun v M => v = vj ∧ WP (mc (d + 4)) tX1_survey 77 [vr (some 5), vr (some 1), vi n, vi W] [] M Q) s3 (DF_I1 dM3 t2 h1) (DF_I3 dM3 t2 h3) (DF_FM dM3 t2 hf) (by rw [e13]; exact hn) (by rw [e53]; exact w51) (by rw [e53]; exact w52) (by rw [e13]; exact hW) (fun c t hc ht => by rw [hc3 c t hc ht, bs_fe hf (by omega) fe2, bs_fe hf (by omega) fe3]) (fun N4 dN4 hc4 => ⟨rfl, ?_⟩)
    · simp only [↓eX1_survey_72, ↓eX1_survey_73, ↓eX1_survey_74, hk5 s3, Int.cast_ofNat_Int, kd_si, gr_si, ln_si, gi_same, gi_na, gi_ni, nl_i, nl_r, nl_j, nj_i, nj_l, nj_r, true_and, and_true, and_self, cs_0, cs_1, cs_2, cs_3, cs_4, ↓reduceIte, Nat.reduceLeDiff, Nat.reduceEqDiff, Nat.reduceAdd, Int.reduceLE, Int.reduceLT, Int.reduceEq, Int.reduceAdd, Int.reduceNeg, Int.reduceToNat, Int.toNat_natCast, ne_eq, not_false_eq_true, not_true_eq_false, or_true, true_or, or_false, false_or]
      exact po
    have dM4 : DF (fun a => a = 5 ∨ isRow a) M N4 := DF_trans dM3 (DF_mono (fun a z => Or.inr z) dN4)
    have s4 := DF_SH dM4 h
    have e54 : ∀ i, gi N4 5 i = gi M1 5 i := fun i => (dN4.2 5 i (by unfold isRow; omega)).trans (e53 i)
    have e14 : ∀ i, gi N4 1 i = gi M 1 i := fun i => dM4.2 1 i (t2 1 (Or.inl rfl))
    have fe4 := DF_fe dM4 t2 n
    have hD4 : dy N4 n = dy M n := dyD hf (by omega) fe4
    have f4 : FRM (dayS M) colT M N4 := by
      refine FRM_trans f1 (DF_FRM (DF_trans dN2 (DF_trans dN3 dN4))) (fun a i _ w => Or.inr (Or.inl w)) (fun a _ w => w.elim)
    have hso4 : SO N4 := by
      have := hd.1
      unfold SO at this ⊢
      simp only [DF_r dM4, DF_k dM4, DF_n dM4]
      exact this
    have co := x_collect (d := d) (n := n) (B := N4) (D := dy N4 n) (W := W) (Q := fun v M => v = vj ∧ WP (mc (d + 4)) tX1_survey 82 [vr (some 5), vr (some 1), vi n, vi W] [] M Q) s4 (DF_I1 dM4 t2 h1) (DF_I3 dM4 t2 h3) (DF_FM dM4 t2 hf) hso4 rfl (by rw [e14]; exact hn) (by rw [e54]; exact w52) (by rw [e14]; exact hW) (fun c t hc ht => by rw [hc4 c t hc ht, hD4, dyD hf (by omega) fe3]) (fun N5 q1 q2 q3 => ⟨rfl, ?_⟩)
    · simp only [↓eX1_survey_77, ↓eX1_survey_78, ↓eX1_survey_79, hk5 s4, Int.cast_ofNat_Int, kd_si, gr_si, ln_si, gi_same, gi_na, gi_ni, nl_i, nl_r, nl_j, nj_i, nj_l, nj_r, true_and, and_true, and_self, cs_0, cs_1, cs_2, cs_3, cs_4, ↓reduceIte, Nat.reduceLeDiff, Nat.reduceEqDiff, Nat.reduceAdd, Int.reduceLE, Int.reduceLT, Int.reduceEq, Int.reduceAdd, Int.reduceNeg, Int.reduceToNat, Int.toNat_natCast, ne_eq, not_false_eq_true, not_true_eq_false, or_true, true_or, or_false, false_or]
      exact co
    simp only [↓eX1_survey_82, Int.cast_ofNat_Int, kd_si, gr_si, ln_si, gi_same, gi_na, gi_ni, nl_i, nl_r, nl_j, nj_i, nj_l, nj_r, true_and, and_true, and_self, cs_0, cs_1, cs_2, cs_3, cs_4, ↓reduceIte, Nat.reduceLeDiff, Nat.reduceEqDiff, Nat.reduceAdd, Int.reduceLE, Int.reduceLT, Int.reduceEq, Int.reduceAdd, Int.reduceNeg, Int.reduceToNat, Int.toNat_natCast, ne_eq, not_false_eq_true, not_true_eq_false, or_true, true_or, or_false, false_or]
    have f5 : FRM (dayS M) colT M N5 := by
      refine FRM_trans f4 q1 (fun a i ha w => ?_) (fun a _ w => w)
      rcases w with w | w | w
      · exact Or.inl ⟨w.1, by omega⟩
      · exact Or.inr (Or.inr (Or.inl w))
      · exact Or.inr (Or.inr (Or.inr (by rw [← DF_k dM4]; exact w)))
    have fe45 : fe n N4 N5 := FRM_fe q1 s4 (colTS s4) n
    have fm4 := DF_FM dM4 t2 hf
    have n4 : (n : Int) ≤ gi N4 35 37 := by rw [dM4.2 35 37 (by unfold isRow; omega)]; omega
    have hD5 : dy N5 n = dy N4 n := dyD fm4 n4 fe45
    have w8 := s4.2.2.2
    have g51 : gi N5 5 1 = n := by rw [q1.1 5 1 (by omega) (by unfold colS; rw [hk5 s4]; omega), e54]; exact w51
    have g52 : gi N5 5 2 = W := by rw [q1.1 5 2 (by omega) (by unfold colS; rw [hk5 s4]; omega), e54]; exact w52
    have g12 : gi N5 1 2 = gi M 1 2 := by rw [q1.1 1 2 (by omega) (by unfold colS; rw [hk1 s4]; omega), e14]
    obtain ⟨z1, z2, z3, z4⟩ := q2
    have hdc : DAYC N5 n W := by
      unfold DAYC
      rw [hD5]
      refine ⟨z1, fun c t hc ht => ?_, fun j hj => ?_⟩
      · rw [rowB s4 q1 (by omega), hc4 c t hc ht, hD4, dyD hf (by omega) fe3]
      · obtain ⟨a, y1, y2⟩ := z3 j hj
        exact ⟨a, y1, shob_fe fm4 n4 fe45 hj y2⟩
    exact hQ N5 f5 ⟨z2, Or.inr ⟨n, W, g51, g52, by rw [g12]; exact hn, by omega, hdc⟩⟩ g51 g52 hdc (by rw [DF_n dM4] at q3; exact q3)
