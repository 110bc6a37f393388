/-- isHeld: the rule's value at the showing -/
theorem y_isHeld {d : Nat} {M : mM} {Q : mV → mM → Prop} {sd R c r k : Nat} {me : Nat → Env → Int} {mt : Nat → Int} (h : SH M) (hs : SFM M k) (hsd : sd ≤ 1) (h18 : gi M 35 18 = sd) (hc : c ≤ 400) (hr : r < R) (hR : R ≤ 20) (hM : MRU M sd R me mt c) (hf4 : fr M sd R ≤ 400) (he : EV (enM M k))
    (hQ : ∀ N, DF (fun b => b = 71) M N → Q (vi (me r (enM M k))) N) : CP (mc (d + 4)) 166 [vr (some 35), vi r, vi k] M Q := by
  obtain ⟨m1, m2, m3, m4⟩ := hM.2 r hr
  have a0 := hM.1 r (by omega)
  have b0 := hM.1 (r + 1) (by omega)
  have mono := fr_mono hM (R - (r + 1)) (r + 1) (by omega)
  have ha : gi M 45 (21 * sd + r) = (fr M sd r : Nat) := by unfold fr; omega
  have hb : gi M 45 (21 * sd + (r + 1)) = (fr M sd (r + 1) : Nat) := by unfold fr; omega
  rw [m4 _ he] at hQ
  have lp := y_held_loop (d := d) (R := R) (r := r) (me := me) (mt := mt) h hs hsd h18 hc hr hR ha hb (by omega) m3 hQ (fr M sd (r + 1) - fr M sd r) 0 M vj (by omega) DF_refl rfl
  have lp' : WP (mc (d + 3)) tX12_isHeld 18 [vr (some 35), vi r, vi k, vi 0, vi (fr M sd r : Nat), vj] [] M Q := lp
  have w21 : wr (21 * (sd : Int)) = ((21 * sd : Nat) : Int) := by rw [wr_id (by omega) (by omega)]; omega
  have w22 : wr (((21 * sd : Nat) : Int) + (r : Int)) = ((21 * sd + r : Nat) : Int) := by rw [wr_id (by omega) (by omega)]; omega
  have f0 : (0 ≤ ((21 * sd + r : Nat) : Int)) = True := eq_true (by omega)
  have f1 : (((21 * sd + r : Nat) : Int) < 42) = True := eq_true (by omega)
  simp only [↓cpX12_isHeld, ↓eX12_isHeld_0, ↓eX12_isHeld_1, ↓eX12_isHeld_2, ↓eX12_isHeld_3, ↓eX12_isHeld_6, ↓eX12_isHeld_8, ↓eX12_isHeld_9, ↓eX12_isHeld_12, ↓eX12_isHeld_13, ↓eX12_isHeld_14, ↓eX12_isHeld_15, ↓eX12_isHeld_16, hk35 h, hr35_22 h, hk45 h, hl45 h, h18, w21, w22, f0, f1, ha, Int.cast_ofNat_Int, kd_si, gr_si, ln_si, gi_same, gi_na, gi_ni, nl_i, nl_r, nl_j, nj_i, nj_l, nj_r, true_and, and_true, and_self, cs_0, cs_1, cs_2, cs_3, cs_4, ↓reduceIte, Nat.reduceLeDiff, Nat.reduceEqDiff, Nat.reduceAdd, Int.reduceLE, Int.reduceLT, Int.reduceEq, Int.reduceAdd, Int.reduceNeg, Int.reduceToNat, Int.toNat_natCast, ne_eq, not_false_eq_true, not_true_eq_false, or_true, true_or, or_false, false_or]
  exact lp'
theorem MRU_01 {M : mM} {sd R c r : Nat} {me : Nat → Env → Int} {mt : Nat → Int} (hM : MRU M sd R me mt c) (hr : r < R) {e : Env} (he : EV e) : me r e = 0 ∨ me r e = 1 := by
  rw [(hM.2 r hr).2.2.2 e he]
  unfold bi
  split
  · exact Or.inr rfl
  · exact Or.inl rfl
theorem y_wgh_loop {d : Nat} {M : mM} {Q : mV → mM → Prop} {sd R c k : Nat} {me : Nat → Env → Int} {mt : Nat → Int} {W : Int} (h : SH M) (hs : SFM M k) (hsd : sd ≤ 1) (h18 : gi M 35 18 = sd) (hc : c ≤ 400) (hR : R ≤ 20) (h43 : gi M 43 sd = R) (hM : MRU M sd R me mt c) (hf4 : fr M sd R ≤ 400) (he : EV (enM M k)) (hmt : ∀ r, r < R → 0 ≤ mt r)
    (hQ : ∀ N, DF (fun b => b = 71) M N → Q (vi W) N) :
    ∀ (f r : Nat) (w : Int) (N : mM) (a4 : mV), r + f = R → 0 ≤ w → DF (fun b => b = 71) M N → wgh me mt (enM M k) f r w = W → WP (mc (d + 4)) tX12_weightOf 4 [vr (some 35), vi k, vi w, vi r, a4] [] N Q := by
  have sd0 : (0 ≤ (sd : Int)) = True := eq_true (by omega)
  have sd1 : ((sd : Int) < 2) = True := eq_true (by omega)
  intro f
  induction f with
  | zero =>
    intro r w N a4 hr hw0 hD hw
    have er : r = R := by omega
    subst er
    have hN := DF_SH hD h
    have e18 : gi N 35 18 = sd := by rw [hD.2 35 18 (by decide)]; exact h18
    have e43 : gi N 43 sd = r := by rw [hD.2 43 _ (by decide)]; exact h43
    have q := hQ N hD
    rw [wgh] at hw
    rw [hw, eX12_weightOf_4]
    simp only [↓eX12_weightOf_5, ↓eX12_weightOf_6, ↓eX12_weightOf_9, ↓eX12_weightOf_10, ↓eX12_weightOf_13, ↓eX12_weightOf_14, ↓eX12_weightOf_72, ↓eX12_weightOf_73, hk35 hN, hr35_20 hN, hk43 hN, hl43 hN, e18, e43, sd0, sd1, Int.le_refl, Int.cast_ofNat_Int, kd_si, gr_si, ln_si, gi_same, gi_na, gi_ni, nl_i, nl_r, nl_j, nj_i, nj_l, nj_r, true_and, and_true, and_self, cs_0, cs_1, cs_2, cs_3, cs_4, ↓reduceIte, Nat.reduceLeDiff, Nat.reduceEqDiff, Nat.reduceAdd, Int.reduceLE, Int.reduceLT, Int.reduceEq, Int.reduceAdd, Int.reduceNeg, Int.reduceToNat, Int.toNat_natCast, ne_eq, not_false_eq_true, not_true_eq_false, or_true, true_or, or_false, false_or]
    exact q
  | succ f ih =>
    intro r w N a4 hr hw0 hD hw
    have hN := DF_SH hD h
    have e18 : gi N 35 18 = sd := by rw [hD.2 35 18 (by decide)]; exact h18
    have e43 : gi N 43 sd = R := by rw [hD.2 43 _ (by decide)]; exact h43
    have g44 : gi N 44 (20 * sd + r) = mt r := by rw [hD.2 44 _ (by decide)]; exact (hM.2 r (by omega)).1
    have e1 : ((R : Int) ≤ (r : Int)) = False := eq_false (by omega)
    have e5 : wr ((r : Int) + 1) = ((r + 1 : Nat) : Int) := by rw [wr_id (by omega) (by omega)]; omega
    have w20 : wr (20 * (sd : Int)) = ((20 * sd : Nat) : Int) := by rw [wr_id (by omega) (by omega)]; omega
    have w21 : wr (((20 * sd : Nat) : Int) + (r : Int)) = ((20 * sd + r : Nat) : Int) := by rw [wr_id (by omega) (by omega)]; omega
    have f0 : (0 ≤ ((20 * sd + r : Nat) : Int)) = True := eq_true (by omega)
    have f1 : (((20 * sd + r : Nat) : Int) < 40) = True := eq_true (by omega)
    have m0 := hmt r (by omega)
    have m01 := MRU_01 hM (r := r) (by omega) he
    rw [wgh] at hw
    rw [eX12_weightOf_4]
    by_cases zc : mt r = 0 ∨ w < mt r
    · have fr4 : fr N sd R ≤ 400 := by unfold fr at hf4 ⊢; rw [hD.2 45 _ (by decide)]; exact hf4
      have held := y_isHeld (d := d) (M := N) (sd := sd) (R := R) (c := c) (r := r) (k := k) (me := me) (mt := mt) (Q := fun v P => v ≠ vj ∧ WP (mc (d + 4)) tX12_weightOf 50 [vr (some 35), vi k, vi w, vi r, vi (mt r)] [v] P Q) hN (SFM_D hD hs) hsd e18 hc (by omega) hR (MRU_D hD hM) fr4 (by rw [enM_eq hD]; exact he) (fun P dP => ⟨(fun q => by cases q), by
        have dMP := DF_trans hD dP
        rw [enM_eq hD]
        by_cases ze : me r (enM M k) = 0
        · rw [if_neg (fun q => q.2 ze)] at hw
          simp only [↓eX12_weightOf_50, ↓eX12_weightOf_53, ↓eX12_weightOf_56, ↓eX12_weightOf_58, ↓eX12_weightOf_61, ↓eX12_weightOf_62, ↓eX12_weightOf_63, ↓eX12_weightOf_65, ↓eX12_weightOf_66, ↓eX12_weightOf_69, ze, e5, Int.cast_ofNat_Int, kd_si, gr_si, ln_si, gi_same, gi_na, gi_ni, nl_i, nl_r, nl_j, nj_i, nj_l, nj_r, true_and, and_true, and_self, cs_0, cs_1, cs_2, cs_3, cs_4, ↓reduceIte, Nat.reduceLeDiff, Nat.reduceEqDiff, Nat.reduceAdd, Int.reduceLE, Int.reduceLT, Int.reduceEq, Int.reduceAdd, Int.reduceNeg, Int.reduceToNat, Int.toNat_natCast, ne_eq, not_false_eq_true, not_true_eq_false, or_true, true_or, or_false, false_or]
          exact ih (r + 1) w P _ (by omega) hw0 dMP hw
        · rw [if_pos ⟨zc, ze⟩] at hw
          by_cases zm : mt r = 0
          · rw [if_pos zm] at hw
            have q := hQ P dMP
            rw [← hw] at q
            simp only [↓eX12_weightOf_50, ↓eX12_weightOf_53, ↓eX12_weightOf_56, ↓eX12_weightOf_58, ↓eX12_weightOf_61, ↓eX12_weightOf_62, ↓eX12_weightOf_63, ↓eX12_weightOf_65, ↓eX12_weightOf_66, ↓eX12_weightOf_69, ze, zm, Int.cast_ofNat_Int, kd_si, gr_si, ln_si, gi_same, gi_na, gi_ni, nl_i, nl_r, nl_j, nj_i, nj_l, nj_r, true_and, and_true, and_self, cs_0, cs_1, cs_2, cs_3, cs_4, ↓reduceIte, Nat.reduceLeDiff, Nat.reduceEqDiff, Nat.reduceAdd, Int.reduceLE, Int.reduceLT, Int.reduceEq, Int.reduceAdd, Int.reduceNeg, Int.reduceToNat, Int.toNat_natCast, ne_eq, not_false_eq_true, not_true_eq_false, or_true, true_or, or_false, false_or]
            exact q
          · rw [if_neg zm] at hw
            simp only [↓eX12_weightOf_50, ↓eX12_weightOf_53, ↓eX12_weightOf_56, ↓eX12_weightOf_58, ↓eX12_weightOf_61, ↓eX12_weightOf_62, ↓eX12_weightOf_63, ↓eX12_weightOf_65, ↓eX12_weightOf_66, ↓eX12_weightOf_69, ze, zm, e5, Int.cast_ofNat_Int, kd_si, gr_si, ln_si, gi_same, gi_na, gi_ni, nl_i, nl_r, nl_j, nj_i, nj_l, nj_r, true_and, and_true, and_self, cs_0, cs_1, cs_2, cs_3, cs_4, ↓reduceIte, Nat.reduceLeDiff, Nat.reduceEqDiff, Nat.reduceAdd, Int.reduceLE, Int.reduceLT, Int.reduceEq, Int.reduceAdd, Int.reduceNeg, Int.reduceToNat, Int.toNat_natCast, ne_eq, not_false_eq_true, not_true_eq_false, or_true, true_or, or_false, false_or]
            exact ih (r + 1) (mt r) P _ (by omega) m0 dMP hw⟩)
      by_cases zm : mt r ≤ 0
      · simp only [↓eX12_weightOf_5, ↓eX12_weightOf_6, ↓eX12_weightOf_9, ↓eX12_weightOf_10, ↓eX12_weightOf_13, ↓eX12_weightOf_14, ↓eX12_weightOf_17, ↓eX12_weightOf_18, ↓eX12_weightOf_21, ↓eX12_weightOf_23, ↓eX12_weightOf_24, ↓eX12_weightOf_27, ↓eX12_weightOf_28, ↓eX12_weightOf_29, ↓eX12_weightOf_30, ↓eX12_weightOf_31, ↓eX12_weightOf_33, ↓eX12_weightOf_35, ↓eX12_weightOf_38, ↓eX12_weightOf_40, ↓eX12_weightOf_41, ↓eX12_weightOf_44, ↓eX12_weightOf_45, ↓eX12_weightOf_46, ↓eX12_weightOf_47, hk35 hN, hr35_20 hN, hr35_21 hN, hk43 hN, hl43 hN, hk44 hN, hl44 hN, e18, e43, g44, sd0, sd1, e1, w20, w21, f0, f1, zm, Int.cast_ofNat_Int, kd_si, gr_si, ln_si, gi_same, gi_na, gi_ni, nl_i, nl_r, nl_j, nj_i, nj_l, nj_r, true_and, and_true, and_self, cs_0, cs_1, cs_2, cs_3, cs_4, ↓reduceIte, Nat.reduceLeDiff, Nat.reduceEqDiff, Nat.reduceAdd, Int.reduceLE, Int.reduceLT, Int.reduceEq, Int.reduceAdd, Int.reduceNeg, Int.reduceToNat, Int.toNat_natCast, ne_eq, not_false_eq_true, not_true_eq_false, or_true, true_or, or_false, false_or]
        exact held
      · have z2 : (mt r ≤ w) = False := eq_false (by omega)
        simp only [↓eX12_weightOf_5, ↓eX12_weightOf_6, ↓eX12_weightOf_9, ↓eX12_weightOf_10, ↓eX12_weightOf_13, ↓eX12_weightOf_14, ↓eX12_weightOf_17, ↓eX12_weightOf_18, ↓eX12_weightOf_21, ↓eX12_weightOf_23, ↓eX12_weightOf_24, ↓eX12_weightOf_27, ↓eX12_weightOf_28, ↓eX12_weightOf_29, ↓eX12_weightOf_30, ↓eX12_weightOf_31, ↓eX12_weightOf_33, ↓eX12_weightOf_35, ↓eX12_weightOf_38, ↓eX12_weightOf_40, ↓eX12_weightOf_41, ↓eX12_weightOf_44, ↓eX12_weightOf_45, ↓eX12_weightOf_46, ↓eX12_weightOf_47, hk35 hN, hr35_20 hN, hr35_21 hN, hk43 hN, hl43 hN, hk44 hN, hl44 hN, e18, e43, g44, sd0, sd1, e1, w20, w21, f0, f1, zm, z2, Int.cast_ofNat_Int, kd_si, gr_si, ln_si, gi_same, gi_na, gi_ni, nl_i, nl_r, nl_j, nj_i, nj_l, nj_r, true_and, and_true, and_self, cs_0, cs_1, cs_2, cs_3, cs_4, ↓reduceIte, Nat.reduceLeDiff, Nat.reduceEqDiff, Nat.reduceAdd, Int.reduceLE, Int.reduceLT, Int.reduceEq, Int.reduceAdd, Int.reduceNeg, Int.reduceToNat, Int.toNat_natCast, ne_eq, not_false_eq_true, not_true_eq_false, or_true, true_or, or_false, false_or]
        exact held
    · have zm : (mt r ≤ 0) = False := eq_false (by omega)
      have z2 : (mt r ≤ w) = True := eq_true (by omega)
      rw [if_neg (fun q => zc q.1)] at hw
      simp only [↓eX12_weightOf_5, ↓eX12_weightOf_6, ↓eX12_weightOf_9, ↓eX12_weightOf_10, ↓eX12_weightOf_13, ↓eX12_weightOf_14, ↓eX12_weightOf_17, ↓eX12_weightOf_18, ↓eX12_weightOf_21, ↓eX12_weightOf_23, ↓eX12_weightOf_24, ↓eX12_weightOf_27, ↓eX12_weightOf_28, ↓eX12_weightOf_29, ↓eX12_weightOf_30, ↓eX12_weightOf_31, ↓eX12_weightOf_33, ↓eX12_weightOf_35, ↓eX12_weightOf_38, ↓eX12_weightOf_40, ↓eX12_weightOf_41, ↓eX12_weightOf_44, ↓eX12_weightOf_45, ↓eX12_weightOf_46, ↓eX12_weightOf_47, ↓eX12_weightOf_50, ↓eX12_weightOf_53, ↓eX12_weightOf_56, ↓eX12_weightOf_58, ↓eX12_weightOf_61, ↓eX12_weightOf_62, ↓eX12_weightOf_63, ↓eX12_weightOf_65, ↓eX12_weightOf_66, ↓eX12_weightOf_69, hk35 hN, hr35_20 hN, hr35_21 hN, hk43 hN, hl43 hN, hk44 hN, hl44 hN, e18, e43, g44, sd0, sd1, e1, e5, w20, w21, f0, f1, zm, z2, Int.cast_ofNat_Int, kd_si, gr_si, ln_si, gi_same, gi_na, gi_ni, nl_i, nl_r, nl_j, nj_i, nj_l, nj_r, true_and, and_true, and_self, cs_0, cs_1, cs_2, cs_3, cs_4, ↓reduceIte, Nat.reduceLeDiff, Nat.reduceEqDiff, Nat.reduceAdd, Int.reduceLE, Int.reduceLT, Int.reduceEq, Int.reduceAdd, Int.reduceNeg, Int.reduceToNat, Int.toNat_natCast, ne_eq, not_false_eq_true, not_true_eq_false, or_true, true_or, or_false, false_or]
      exact ih (r + 1) w N _ (by omega) hw0 hD hw
theorem y_weightOf {d : Nat} {M : mM} {Q : mV → mM → Prop} {sd R c k : Nat} {me : Nat → Env → Int} {mt : Nat → Int} (h : SH M) (hs : SFM M k) (hsd : sd ≤ 1) (h18 : gi M 35 18 = sd) (hc : c ≤ 400) (hR : R ≤ 20) (h43 : gi M 43 sd = R) (hM : MRU M sd R me mt c) (hf4 : fr M sd R ≤ 400) (he : EV (enM M k)) (hmt : ∀ r, r < R → 0 ≤ mt r)
    (hQ : ∀ N, DF (fun b => b = 71) M N → Q (vi (wgh me mt (enM M k) R 0 0)) N) : CP (mc (d + 5)) 167 [vr (some 35), vi k] M Q := by
  simp only [↓cpX12_weightOf, ↓eX12_weightOf_0, ↓eX12_weightOf_1, ↓eX12_weightOf_2, ↓eX12_weightOf_3, Int.cast_ofNat_Int, kd_si, gr_si, ln_si, gi_same, gi_na, gi_ni, nl_i, nl_r, nl_j, nj_i, nj_l, nj_r, true_and, and_true, and_self, cs_0, cs_1, cs_2, cs_3, cs_4, ↓reduceIte, Nat.reduceLeDiff, Nat.reduceEqDiff, Nat.reduceAdd, Int.reduceLE, Int.reduceLT, Int.reduceEq, Int.reduceAdd, Int.reduceNeg, Int.reduceToNat, Int.toNat_natCast, ne_eq, not_false_eq_true, not_true_eq_false, or_true, true_or, or_false, false_or]
  exact y_wgh_loop h hs hsd h18 hc hR h43 hM hf4 he hmt hQ R 0 0 M vj (by omega) (by omega) DF_refl rfl
