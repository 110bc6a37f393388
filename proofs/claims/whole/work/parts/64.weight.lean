theorem hfo_ret {N : mM} {sd lo : Nat} {e : Env} {n : Nat} (h : (hfo N sd lo n e).1 = true) : ∀ d, (hfo N sd lo (n + d) e).1 = true := by
  intro d
  induction d with
  | zero => exact h
  | succ d ih =>
    rw [← Nat.add_assoc, hfo]
    split
    · simp only [ih, Bool.true_or]
    · exact ih
theorem MRU_D {M N : mM} {sd R c : Nat} {me : Nat → Env → Int} {mt : Nat → Int} (hD : DF (fun b => b = 71) M N) (h : MRU M sd R me mt c) : MRU N sd R me mt c := MRU_f (fun r _ => hD.2 45 _ (by decide)) (fun r _ => hD.2 44 _ (by decide)) (fun a i h1 h2 _ => hD.2 a _ (fun w => by omega)) (fun j _ => ⟨hD.2 52 j (by decide), hD.2 53 j (by decide)⟩) (Nat.le_refl _) h
theorem y_held_loop {d : Nat} {M : mM} {Q : mV → mM → Prop} {sd R c r k a b : Nat} {me : Nat → Env → Int} {mt : Nat → Int} (h : SH M) (hs : SFM M k) (hsd : sd ≤ 1) (h18 : gi M 35 18 = sd) (hc : c ≤ 400) (hr : r < R) (hR : R ≤ 20) (ha : gi M 45 (21 * sd + r) = a) (hb : gi M 45 (21 * sd + (r + 1)) = b) (hb4 : b ≤ 400) (hV : ∀ i, a ≤ i → i < b → VL M sd c i)
    (hQ : ∀ N, DF (fun b => b = 71) M N → Q (vi (bi ((hfo M sd a (b - a) (enM M k)).1 || (hfo M sd a (b - a) (enM M k)).2))) N) :
    ∀ (f j : Nat) (N : mM) (a5 : mV), j + f = b - a → DF (fun b => b = 71) M N → (hfo M sd a j (enM M k)).1 = false → WP (mc (d + 3)) tX12_isHeld 18 [vr (some 35), vi r, vi k, vi (bi (hfo M sd a j (enM M k)).2), vi (a + j : Nat), a5] [] N Q := by
  intro f
  induction f with
  | zero =>
    intro j N a5 hj hD hret
    have hN := DF_SH hD h
    have ej : j = b - a := by omega
    have e18 : gi N 35 18 = sd := by rw [hD.2 35 18 (by decide)]; exact h18
    have g45 : gi N 45 (21 * sd + (r + 1)) = b := by rw [hD.2 45 _ (by decide)]; exact hb
    have w21 : wr (21 * (sd : Int)) = ((21 * sd : Nat) : Int) := by rw [wr_id (by omega) (by omega)]; omega
    have w22 : wr (((21 * sd : Nat) : Int) + (r : Int)) = ((21 * sd + r : Nat) : Int) := by rw [wr_id (by omega) (by omega)]; omega
    have w23 : wr (((21 * sd + r : Nat) : Int) + 1) = ((21 * sd + (r + 1) : Nat) : Int) := by rw [wr_id (by omega) (by omega)]; omega
    have f0 : (0 ≤ ((21 * sd + (r + 1) : Nat) : Int)) = True := eq_true (by omega)
    have f1 : (((21 * sd + (r + 1) : Nat) : Int) < 42) = True := eq_true (by omega)
    have e1 : ((b : Nat) : Int) ≤ ((a + j : Nat) : Int) := by omega
    have q := hQ N hD
    rw [← ej, hret, Bool.false_or] at q
    have bz : bi (hfo M sd a j (enM M k)).2 = 0 ∨ bi (hfo M sd a j (enM M k)).2 = 1 := by
      unfold bi; split
      · exact Or.inr rfl
      · exact Or.inl rfl
    rw [eX12_isHeld_18]
    simp only [↓eX12_isHeld_20, ↓eX12_isHeld_21, ↓eX12_isHeld_24, ↓eX12_isHeld_26, ↓eX12_isHeld_27, ↓eX12_isHeld_30, ↓eX12_isHeld_31, ↓eX12_isHeld_32, ↓eX12_isHeld_33, ↓eX12_isHeld_34, ↓eX12_isHeld_35, ↓eX12_isHeld_36, ↓eX12_isHeld_106, ↓eX12_isHeld_107, hk35 hN, hr35_22 hN, hk45 hN, hl45 hN, e18, w21, w22, w23, f0, f1, g45, e1, bz, Int.cast_ofNat_Int, kd_si, gr_si, ln_si, gi_same, gi_na, gi_ni, nl_i, nl_r, nl_j, nj_i, nj_l, nj_r, true_and, and_true, and_self, cs_0, cs_1, cs_2, cs_3, cs_4, ↓reduceIte, Nat.reduceLeDiff, Nat.reduceEqDiff, Nat.reduceAdd, Int.reduceLE, Int.reduceLT, Int.reduceEq, Int.reduceAdd, Int.reduceNeg, Int.reduceToNat, Int.toNat_natCast, ne_eq, not_false_eq_true, not_true_eq_false, or_true, true_or, or_false, false_or]
    exact q
  | succ f ih =>
    intro j N a5 hj hD hret
    have hN := DF_SH hD h
    have e18 : gi N 35 18 = sd := by rw [hD.2 35 18 (by decide)]; exact h18
    have g45 : gi N 45 (21 * sd + (r + 1)) = b := by rw [hD.2 45 _ (by decide)]; exact hb
    have w21 : wr (21 * (sd : Int)) = ((21 * sd : Nat) : Int) := by rw [wr_id (by omega) (by omega)]; omega
    have w22 : wr (((21 * sd : Nat) : Int) + (r : Int)) = ((21 * sd + r : Nat) : Int) := by rw [wr_id (by omega) (by omega)]; omega
    have w23 : wr (((21 * sd + r : Nat) : Int) + 1) = ((21 * sd + (r + 1) : Nat) : Int) := by rw [wr_id (by omega) (by omega)]; omega
    have f0 : (0 ≤ ((21 * sd + (r + 1) : Nat) : Int)) = True := eq_true (by omega)
    have f1 : (((21 * sd + (r + 1) : Nat) : Int) < 42) = True := eq_true (by omega)
    have e1 : (((b : Nat) : Int) ≤ ((a + j : Nat) : Int)) = False := eq_false (by omega)
    have w4 : wr (400 * (sd : Int)) = ((400 * sd : Nat) : Int) := by rw [wr_id (by omega) (by omega)]; omega
    have w5 : wr (((400 * sd : Nat) : Int) + ((a + j : Nat) : Int)) = ((400 * sd + (a + j) : Nat) : Int) := by rw [wr_id (by omega) (by omega)]; omega
    have w6 : wr (((a + j : Nat) : Int) + 1) = ((a + (j + 1) : Nat) : Int) := by rw [wr_id (by omega) (by omega)]; omega
    have l0 : (0 ≤ ((400 * sd + (a + j) : Nat) : Int)) = True := eq_true (by omega)
    have l1 : (((400 * sd + (a + j) : Nat) : Int) < 800) = True := eq_true (by omega)
    have g51 : gi N 51 (400 * sd + (a + j)) = gi M 51 (400 * sd + (a + j)) := hD.2 51 _ (by decide)
    have vl := hV (a + j) (by omega) (by omega)
    obtain ⟨vlN, xN⟩ := VL_D hD vl
    have step : hfo M sd a (j + 1) (enM M k) = if gi M 51 (400 * sd + (a + j)) ≠ 0 then ((hfo M sd a j (enM M k)).1 || (hfo M sd a j (enM M k)).2, decide (xl M sd (a + j) (enM M k) ≠ 0)) else ((hfo M sd a j (enM M k)).1, (hfo M sd a j (enM M k)).2 && decide (xl M sd (a + j) (enM M k) ≠ 0)) := rfl
    -- isTrue, and on
    have call : (hfo M sd a (j + 1) (enM M k)) = (false, decide (xl M sd (a + j) (enM M k) ≠ 0)) → WP (mc (d + 3)) tX12_isHeld 84 [vr (some 35), vi r, vi k, vi 1, vi (a + j : Nat), vi (400 * sd + (a + j) : Nat)] [] N Q := fun hst => by
      have it := y_isTrue (d := d) (M := N) (sd := sd) (c := c) (i := a + j) (k := k) (Q := fun v P => v ≠ vj ∧ WP (mc (d + 3)) tX12_isHeld 91 [vr (some 35), vi r, vi k, vi 1, vi (a + j : Nat), vi (400 * sd + (a + j) : Nat)] [v] P Q) hN (SFM_D hD hs) hsd (by omega) hc vlN (fun P dP => ⟨(fun q => by cases q), by
        have dMP := DF_trans hD dP
        rw [xN, enM_eq hD]
        have ihh := ih (j + 1) P (vi (400 * sd + (a + j) : Nat)) (by omega) dMP (by rw [hst])
        rw [hst] at ihh
        by_cases z : xl M sd (a + j) (enM M k) = 0
        · have ihh' : WP (mc (d + 3)) tX12_isHeld 18 [vr (some 35), vi r, vi k, vi 0, vi (a + (j + 1) : Nat), vi (400 * sd + (a + j) : Nat)] [] P Q := by
            have e : bi (decide (xl M sd (a + j) (enM M k) ≠ 0)) = 0 := by rw [decide_eq_false (fun w => w z)]; rfl
            simp only [e] at ihh
            exact ihh
          simp only [↓eX12_isHeld_91, ↓eX12_isHeld_94, ↓eX12_isHeld_95, ↓eX12_isHeld_98, ↓eX12_isHeld_99, ↓eX12_isHeld_100, ↓eX12_isHeld_103, z, w6, Int.cast_ofNat_Int, kd_si, gr_si, ln_si, gi_same, gi_na, gi_ni, nl_i, nl_r, nl_j, nj_i, nj_l, nj_r, true_and, and_true, and_self, cs_0, cs_1, cs_2, cs_3, cs_4, ↓reduceIte, Nat.reduceLeDiff, Nat.reduceEqDiff, Nat.reduceAdd, Int.reduceLE, Int.reduceLT, Int.reduceEq, Int.reduceAdd, Int.reduceNeg, Int.reduceToNat, Int.toNat_natCast, ne_eq, not_false_eq_true, not_true_eq_false, or_true, true_or, or_false, false_or]
          exact ihh'
        · have ihh' : WP (mc (d + 3)) tX12_isHeld 18 [vr (some 35), vi r, vi k, vi 1, vi (a + (j + 1) : Nat), vi (400 * sd + (a + j) : Nat)] [] P Q := by
            have e : bi (decide (xl M sd (a + j) (enM M k) ≠ 0)) = 1 := by rw [decide_eq_true z]; rfl
            simp only [e] at ihh
            exact ihh
          simp only [↓eX12_isHeld_91, ↓eX12_isHeld_94, ↓eX12_isHeld_95, ↓eX12_isHeld_98, ↓eX12_isHeld_99, ↓eX12_isHeld_100, ↓eX12_isHeld_103, z, w6, Int.cast_ofNat_Int, kd_si, gr_si, ln_si, gi_same, gi_na, gi_ni, nl_i, nl_r, nl_j, nj_i, nj_l, nj_r, true_and, and_true, and_self, cs_0, cs_1, cs_2, cs_3, cs_4, ↓reduceIte, Nat.reduceLeDiff, Nat.reduceEqDiff, Nat.reduceAdd, Int.reduceLE, Int.reduceLT, Int.reduceEq, Int.reduceAdd, Int.reduceNeg, Int.reduceToNat, Int.toNat_natCast, ne_eq, not_false_eq_true, not_true_eq_false, or_true, true_or, or_false, false_or]
          exact ihh'⟩)
      simp only [↓eX12_isHeld_84, ↓eX12_isHeld_85, ↓eX12_isHeld_87, ↓eX12_isHeld_88, hk35 hN, Int.cast_ofNat_Int, kd_si, gr_si, ln_si, gi_same, gi_na, gi_ni, nl_i, nl_r, nl_j, nj_i, nj_l, nj_r, true_and, and_true, and_self, cs_0, cs_1, cs_2, cs_3, cs_4, ↓reduceIte, Nat.reduceLeDiff, Nat.reduceEqDiff, Nat.reduceAdd, Int.reduceLE, Int.reduceLT, Int.reduceEq, Int.reduceAdd, Int.reduceNeg, Int.reduceToNat, Int.toNat_natCast, ne_eq, not_false_eq_true, not_true_eq_false, or_true, true_or, or_false, false_or]
      exact it
    cases hal : (hfo M sd a j (enM M k)).2 with
    | true =>
      have b1 : bi true = 1 := rfl
      by_cases zo : gi M 51 (400 * sd + (a + j)) = 0
      · have hst : hfo M sd a (j + 1) (enM M k) = (false, decide (xl M sd (a + j) (enM M k) ≠ 0)) := by
          rw [step, if_neg (fun w => w zo), hret, hal, Bool.true_and]
        have := call hst
        rw [b1, eX12_isHeld_18]
        simp only [↓eX12_isHeld_20, ↓eX12_isHeld_21, ↓eX12_isHeld_24, ↓eX12_isHeld_26, ↓eX12_isHeld_27, ↓eX12_isHeld_30, ↓eX12_isHeld_31, ↓eX12_isHeld_32, ↓eX12_isHeld_33, ↓eX12_isHeld_34, ↓eX12_isHeld_35, ↓eX12_isHeld_36, ↓eX12_isHeld_39, ↓eX12_isHeld_42, ↓eX12_isHeld_43, ↓eX12_isHeld_46, ↓eX12_isHeld_47, ↓eX12_isHeld_49, ↓eX12_isHeld_50, ↓eX12_isHeld_52, ↓eX12_isHeld_53, ↓eX12_isHeld_56, ↓eX12_isHeld_58, ↓eX12_isHeld_59, ↓eX12_isHeld_62, ↓eX12_isHeld_63, ↓eX12_isHeld_66, ↓eX12_isHeld_67, ↓eX12_isHeld_68, ↓eX12_isHeld_69, ↓eX12_isHeld_72, ↓eX12_isHeld_74, ↓eX12_isHeld_75, ↓eX12_isHeld_78, ↓eX12_isHeld_79, ↓eX12_isHeld_80, ↓eX12_isHeld_81, hk35 hN, hr35_22 hN, hk45 hN, hl45 hN, hr35_28 hN, hk51 hN, hl51 hN, e18, w21, w22, w23, f0, f1, g45, e1, w4, w5, l0, l1, g51, zo, Int.cast_ofNat_Int, kd_si, gr_si, ln_si, gi_same, gi_na, gi_ni, nl_i, nl_r, nl_j, nj_i, nj_l, nj_r, true_and, and_true, and_self, cs_0, cs_1, cs_2, cs_3, cs_4, ↓reduceIte, Nat.reduceLeDiff, Nat.reduceEqDiff, Nat.reduceAdd, Int.reduceLE, Int.reduceLT, Int.reduceEq, Int.reduceAdd, Int.reduceNeg, Int.reduceToNat, Int.toNat_natCast, ne_eq, not_false_eq_true, not_true_eq_false, or_true, true_or, or_false, false_or]
        exact this
      · have q := hQ N hD
        have hret' : (hfo M sd a (j + 1) (enM M k)).1 = true := by
          rw [step, if_pos zo, hal, Bool.or_true]
        have hfin := hfo_ret hret' (b - a - (j + 1))
        rw [show j + 1 + (b - a - (j + 1)) = b - a by omega] at hfin
        rw [hfin, Bool.true_or] at q
        rw [b1, eX12_isHeld_18]
        simp only [↓eX12_isHeld_20, ↓eX12_isHeld_21, ↓eX12_isHeld_24, ↓eX12_isHeld_26, ↓eX12_isHeld_27, ↓eX12_isHeld_30, ↓eX12_isHeld_31, ↓eX12_isHeld_32, ↓eX12_isHeld_33, ↓eX12_isHeld_34, ↓eX12_isHeld_35, ↓eX12_isHeld_36, ↓eX12_isHeld_39, ↓eX12_isHeld_42, ↓eX12_isHeld_43, ↓eX12_isHeld_46, ↓eX12_isHeld_47, ↓eX12_isHeld_49, ↓eX12_isHeld_50, ↓eX12_isHeld_52, ↓eX12_isHeld_53, ↓eX12_isHeld_56, ↓eX12_isHeld_58, ↓eX12_isHeld_59, ↓eX12_isHeld_62, ↓eX12_isHeld_63, ↓eX12_isHeld_66, ↓eX12_isHeld_67, hk35 hN, hr35_22 hN, hk45 hN, hl45 hN, hr35_28 hN, hk51 hN, hl51 hN, e18, w21, w22, w23, f0, f1, g45, e1, w4, w5, l0, l1, g51, zo, Int.cast_ofNat_Int, kd_si, gr_si, ln_si, gi_same, gi_na, gi_ni, nl_i, nl_r, nl_j, nj_i, nj_l, nj_r, true_and, and_true, and_self, cs_0, cs_1, cs_2, cs_3, cs_4, ↓reduceIte, Nat.reduceLeDiff, Nat.reduceEqDiff, Nat.reduceAdd, Int.reduceLE, Int.reduceLT, Int.reduceEq, Int.reduceAdd, Int.reduceNeg, Int.reduceToNat, Int.toNat_natCast, ne_eq, not_false_eq_true, not_true_eq_false, or_true, true_or, or_false, false_or]
        exact q
    | false =>
      have b0 : bi false = 0 := rfl
      by_cases zo : gi M 51 (400 * sd + (a + j)) = 0
      · have hst : hfo M sd a (j + 1) (enM M k) = (false, false) := by
          rw [step, if_neg (fun w => w zo), hret, hal, Bool.false_and]
        have ihh := ih (j + 1) N (vi (400 * sd + (a + j) : Nat)) (by omega) hD (by rw [hst])
        rw [hst] at ihh
        simp only [b0] at ihh
        rw [b0, eX12_isHeld_18]
        simp only [↓eX12_isHeld_20, ↓eX12_isHeld_21, ↓eX12_isHeld_24, ↓eX12_isHeld_26, ↓eX12_isHeld_27, ↓eX12_isHeld_30, ↓eX12_isHeld_31, ↓eX12_isHeld_32, ↓eX12_isHeld_33, ↓eX12_isHeld_34, ↓eX12_isHeld_35, ↓eX12_isHeld_36, ↓eX12_isHeld_39, ↓eX12_isHeld_42, ↓eX12_isHeld_43, ↓eX12_isHeld_46, ↓eX12_isHeld_47, ↓eX12_isHeld_49, ↓eX12_isHeld_50, ↓eX12_isHeld_52, ↓eX12_isHeld_53, ↓eX12_isHeld_56, ↓eX12_isHeld_58, ↓eX12_isHeld_59, ↓eX12_isHeld_62, ↓eX12_isHeld_63, ↓eX12_isHeld_66, ↓eX12_isHeld_67, ↓eX12_isHeld_68, ↓eX12_isHeld_69, ↓eX12_isHeld_72, ↓eX12_isHeld_74, ↓eX12_isHeld_75, ↓eX12_isHeld_78, ↓eX12_isHeld_79, ↓eX12_isHeld_80, ↓eX12_isHeld_81, ↓eX12_isHeld_84, ↓eX12_isHeld_85, ↓eX12_isHeld_87, ↓eX12_isHeld_88, ↓eX12_isHeld_91, ↓eX12_isHeld_94, ↓eX12_isHeld_95, ↓eX12_isHeld_98, ↓eX12_isHeld_99, ↓eX12_isHeld_100, ↓eX12_isHeld_103, hk35 hN, hr35_22 hN, hk45 hN, hl45 hN, hr35_28 hN, hk51 hN, hl51 hN, e18, w21, w22, w23, f0, f1, g45, e1, w4, w5, w6, l0, l1, g51, zo, Int.cast_ofNat_Int, kd_si, gr_si, ln_si, gi_same, gi_na, gi_ni, nl_i, nl_r, nl_j, nj_i, nj_l, nj_r, true_and, and_true, and_self, cs_0, cs_1, cs_2, cs_3, cs_4, ↓reduceIte, Nat.reduceLeDiff, Nat.reduceEqDiff, Nat.reduceAdd, Int.reduceLE, Int.reduceLT, Int.reduceEq, Int.reduceAdd, Int.reduceNeg, Int.reduceToNat, Int.toNat_natCast, ne_eq, not_false_eq_true, not_true_eq_false, or_true, true_or, or_false, false_or]
        exact ihh
      · have hst : hfo M sd a (j + 1) (enM M k) = (false, decide (xl M sd (a + j) (enM M k) ≠ 0)) := by
          rw [step, if_pos zo, hret, hal, Bool.or_self]
        have := call hst
        rw [b0, eX12_isHeld_18]
        simp only [↓eX12_isHeld_20, ↓eX12_isHeld_21, ↓eX12_isHeld_24, ↓eX12_isHeld_26, ↓eX12_isHeld_27, ↓eX12_isHeld_30, ↓eX12_isHeld_31, ↓eX12_isHeld_32, ↓eX12_isHeld_33, ↓eX12_isHeld_34, ↓eX12_isHeld_35, ↓eX12_isHeld_36, ↓eX12_isHeld_39, ↓eX12_isHeld_42, ↓eX12_isHeld_43, ↓eX12_isHeld_46, ↓eX12_isHeld_47, ↓eX12_isHeld_49, ↓eX12_isHeld_50, ↓eX12_isHeld_52, ↓eX12_isHeld_53, ↓eX12_isHeld_56, ↓eX12_isHeld_58, ↓eX12_isHeld_59, ↓eX12_isHeld_62, ↓eX12_isHeld_63, ↓eX12_isHeld_66, ↓eX12_isHeld_67, ↓eX12_isHeld_68, ↓eX12_isHeld_69, ↓eX12_isHeld_72, ↓eX12_isHeld_74, ↓eX12_isHeld_75, ↓eX12_isHeld_78, ↓eX12_isHeld_79, ↓eX12_isHeld_80, ↓eX12_isHeld_81, hk35 hN, hr35_22 hN, hk45 hN, hl45 hN, hr35_28 hN, hk51 hN, hl51 hN, e18, w21, w22, w23, f0, f1, g45, e1, w4, w5, l0, l1, g51, zo, Int.cast_ofNat_Int, kd_si, gr_si, ln_si, gi_same, gi_na, gi_ni, nl_i, nl_r, nl_j, nj_i, nj_l, nj_r, true_and, and_true, and_self, cs_0, cs_1, cs_2, cs_3, cs_4, ↓reduceIte, Nat.reduceLeDiff, Nat.reduceEqDiff, Nat.reduceAdd, Int.reduceLE, Int.reduceLT, Int.reduceEq, Int.reduceAdd, Int.reduceNeg, Int.reduceToNat, Int.toNat_natCast, ne_eq, not_false_eq_true, not_true_eq_false, or_true, true_or, or_false, false_or]
        exact this
