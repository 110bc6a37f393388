/-! ===== the class takes a token ===== -/
def rst (u : Nat) (M : mM) (r : Nat) : Nat := if r = 0 then 0 else (gi M (u + 2) (r - 1)).toNat
/-- the rules that are done -/
def RU (u : Nat) (M : mM) (R : Nat) (me : Nat → Env → Int) (mt : Nat → Int) : Prop := ∀ r, r < R → 0 ≤ gi M (u + 2) r ∧ rst u M r ≤ rst u M (r + 1) ∧ rst u M (r + 1) ≤ 400 ∧ gi M (u + 3) r = mt r ∧ gd (gi M (u + 1)) (rst u M r) (rst u M (r + 1) - rst u M r) ∧ ∀ e, rn (gi M (u + 1)) (rst u M r) (rst u M (r + 1) - rst u M r) e = [me r e]
theorem rst_mono {u : Nat} {M : mM} {R : Nat} {me : Nat → Env → Int} {mt : Nat → Int} (h : RU u M R me mt) : ∀ d r, r + d = R → rst u M r ≤ rst u M R := by
  intro d
  induction d with
  | zero => intro r hr; rw [← hr]; exact Nat.le_refl _
  | succ d ih =>
    intro r hr
    have := ih (r + 1) (by omega)
    have := (h r (by omega)).2.1
    omega
theorem rst_f {u : Nat} {M N : mM} (h2 : ∀ i, gi N (u + 2) i = gi M (u + 2) i) (r : Nat) : rst u N r = rst u M r := by
  unfold rst
  rw [h2]
theorem RU_f {u : Nat} {M N : mM} {R : Nat} {me : Nat → Env → Int} {mt : Nat → Int} (h2 : ∀ i, gi N (u + 2) i = gi M (u + 2) i) (h3 : ∀ i, gi N (u + 3) i = gi M (u + 3) i) (h1 : ∀ i, i < rst u M R → gi N (u + 1) i = gi M (u + 1) i) (h : RU u M R me mt) : RU u N R me mt := by
  intro r hr
  obtain ⟨a1, a2, a3, a4, a5, a6⟩ := h r hr
  have m := rst_mono h (R - (r + 1)) (r + 1) (by omega)
  rw [rst_f h2, rst_f h2, h2, h3]
  have e : ∀ j, j < rst u M (r + 1) - rst u M r → gi N (u + 1) (rst u M r + j) = gi M (u + 1) (rst u M r + j) := fun j hj => h1 _ (by omega)
  exact ⟨a1, a2, a3, a4, gd_eq e a5, fun e' => by rw [rn_eq _ e e']; exact a6 e'⟩
theorem CS_f {u : Nat} {M N : mM} {s n n' : Nat} {W : List Int} {V : Env → List Int} (h8 : gi N 18 8 = gi M 18 8) (h19 : ∀ i, gi N 19 i = gi M 19 i) (hu1 : gi N u 1 = gi M u 1) (hw : ∀ i, gi N (u + 1) i = gi M (u + 1) i) (hn : n ≤ n') (h : CS u M s n W V) : CS u N s n' W V := by
  obtain ⟨a1, a2, cl, a3, a4, a5, a6, a7⟩ := h
  exact ⟨h8.trans a1, stk_eq W (fun j _ => h19 j) a2, cl, hu1.trans a3, a4, by omega, gd_eq (fun j _ => hw _) a6, fun e => by rw [rn_eq _ (fun j _ => hw _) e]; exact a7 e⟩
def CR (u : Nat) (M : mM) : PS → Prop
  | (st, dp, cm, am, wp, nt, R, me, mt, bs, A, O, ck, L, w, V) => (gi M 18 0 = 0 ∧ gi M 18 1 = -1 ∧ gi M 18 2 = wp ∧ gi M 18 3 = st ∧ gi M 18 4 = nt ∧ gi M 18 5 = dp ∧ gi M 18 6 = (if cm = true then 1 else 0) ∧ (st ≠ 0 → gi M 18 7 = am) ∧ gi M u 0 = R) ∧ RU u M R me mt ∧ CS u M (rst u M R) nt (w ++ (cmW cm ck ++ bW bs)) (fun e => V e ++ (cmV cm L e ++ bV bs (A e) (O e)))
theorem x_wtC {d : Nat} {M : mM} {Q : mV → mM → Prop} {u s n : Nat} {k : Int} {W : List Int} {V : Env → List Int} (h : SH M) (hu : u = 21 ∨ u = 26) (hn : n ≤ 399) (hC : CS u M s n W V) (hW : ∀ x ∈ W, 11 ≤ x ∧ x ≤ 20) (hV : ∀ e, (V e).length = nops W + 1) (ht : 0 < tg k) (hl : W.length ≤ 23)
    (hQ : ∀ R, YF (wdS u s) M R → CS u R s n (pgW (tg k) W) (fun e => pgV (tg k) W (V e)) → Q vj R) : CP (mc (d + 2)) 91 [vr (some 18), vi k, vr (some u)] M Q := by
  rw [cpX9_writeTighter]
  exact x_wt h hu hn W V M YF_refl hC hW hV ht hl hQ
theorem x_op_push {d : Nat} {M : mM} {Q : mV → mM → Prop} {u s n c : Nat} {k : Int} {cm : Bool} {W : List Int} {V : Env → List Int} (h : SH M) (hu : u = 21 ∨ u = 26) (hn : n ≤ 399) (hC : CS u M s n W V) (hW : ∀ x ∈ W, 11 ≤ x ∧ x ≤ 20) (hV : ∀ e, (V e).length = nops W + 1) (hl : W.length ≤ 23) (hk : 11 ≤ k ∧ k ≤ 19) (hc : (pgW (tg k) W).length = c) (hc2 : c < 23) (h6 : gi M 18 6 = if cm = true then 1 else 0)
    (hQ : ∀ R, YF (wdS u s) M R → CS u R s n (pgW (tg k) W) (fun e => pgV (tg k) W (V e)) → Q vj (si (si (si (si R 19 c k) 18 8 (c + 1 : Nat)) 18 6 (if (13 ≤ k ∧ k ≤ 16) ∨ (cm = true ∧ 17 ≤ k ∧ k ≤ 19) then 1 else 0)) 18 3 (if k = 12 ∨ k = 11 then 3 else 4))) :
    CP (mc (d + 3)) 89 [vr (some 18), vi k, vr (some u)] M Q := by
  have ht : 0 < tg k := by
    rcases (show k = 11 ∨ k = 12 ∨ (13 ≤ k ∧ k ≤ 16) ∨ k = 17 ∨ k = 18 ∨ k = 19 by omega) with rfl | rfl | z | rfl | rfl | rfl
    · decide
    · decide
    · rw [tg_c z.1 z.2]; decide
    · decide
    · decide
    · decide
  have wt := x_wtC (d := d) (Q := fun v R => v = vj ∧ WP (mc (d + 2)) tX9_takeOperator 6 [vr (some 18), vi k, vr (some u)] [] R Q) h hu hn hC hW hV ht hl (fun R yR cR => ⟨rfl, by
    have hR := YF_SH yR h
    have r8 : gi R 18 8 = c := by rw [cR.1, hc]
    have r6 : gi R 18 6 = if cm = true then 1 else 0 := by rw [yR.2 18 6 (by unfold wdS; omega)]; exact h6
    have k21 : (k = 21) = False := eq_false (by omega)
    have k22 : (k = 22) = False := eq_false (by omega)
    have fp := fun (Q : mV → mM → Prop) => x_putOff (d := d + 1) (M := R) (Q := Q) (k := k) hR r8 hc2
    have := hQ R yR cR
    simp only [↓eX9_takeOperator_6, ↓eX9_takeOperator_7, ↓eX9_takeOperator_9, ↓eX9_takeOperator_12, ↓eX9_takeOperator_13, ↓eX9_takeOperator_14, ↓eX9_takeOperator_17, ↓eX9_takeOperator_18, ↓eX9_takeOperator_19, ↓eX9_takeOperator_20, ↓eX9_takeOperator_23, ↓eX9_takeOperator_26, ↓eX9_takeOperator_27, ↓eX9_takeOperator_28, ↓eX9_takeOperator_31, ↓eX9_takeOperator_32, ↓eX9_takeOperator_33, ↓eX9_takeOperator_36, ↓eX9_takeOperator_39, ↓eX9_takeOperator_40, ↓eX9_takeOperator_42, ↓eX9_takeOperator_45, ↓eX9_takeOperator_46, ↓eX9_takeOperator_47, ↓eX9_takeOperator_50, ↓eX9_takeOperator_53, ↓eX9_takeOperator_54, ↓eX9_takeOperator_55, ↓eX9_takeOperator_58, ↓eX9_takeOperator_59, ↓eX9_takeOperator_60, ↓eX9_takeOperator_63, ↓eX9_takeOperator_66, ↓eX9_takeOperator_67, ↓eX9_takeOperator_68, ↓eX9_takeOperator_71, ↓eX9_takeOperator_72, ↓eX9_takeOperator_73, ↓eX9_takeOperator_76, ↓eX9_takeOperator_79, ↓eX9_takeOperator_80, ↓eX9_takeOperator_83, ↓eX9_takeOperator_86, ↓eX9_takeOperator_87, ↓eX9_takeOperator_90, ↓eX9_takeOperator_93, ↓eX9_takeOperator_94, ↓eX9_takeOperator_97, ↓eX9_takeOperator_98, ↓eX9_takeOperator_101, ↓eX9_takeOperator_102, ↓eX9_takeOperator_103, ↓eX9_takeOperator_105, ↓eX9_takeOperator_108, ↓eX9_takeOperator_109, ↓eX9_takeOperator_111, ↓eX9_takeOperator_114, ↓eX9_takeOperator_115, ↓eX9_takeOperator_118, ↓eX9_takeOperator_119, ↓eX9_takeOperator_122, k21, k22, hk18 hR, ↓fp, ↓x_isComparison, ↓x_isArithmetic, r6, Int.cast_ofNat_Int, kd_si, gr_si, ln_si, gi_same, gi_na, gi_ni, nl_i, nl_r, nl_j, nj_i, nj_l, nj_r, true_and, and_true, and_self, cs_0, cs_1, cs_2, cs_3, cs_4, ↓reduceIte, Nat.reduceLeDiff, Nat.reduceEqDiff, Nat.reduceAdd, Int.reduceLE, Int.reduceLT, Int.reduceEq, Int.reduceAdd, Int.reduceNeg, Int.reduceToNat, Int.toNat_natCast, ne_eq, not_false_eq_true, not_true_eq_false, or_true, true_or, or_false, false_or]
    by_cases z1 : 13 ≤ k ∧ k ≤ 16
    · rw [if_pos (Or.inl z1), if_neg (by omega)] at this
      have n1 : (k = 12) = False := eq_false (by omega)
      have n2 : (k = 11) = False := eq_false (by omega)
      simp only [z1, n1, n2, Int.cast_ofNat_Int, kd_si, gr_si, ln_si, gi_same, gi_na, gi_ni, nl_i, nl_r, nl_j, nj_i, nj_l, nj_r, true_and, and_true, and_self, cs_0, cs_1, cs_2, cs_3, cs_4, ↓reduceIte, Nat.reduceLeDiff, Nat.reduceEqDiff, Nat.reduceAdd, Int.reduceLE, Int.reduceLT, Int.reduceEq, Int.reduceAdd, Int.reduceNeg, Int.reduceToNat, Int.toNat_natCast, ne_eq, not_false_eq_true, not_true_eq_false, or_true, true_or, or_false, false_or]
      exact this
    · have z1' : (13 ≤ k ∧ k ≤ 16) = False := eq_false z1
      simp only [z1', Int.cast_ofNat_Int, kd_si, gr_si, ln_si, gi_same, gi_na, gi_ni, nl_i, nl_r, nl_j, nj_i, nj_l, nj_r, true_and, and_true, and_self, cs_0, cs_1, cs_2, cs_3, cs_4, ↓reduceIte, Nat.reduceLeDiff, Nat.reduceEqDiff, Nat.reduceAdd, Int.reduceLE, Int.reduceLT, Int.reduceEq, Int.reduceAdd, Int.reduceNeg, Int.reduceToNat, Int.toNat_natCast, ne_eq, not_false_eq_true, not_true_eq_false, or_true, true_or, or_false, false_or]
      by_cases z2 : 17 ≤ k ∧ k ≤ 19
      · have n1 : (k = 12) = False := eq_false (by omega)
        have n2 : (k = 11) = False := eq_false (by omega)
        simp only [z2, n1, n2, Int.cast_ofNat_Int, kd_si, gr_si, ln_si, gi_same, gi_na, gi_ni, nl_i, nl_r, nl_j, nj_i, nj_l, nj_r, true_and, and_true, and_self, cs_0, cs_1, cs_2, cs_3, cs_4, ↓reduceIte, Nat.reduceLeDiff, Nat.reduceEqDiff, Nat.reduceAdd, Int.reduceLE, Int.reduceLT, Int.reduceEq, Int.reduceAdd, Int.reduceNeg, Int.reduceToNat, Int.toNat_natCast, ne_eq, not_false_eq_true, not_true_eq_false, or_true, true_or, or_false, false_or]
        rw [if_neg (show ¬ (k = 12 ∨ k = 11) by omega)] at this
        cases cm with
        | true =>
          rw [if_pos (Or.inr ⟨rfl, z2⟩)] at this
          simp only [Int.cast_ofNat_Int, kd_si, gr_si, ln_si, gi_same, gi_na, gi_ni, nl_i, nl_r, nl_j, nj_i, nj_l, nj_r, true_and, and_true, and_self, cs_0, cs_1, cs_2, cs_3, cs_4, ↓reduceIte, Nat.reduceLeDiff, Nat.reduceEqDiff, Nat.reduceAdd, Int.reduceLE, Int.reduceLT, Int.reduceEq, Int.reduceAdd, Int.reduceNeg, Int.reduceToNat, Int.toNat_natCast, ne_eq, not_false_eq_true, not_true_eq_false, or_true, true_or, or_false, false_or]
          exact this
        | false =>
          rw [if_neg (fun w => by rcases w with w | w; exact z1 w; cases w.1)] at this
          simp only [Bool.false_eq_true, Int.cast_ofNat_Int, kd_si, gr_si, ln_si, gi_same, gi_na, gi_ni, nl_i, nl_r, nl_j, nj_i, nj_l, nj_r, true_and, and_true, and_self, cs_0, cs_1, cs_2, cs_3, cs_4, ↓reduceIte, Nat.reduceLeDiff, Nat.reduceEqDiff, Nat.reduceAdd, Int.reduceLE, Int.reduceLT, Int.reduceEq, Int.reduceAdd, Int.reduceNeg, Int.reduceToNat, Int.toNat_natCast, ne_eq, not_false_eq_true, not_true_eq_false, or_true, true_or, or_false, false_or]
          exact this
      · have z2' : (17 ≤ k ∧ k ≤ 19) = False := eq_false z2
        rw [if_neg (show ¬ ((13 ≤ k ∧ k ≤ 16) ∨ (cm = true ∧ 17 ≤ k ∧ k ≤ 19)) from fun w => w.elim z1 (fun w => z2 w.2))] at this
        simp only [z2', ite_self, Int.cast_ofNat_Int, kd_si, gr_si, ln_si, gi_same, gi_na, gi_ni, nl_i, nl_r, nl_j, nj_i, nj_l, nj_r, true_and, and_true, and_self, cs_0, cs_1, cs_2, cs_3, cs_4, ↓reduceIte, Nat.reduceLeDiff, Nat.reduceEqDiff, Nat.reduceAdd, Int.reduceLE, Int.reduceLT, Int.reduceEq, Int.reduceAdd, Int.reduceNeg, Int.reduceToNat, Int.toNat_natCast, ne_eq, not_false_eq_true, not_true_eq_false, or_true, true_or, or_false, false_or]
        rcases (show k = 12 ∨ k = 11 by omega) with z | z
        · subst z
          simp only [ite_self, Int.cast_ofNat_Int, kd_si, gr_si, ln_si, gi_same, gi_na, gi_ni, nl_i, nl_r, nl_j, nj_i, nj_l, nj_r, true_and, and_true, and_self, cs_0, cs_1, cs_2, cs_3, cs_4, ↓reduceIte, Nat.reduceLeDiff, Nat.reduceEqDiff, Nat.reduceAdd, Int.reduceLE, Int.reduceLT, Int.reduceEq, Int.reduceAdd, Int.reduceNeg, Int.reduceToNat, Int.toNat_natCast, ne_eq, not_false_eq_true, not_true_eq_false, or_true, true_or, or_false, false_or] at this ⊢
          exact this
        · subst z
          simp only [ite_self, Int.cast_ofNat_Int, kd_si, gr_si, ln_si, gi_same, gi_na, gi_ni, nl_i, nl_r, nl_j, nj_i, nj_l, nj_r, true_and, and_true, and_self, cs_0, cs_1, cs_2, cs_3, cs_4, ↓reduceIte, Nat.reduceLeDiff, Nat.reduceEqDiff, Nat.reduceAdd, Int.reduceLE, Int.reduceLT, Int.reduceEq, Int.reduceAdd, Int.reduceNeg, Int.reduceToNat, Int.toNat_natCast, ne_eq, not_false_eq_true, not_true_eq_false, or_true, true_or, or_false, false_or] at this ⊢
          exact this⟩)
  simp only [↓cpX9_takeOperator, ↓eX9_takeOperator_0, ↓eX9_takeOperator_1, ↓eX9_takeOperator_2, ↓eX9_takeOperator_3, hk18 h, Int.cast_ofNat_Int, kd_si, gr_si, ln_si, gi_same, gi_na, gi_ni, nl_i, nl_r, nl_j, nj_i, nj_l, nj_r, true_and, and_true, and_self, cs_0, cs_1, cs_2, cs_3, cs_4, ↓reduceIte, Nat.reduceLeDiff, Nat.reduceEqDiff, Nat.reduceAdd, Int.reduceLE, Int.reduceLT, Int.reduceEq, Int.reduceAdd, Int.reduceNeg, Int.reduceToNat, Int.toNat_natCast, ne_eq, not_false_eq_true, not_true_eq_false, or_true, true_or, or_false, false_or]
  exact wt
theorem x_op_close {d : Nat} {M : mM} {Q : mV → mM → Prop} {u s n c dp : Nat} {W : List Int} {V : Env → List Int} (h : SH M) (hu : u = 21 ∨ u = 26) (hn : n ≤ 399) (hC : CS u M s n W V) (hW : ∀ x ∈ W, 11 ≤ x ∧ x ≤ 20) (hV : ∀ e, (V e).length = nops W + 1) (hl : W.length ≤ 23) (hc : (pgW 1 W).length = c + 1) (h5 : gi M 18 5 = dp) (hd : 0 < dp) (hd6 : dp ≤ 6) (hc6 : c ≤ 23)
    (hQ : ∀ R, YF (wdS u s) M R → CS u R s n (pgW 1 W) (fun e => pgV 1 W (V e)) → Q vj (si (si R 18 8 (c : Nat)) 18 5 (dp - 1 : Nat))) :
    CP (mc (d + 3)) 89 [vr (some 18), vi 21, vr (some u)] M Q := by
  have wt := x_wtC (d := d) (k := 21) (Q := fun v R => v = vj ∧ WP (mc (d + 2)) tX9_takeOperator 6 [vr (some 18), vi 21, vr (some u)] [] R Q) h hu hn hC hW hV (by decide) hl (fun R yR cR => ⟨rfl, by
    have hR := YF_SH yR h
    have r8 : gi R 18 8 = ((c + 1 : Nat) : Int) := by rw [cR.1]; exact congrArg _ hc
    have r5 : gi R 18 5 = dp := by rw [yR.2 18 5 (by unfold wdS; omega)]; exact h5
    have e1 : wr (((c + 1 : Nat) : Int) - 1) = (c : Int) := by rw [wr_id (by omega) (by omega)]; omega
    have e2 : mMax (c : Int) 0 = c := mMax_l (by omega)
    have e3 : wr ((dp : Int) - 1) = ((dp - 1 : Nat) : Int) := by rw [wr_id (by omega) (by omega)]; omega
    simp only [↓eX9_takeOperator_6, ↓eX9_takeOperator_7, ↓eX9_takeOperator_9, ↓eX9_takeOperator_12, ↓eX9_takeOperator_13, ↓eX9_takeOperator_14, ↓eX9_takeOperator_17, ↓eX9_takeOperator_18, ↓eX9_takeOperator_19, ↓eX9_takeOperator_20, ↓eX9_takeOperator_23, ↓eX9_takeOperator_26, ↓eX9_takeOperator_27, ↓eX9_takeOperator_28, ↓eX9_takeOperator_31, ↓eX9_takeOperator_32, ↓eX9_takeOperator_33, ↓eX9_takeOperator_36, ↓eX9_takeOperator_122, hk18 hR, r8, r5, e1, e2, e3, Int.cast_ofNat_Int, kd_si, gr_si, ln_si, gi_same, gi_na, gi_ni, nl_i, nl_r, nl_j, nj_i, nj_l, nj_r, true_and, and_true, and_self, cs_0, cs_1, cs_2, cs_3, cs_4, ↓reduceIte, Nat.reduceLeDiff, Nat.reduceEqDiff, Nat.reduceAdd, Int.reduceLE, Int.reduceLT, Int.reduceEq, Int.reduceAdd, Int.reduceNeg, Int.reduceToNat, Int.toNat_natCast, ne_eq, not_false_eq_true, not_true_eq_false, or_true, true_or, or_false, false_or]
    exact hQ R yR cR⟩)
  simp only [↓cpX9_takeOperator, ↓eX9_takeOperator_0, ↓eX9_takeOperator_1, ↓eX9_takeOperator_2, ↓eX9_takeOperator_3, hk18 h, Int.cast_ofNat_Int, kd_si, gr_si, ln_si, gi_same, gi_na, gi_ni, nl_i, nl_r, nl_j, nj_i, nj_l, nj_r, true_and, and_true, and_self, cs_0, cs_1, cs_2, cs_3, cs_4, ↓reduceIte, Nat.reduceLeDiff, Nat.reduceEqDiff, Nat.reduceAdd, Int.reduceLE, Int.reduceLT, Int.reduceEq, Int.reduceAdd, Int.reduceNeg, Int.reduceToNat, Int.toNat_natCast, ne_eq, not_false_eq_true, not_true_eq_false, or_true, true_or, or_false, false_or]
  exact wt
theorem x_endRule {d : Nat} {M : mM} {Q : mV → mM → Prop} {u R cl : Nat} {x : Int} (h : SH M) (hu : u = 21 ∨ u = 26) (h0 : gi M u 0 = R) (h1 : gi M u 1 = cl) (h2 : R < 20) : CP (mc (d + 1)) 96 [vr (some u), vi x] M Q = Q vj (si (si (si M (u + 2) R cl) (u + 3) R x) u 0 (R + 1 : Nat)) := by
  have e1 : ((20 : Int) ≤ (R : Int)) = False := eq_false (by omega)
  have e2 : (0 ≤ (R : Int)) = True := eq_true (by omega)
  have e3 : ((R : Int) < 20) = True := eq_true (by omega)
  have e4 : wr ((R : Int) + 1) = ((R + 1 : Nat) : Int) := by rw [wr_id (by omega) (by omega)]; omega
  rcases hu with rfl | rfl
  · simp only [↓cpX10_endRule, ↓eX10_endRule_0, ↓eX10_endRule_1, ↓eX10_endRule_4, ↓eX10_endRule_5, ↓eX10_endRule_8, ↓eX10_endRule_9, ↓eX10_endRule_12, ↓eX10_endRule_13, ↓eX10_endRule_16, ↓eX10_endRule_17, ↓eX10_endRule_20, ↓eX10_endRule_21, ↓eX10_endRule_24, ↓eX10_endRule_25, ↓eX10_endRule_28, ↓eX10_endRule_29, ↓eX10_endRule_32, ↓eX10_endRule_33, ↓eX10_endRule_36, ↓eX10_endRule_37, ↓eX10_endRule_38, ↓eX10_endRule_41, ↓eX10_endRule_42, ↓eX10_endRule_45, ↓eX10_endRule_46, ↓eX10_endRule_47, ↓eX10_endRule_48, ↓eX10_endRule_49, ↓eX10_endRule_52, ↓eX10_endRule_53, ↓eX10_endRule_54, ↓eX10_endRule_57, hk21 h, hr21_3 h, hr21_4 h, hk23 h, hl23 h, hk24 h, hl24 h, h0, h1, e1, e2, e3, e4, Int.cast_ofNat_Int, kd_si, gr_si, ln_si, gi_same, gi_na, gi_ni, nl_i, nl_r, nl_j, nj_i, nj_l, nj_r, true_and, and_true, and_self, cs_0, cs_1, cs_2, cs_3, cs_4, ↓reduceIte, Nat.reduceLeDiff, Nat.reduceEqDiff, Nat.reduceAdd, Int.reduceLE, Int.reduceLT, Int.reduceEq, Int.reduceAdd, Int.reduceNeg, Int.reduceToNat, Int.toNat_natCast, ne_eq, not_false_eq_true, not_true_eq_false, or_true, true_or, or_false, false_or]
  · simp only [↓cpX10_endRule, ↓eX10_endRule_0, ↓eX10_endRule_1, ↓eX10_endRule_4, ↓eX10_endRule_5, ↓eX10_endRule_8, ↓eX10_endRule_9, ↓eX10_endRule_12, ↓eX10_endRule_13, ↓eX10_endRule_16, ↓eX10_endRule_17, ↓eX10_endRule_20, ↓eX10_endRule_21, ↓eX10_endRule_24, ↓eX10_endRule_25, ↓eX10_endRule_28, ↓eX10_endRule_29, ↓eX10_endRule_32, ↓eX10_endRule_33, ↓eX10_endRule_36, ↓eX10_endRule_37, ↓eX10_endRule_38, ↓eX10_endRule_41, ↓eX10_endRule_42, ↓eX10_endRule_45, ↓eX10_endRule_46, ↓eX10_endRule_47, ↓eX10_endRule_48, ↓eX10_endRule_49, ↓eX10_endRule_52, ↓eX10_endRule_53, ↓eX10_endRule_54, ↓eX10_endRule_57, hk26 h, hr26_3 h, hr26_4 h, hk28 h, hl28 h, hk29 h, hl29 h, h0, h1, e1, e2, e3, e4, Int.cast_ofNat_Int, kd_si, gr_si, ln_si, gi_same, gi_na, gi_ni, nl_i, nl_r, nl_j, nj_i, nj_l, nj_r, true_and, and_true, and_self, cs_0, cs_1, cs_2, cs_3, cs_4, ↓reduceIte, Nat.reduceLeDiff, Nat.reduceEqDiff, Nat.reduceAdd, Int.reduceLE, Int.reduceLT, Int.reduceEq, Int.reduceAdd, Int.reduceNeg, Int.reduceToNat, Int.toNat_natCast, ne_eq, not_false_eq_true, not_true_eq_false, or_true, true_or, or_false, false_or]
theorem x_op_stop {d : Nat} {M : mM} {Q : mV → mM → Prop} {u s n R : Nat} {am : Int} {W : List Int} {V : Env → List Int} (h : SH M) (hu : u = 21 ∨ u = 26) (hn : n ≤ 399) (hC : CS u M s n W V) (hW : ∀ x ∈ W, 11 ≤ x ∧ x ≤ 20) (hV : ∀ e, (V e).length = nops W + 1) (hl : W.length ≤ 23) (h7 : gi M 18 7 = am) (h0 : gi M u 0 = R) (hR : R < 20)
    (hQ : ∀ P cl, YF (wdS u s) M P → CS u P s n (pgW 1 W) (fun e => pgV 1 W (V e)) → gi P u 1 = (cl : Nat) → Q vj (si (si (si (si (si P (u + 2) R cl) (u + 3) R am) u 0 (R + 1 : Nat)) 18 6 0) 18 3 0)) :
    CP (mc (d + 3)) 89 [vr (some 18), vi 22, vr (some u)] M Q := by
  have wt := x_wtC (d := d) (k := 22) (Q := fun v P => v = vj ∧ WP (mc (d + 2)) tX9_takeOperator 6 [vr (some 18), vi 22, vr (some u)] [] P Q) h hu hn hC hW hV (by decide) hl (fun P yP cP => ⟨rfl, by
    have hP := YF_SH yP h
    have ku : kd P u = 10 := (wsh hP hu).1
    obtain ⟨cl, hcl⟩ : ∃ cl : Nat, gi P u 1 = cl := by
      obtain ⟨-, -, cl, hcl, -⟩ := cP
      exact ⟨cl, hcl⟩
    have r7 : gi P 18 7 = am := by rw [yP.2 18 7 (by unfold wdS; omega)]; exact h7
    have r0 : gi P u 0 = R := by rw [yP.2 u 0 (by unfold wdS; omega)]; exact h0
    have fe := fun (Q : mV → mM → Prop) => x_endRule (d := d + 1) (M := P) (Q := Q) (x := am) hP hu r0 hcl hR
    simp only [↓eX9_takeOperator_6, ↓eX9_takeOperator_7, ↓eX9_takeOperator_9, ↓eX9_takeOperator_12, ↓eX9_takeOperator_13, ↓eX9_takeOperator_14, ↓eX9_takeOperator_17, ↓eX9_takeOperator_18, ↓eX9_takeOperator_19, ↓eX9_takeOperator_20, ↓eX9_takeOperator_23, ↓eX9_takeOperator_26, ↓eX9_takeOperator_27, ↓eX9_takeOperator_28, ↓eX9_takeOperator_31, ↓eX9_takeOperator_32, ↓eX9_takeOperator_33, ↓eX9_takeOperator_36, ↓eX9_takeOperator_39, ↓eX9_takeOperator_40, ↓eX9_takeOperator_42, ↓eX9_takeOperator_45, ↓eX9_takeOperator_46, ↓eX9_takeOperator_47, ↓eX9_takeOperator_50, ↓eX9_takeOperator_53, ↓eX9_takeOperator_54, ↓eX9_takeOperator_55, ↓eX9_takeOperator_58, ↓eX9_takeOperator_59, ↓eX9_takeOperator_60, ↓eX9_takeOperator_63, ↓eX9_takeOperator_122, hk18 hP, ku, r7, ↓fe, Int.cast_ofNat_Int, kd_si, gr_si, ln_si, gi_same, gi_na, gi_ni, nl_i, nl_r, nl_j, nj_i, nj_l, nj_r, true_and, and_true, and_self, cs_0, cs_1, cs_2, cs_3, cs_4, ↓reduceIte, Nat.reduceLeDiff, Nat.reduceEqDiff, Nat.reduceAdd, Int.reduceLE, Int.reduceLT, Int.reduceEq, Int.reduceAdd, Int.reduceNeg, Int.reduceToNat, Int.toNat_natCast, ne_eq, not_false_eq_true, not_true_eq_false, or_true, true_or, or_false, false_or]
    exact hQ P cl yP cP hcl⟩)
  simp only [↓cpX9_takeOperator, ↓eX9_takeOperator_0, ↓eX9_takeOperator_1, ↓eX9_takeOperator_2, ↓eX9_takeOperator_3, hk18 h, Int.cast_ofNat_Int, kd_si, gr_si, ln_si, gi_same, gi_na, gi_ni, nl_i, nl_r, nl_j, nj_i, nj_l, nj_r, true_and, and_true, and_self, cs_0, cs_1, cs_2, cs_3, cs_4, ↓reduceIte, Nat.reduceLeDiff, Nat.reduceEqDiff, Nat.reduceAdd, Int.reduceLE, Int.reduceLT, Int.reduceEq, Int.reduceAdd, Int.reduceNeg, Int.reduceToNat, Int.toNat_natCast, ne_eq, not_false_eq_true, not_true_eq_false, or_true, true_or, or_false, false_or]
  exact wt
