/-! ===== the first one that is doubted ===== -/
/-- by the facts of showings: title t, episode e; r showings left, at j -/
def dbt (M : mM) (F : Nat → Int) (k : Nat) : Nat → Nat → Int
  | 0, _ => -1
  | r + 1, j => if j ≠ k ∧ gi M 61 (F k).toNat = gi M 61 (F j).toNat ∧ (gi M 62 (F k).toNat = 0 ∨ gi M 62 (F j).toNat = 0) then (j : Int) else dbt M F k r (j + 1)
theorem x_isDoubtedWith {d : Nat} {M : mM} {Q : mV → mM → Prop} {a b : Nat} (ha : kd M a = 6) (hb : kd M b = 6) : CP (mc (d + 1)) 57 [vr (some a), vr (some b)] M Q = if gi M a 5 = gi M b 5 ∧ (gi M a 6 = 0 ∨ gi M b 6 = 0) then Q (vi 1) M else Q (vi 0) M := by
  simp only [↓cpX6_isDoubtedWith, ↓eX6_isDoubtedWith_0, ↓eX6_isDoubtedWith_1, ↓eX6_isDoubtedWith_4, ↓eX6_isDoubtedWith_5, ↓eX6_isDoubtedWith_8, ↓eX6_isDoubtedWith_11, ↓eX6_isDoubtedWith_12, ↓eX6_isDoubtedWith_15, ↓eX6_isDoubtedWith_18, ↓eX6_isDoubtedWith_19, ↓eX6_isDoubtedWith_22, ↓eX6_isDoubtedWith_25, ↓eX6_isDoubtedWith_26, ↓eX6_isDoubtedWith_29, ↓eX6_isDoubtedWith_30, ha, hb, Int.cast_ofNat_Int, kd_si, gr_si, ln_si, gi_same, gi_na, gi_ni, nl_i, nl_r, nl_j, nj_i, nj_l, nj_r, true_and, and_true, and_self, cs_0, cs_1, cs_2, cs_3, cs_4, ↓reduceIte, Nat.reduceLeDiff, Nat.reduceEqDiff, Nat.reduceAdd, Int.reduceLE, Int.reduceLT, Int.reduceEq, Int.reduceAdd, Int.reduceNeg, Int.reduceToNat, Int.toNat_natCast, ne_eq, not_false_eq_true, not_true_eq_false, or_true, true_or, or_false, false_or]
  by_cases z1 : gi M a 5 = gi M b 5
  · rw [if_pos z1]
    by_cases z2 : gi M a 6 = 0
    · rw [if_pos z2, if_pos ⟨z1, Or.inl z2⟩]
    · rw [if_neg z2]
      by_cases z3 : gi M b 6 = 0
      · rw [if_pos z3, if_pos ⟨z1, Or.inr z3⟩]
      · rw [if_neg z3, if_neg (fun w => w.2.elim z2 z3)]
  · rw [if_neg z1, if_neg (fun w => z1 w.1)]
theorem x_db_loop {d s k a : Nat} {N : mM} {Q : mV → mM → Prop} {F : Nat → Int} {cell : Nat → Nat} (h : SH N) (hs : gi N 5 0 = s) (h6 : s ≤ 600) (hk : k < s) (ha : cell k = a) (hc : ∀ j, j < s → gr N 14 j = some (cell j) ∧ kd N (cell j) = 6 ∧ gi N (cell j) 0 = j ∧ gi N (cell j) 5 = gi N 61 (F j).toNat ∧ gi N (cell j) 6 = gi N 62 (F j).toNat) :
    ∀ (r j : Nat) (a3 : mV), j + r = s → WP (mc (d + 1)) tX1_firstDoubted 2 [vr (some 5), vr (some a), vi j, a3] [] N Q = Q (vi (dbt N F k r j)) N := by
  obtain ⟨-, ka, k0, k5, k6⟩ := hc k hk
  rw [ha] at ka k0 k5 k6
  intro r
  induction r with
  | zero =>
    intro j a3 hj
    have e : j = s := by omega
    subst e
    rw [eX1_firstDoubted_2]
    simp only [↓eX1_firstDoubted_3, ↓eX1_firstDoubted_4, ↓eX1_firstDoubted_7, ↓eX1_firstDoubted_44, ↓eX1_firstDoubted_45, hk5 h, hs, Int.le_refl, Int.cast_ofNat_Int, kd_si, gr_si, ln_si, gi_same, gi_na, gi_ni, nl_i, nl_r, nl_j, nj_i, nj_l, nj_r, true_and, and_true, and_self, cs_0, cs_1, cs_2, cs_3, cs_4, ↓reduceIte, Nat.reduceLeDiff, Nat.reduceEqDiff, Nat.reduceAdd, Int.reduceLE, Int.reduceLT, Int.reduceEq, Int.reduceAdd, Int.reduceNeg, Int.reduceToNat, Int.toNat_natCast, ne_eq, not_false_eq_true, not_true_eq_false, or_true, true_or, or_false, false_or]
    rfl
  | succ r ih =>
    intro j a3 hj
    obtain ⟨g1, kb, b0, b5, b6⟩ := hc j (by omega)
    have e1 : ((s : Int) ≤ (j : Int)) = False := eq_false (by omega)
    have e2 : wr ((j : Int) + 1) = ((j + 1 : Nat) : Int) := by rw [wr_id (by omega) (by omega)]; omega
    have fa := fun (Q : mV → mM → Prop) => x_at (d := d) (N := N) (Q := Q) (k := j) h hs h6
    have c1 : 0 ≤ (j : Int) ∧ (j : Int) < s := ⟨by omega, by omega⟩
    simp only [if_pos c1, Int.toNat_natCast, g1] at fa
    have fd := fun (Q : mV → mM → Prop) => x_isDoubtedWith (d := d) (M := N) (Q := Q) (a := a) (b := cell j) ka kb
    rw [k5, k6, b5, b6] at fd
    rw [dbt, eX1_firstDoubted_2]
    by_cases z : j = k
    · have z' : ((j : Int) = (k : Int)) = True := eq_true (by omega)
      rw [if_neg (fun w => w.1 z), ← ih (j + 1) (vr (some (cell j))) (by omega)]
      simp only [↓eX1_firstDoubted_3, ↓eX1_firstDoubted_4, ↓eX1_firstDoubted_7, ↓eX1_firstDoubted_10, ↓eX1_firstDoubted_11, ↓eX1_firstDoubted_12, ↓eX1_firstDoubted_15, ↓eX1_firstDoubted_16, ↓eX1_firstDoubted_17, ↓eX1_firstDoubted_20, ↓eX1_firstDoubted_21, ↓eX1_firstDoubted_22, ↓eX1_firstDoubted_25, ↓eX1_firstDoubted_28, ↓eX1_firstDoubted_29, ↓eX1_firstDoubted_30, ↓eX1_firstDoubted_33, ↓eX1_firstDoubted_36, ↓eX1_firstDoubted_37, ↓eX1_firstDoubted_38, ↓eX1_firstDoubted_41, hk5 h, hs, e1, e2, ↓fa, ka, k0, z', reduceCtorEq, Int.cast_ofNat_Int, kd_si, gr_si, ln_si, gi_same, gi_na, gi_ni, nl_i, nl_r, nl_j, nj_i, nj_l, nj_r, true_and, and_true, and_self, cs_0, cs_1, cs_2, cs_3, cs_4, ↓reduceIte, Nat.reduceLeDiff, Nat.reduceEqDiff, Nat.reduceAdd, Int.reduceLE, Int.reduceLT, Int.reduceEq, Int.reduceAdd, Int.reduceNeg, Int.reduceToNat, Int.toNat_natCast, ne_eq, not_false_eq_true, not_true_eq_false, or_true, true_or, or_false, false_or]
    · have z' : ((j : Int) = (k : Int)) = False := eq_false (by omega)
      by_cases y : gi N 61 (F k).toNat = gi N 61 (F j).toNat ∧ (gi N 62 (F k).toNat = 0 ∨ gi N 62 (F j).toNat = 0)
      · simp only [if_pos y] at fd
        rw [if_pos ⟨z, y⟩]
        simp only [↓eX1_firstDoubted_3, ↓eX1_firstDoubted_4, ↓eX1_firstDoubted_7, ↓eX1_firstDoubted_10, ↓eX1_firstDoubted_11, ↓eX1_firstDoubted_12, ↓eX1_firstDoubted_15, ↓eX1_firstDoubted_16, ↓eX1_firstDoubted_17, ↓eX1_firstDoubted_20, ↓eX1_firstDoubted_21, ↓eX1_firstDoubted_22, ↓eX1_firstDoubted_25, ↓eX1_firstDoubted_28, ↓eX1_firstDoubted_29, ↓eX1_firstDoubted_30, ↓eX1_firstDoubted_33, ↓eX1_firstDoubted_36, ↓eX1_firstDoubted_37, ↓eX1_firstDoubted_38, ↓eX1_firstDoubted_41, hk5 h, hs, e1, e2, ↓fa, ↓fd, ka, k0, z', reduceCtorEq, Int.cast_ofNat_Int, kd_si, gr_si, ln_si, gi_same, gi_na, gi_ni, nl_i, nl_r, nl_j, nj_i, nj_l, nj_r, true_and, and_true, and_self, cs_0, cs_1, cs_2, cs_3, cs_4, ↓reduceIte, Nat.reduceLeDiff, Nat.reduceEqDiff, Nat.reduceAdd, Int.reduceLE, Int.reduceLT, Int.reduceEq, Int.reduceAdd, Int.reduceNeg, Int.reduceToNat, Int.toNat_natCast, ne_eq, not_false_eq_true, not_true_eq_false, or_true, true_or, or_false, false_or]
      · simp only [if_neg y] at fd
        rw [if_neg (fun w => y w.2), ← ih (j + 1) (vr (some (cell j))) (by omega)]
        simp only [↓eX1_firstDoubted_3, ↓eX1_firstDoubted_4, ↓eX1_firstDoubted_7, ↓eX1_firstDoubted_10, ↓eX1_firstDoubted_11, ↓eX1_firstDoubted_12, ↓eX1_firstDoubted_15, ↓eX1_firstDoubted_16, ↓eX1_firstDoubted_17, ↓eX1_firstDoubted_20, ↓eX1_firstDoubted_21, ↓eX1_firstDoubted_22, ↓eX1_firstDoubted_25, ↓eX1_firstDoubted_28, ↓eX1_firstDoubted_29, ↓eX1_firstDoubted_30, ↓eX1_firstDoubted_33, ↓eX1_firstDoubted_36, ↓eX1_firstDoubted_37, ↓eX1_firstDoubted_38, ↓eX1_firstDoubted_41, hk5 h, hs, e1, e2, ↓fa, ↓fd, ka, k0, z', reduceCtorEq, Int.cast_ofNat_Int, kd_si, gr_si, ln_si, gi_same, gi_na, gi_ni, nl_i, nl_r, nl_j, nj_i, nj_l, nj_r, true_and, and_true, and_self, cs_0, cs_1, cs_2, cs_3, cs_4, ↓reduceIte, Nat.reduceLeDiff, Nat.reduceEqDiff, Nat.reduceAdd, Int.reduceLE, Int.reduceLT, Int.reduceEq, Int.reduceAdd, Int.reduceNeg, Int.reduceToNat, Int.toNat_natCast, ne_eq, not_false_eq_true, not_true_eq_false, or_true, true_or, or_false, false_or]
