/-! ===== the reference pushes ===== -/
theorem y_pu_1 {C : mC} {Q : mV → mM → Prop} {c t d : Nat} {f : Int} {N : mM} {a6 : mV} {row : Nat → Int} (h : SH N) (hc : c < 6) (ht : 1 ≤ t) (ht2 : t ≤ 287) (hd : d ≤ 48) (hr : ∀ j, j < 288 → gi N 65 (288 * c + j) = row j) (hf : row (t - 1) = f) :
    ∀ r k : Nat, k + r = 288 → WP C tX12_pushes 32 [vr (some 35), vi (288 * c : Nat), vi t, vi d, vi f, vi k, a6] [] (rwM N 66 0 k (ps0 row t d)) Q = WP C tX12_pushes 85 [vr (some 35), vi (288 * c : Nat), vi t, vi d, vi f, vi 288, a6] [] (rwM N 66 0 288 (ps0 row t d)) Q := by
  intro r
  induction r with
  | zero =>
    intro k hi
    have e : k = 288 := by omega
    subst e
    rw [eX12_pushes_32]
    simp only [↓eX12_pushes_34, ↓eX12_pushes_37, Int.le_refl, Int.cast_ofNat_Int, kd_si, gr_si, ln_si, gi_same, gi_na, gi_ni, nl_i, nl_r, nl_j, nj_i, nj_l, nj_r, true_and, and_true, and_self, cs_0, cs_1, cs_2, cs_3, cs_4, ↓reduceIte, Nat.reduceLeDiff, Nat.reduceEqDiff, Nat.reduceAdd, Int.reduceLE, Int.reduceLT, Int.reduceEq, Int.reduceAdd, Int.reduceNeg, Int.reduceToNat, Int.toNat_natCast, ne_eq, not_false_eq_true, not_true_eq_false, or_true, true_or, or_false, false_or]
  | succ r ih =>
    intro k hi
    have hR : SH (rwM N 66 0 k (ps0 row t d)) := h
    have e : ((288 : Int) ≤ (k : Int)) = False := eq_false (by omega)
    have e2 : wr ((k : Int) + 1) = ((k + 1 : Nat) : Int) := by rw [wr_id (by omega) (by omega)]; omega
    have i0 : (0 ≤ ((288 * c + k : Nat) : Int)) = True := eq_true (by omega)
    have i1 : (((288 * c + k : Nat) : Int) < 1728) = True := eq_true (by omega)
    have k0 : (0 ≤ (k : Int)) = True := eq_true (by omega)
    have k1 : ((k : Int) < 288) = True := eq_true (by omega)
    have td : wr ((t : Int) + (d : Int)) = ((t + d : Nat) : Int) := by rw [wr_id (by omega) (by omega)]; omega
    have g65 : gi (rwM N 66 0 k (ps0 row t d)) 65 (288 * c + k) = row k := by rw [gi_rwn (by decide)]; exact hr k (by omega)
    have step : ∀ v, ps0 row t d k = v → si (rwM N 66 0 k (ps0 row t d)) 66 k v = rwM N 66 0 (k + 1) (ps0 row t d) := fun v hv => by
      have := rwM_si (N := N) (a := 66) (lo := 0) (t := k) (f := ps0 row t d) hv
      rw [Nat.zero_add] at this
      exact this
    rw [eX12_pushes_32]
    by_cases q : k < t
    · have q' : ((t : Int) ≤ (k : Int)) = False := eq_false (by omega)
      simp only [↓eX12_pushes_34, ↓eX12_pushes_37, ↓eX12_pushes_40, ↓eX12_pushes_41, ↓eX12_pushes_44, ↓eX12_pushes_46, ↓eX12_pushes_48, ↓eX12_pushes_49, ↓eX12_pushes_52, ↓eX12_pushes_53, ↓eX12_pushes_56, ↓eX12_pushes_57, ↓eX12_pushes_59, ↓eX12_pushes_60, ↓eX12_pushes_61, ↓eX12_pushes_64, ↓eX12_pushes_66, ↓eX12_pushes_67, ↓eX12_pushes_68, ↓eX12_pushes_69, ↓eX12_pushes_72, ↓eX12_pushes_74, ↓eX12_pushes_77, ↓eX12_pushes_78, ↓eX12_pushes_79, ↓eX12_pushes_82, e, e2, q', w289 hc (show k < 288 by omega), i0, i1, k0, k1, g65, hk35 hR, hr35_53 hR, hr35_54 hR, hk65 hR, hl65 hR, hk66 hR, hl66 hR, Int.cast_ofNat_Int, kd_si, gr_si, ln_si, gi_same, gi_na, gi_ni, nl_i, nl_r, nl_j, nj_i, nj_l, nj_r, true_and, and_true, and_self, cs_0, cs_1, cs_2, cs_3, cs_4, ↓reduceIte, Nat.reduceLeDiff, Nat.reduceEqDiff, Nat.reduceAdd, Int.reduceLE, Int.reduceLT, Int.reduceEq, Int.reduceAdd, Int.reduceNeg, Int.reduceToNat, Int.toNat_natCast, ne_eq, not_false_eq_true, not_true_eq_false, or_true, true_or, or_false, false_or]
      rw [step _ (by unfold ps0; rw [if_pos q])]
      exact ih (k + 1) (by omega)
    · have q' : ((t : Int) ≤ (k : Int)) = True := eq_true (by omega)
      by_cases q2 : k < t + d
      · have q3 : (((t + d : Nat) : Int) ≤ (k : Int)) = False := eq_false (by omega)
        simp only [↓eX12_pushes_34, ↓eX12_pushes_37, ↓eX12_pushes_40, ↓eX12_pushes_41, ↓eX12_pushes_44, ↓eX12_pushes_46, ↓eX12_pushes_48, ↓eX12_pushes_49, ↓eX12_pushes_52, ↓eX12_pushes_53, ↓eX12_pushes_56, ↓eX12_pushes_57, ↓eX12_pushes_59, ↓eX12_pushes_60, ↓eX12_pushes_61, ↓eX12_pushes_64, ↓eX12_pushes_66, ↓eX12_pushes_67, ↓eX12_pushes_68, ↓eX12_pushes_69, ↓eX12_pushes_72, ↓eX12_pushes_74, ↓eX12_pushes_77, ↓eX12_pushes_78, ↓eX12_pushes_79, ↓eX12_pushes_82, e, e2, q', q3, td, k0, k1, hk35 hR, hr35_54 hR, hk66 hR, hl66 hR, Int.cast_ofNat_Int, kd_si, gr_si, ln_si, gi_same, gi_na, gi_ni, nl_i, nl_r, nl_j, nj_i, nj_l, nj_r, true_and, and_true, and_self, cs_0, cs_1, cs_2, cs_3, cs_4, ↓reduceIte, Nat.reduceLeDiff, Nat.reduceEqDiff, Nat.reduceAdd, Int.reduceLE, Int.reduceLT, Int.reduceEq, Int.reduceAdd, Int.reduceNeg, Int.reduceToNat, Int.toNat_natCast, ne_eq, not_false_eq_true, not_true_eq_false, or_true, true_or, or_false, false_or]
        rw [step _ (by unfold ps0; rw [if_neg q, if_pos q2, hf])]
        exact ih (k + 1) (by omega)
      · have q3 : (((t + d : Nat) : Int) ≤ (k : Int)) = True := eq_true (by omega)
        simp only [↓eX12_pushes_34, ↓eX12_pushes_37, ↓eX12_pushes_40, ↓eX12_pushes_41, ↓eX12_pushes_44, ↓eX12_pushes_46, ↓eX12_pushes_48, ↓eX12_pushes_49, ↓eX12_pushes_52, ↓eX12_pushes_53, ↓eX12_pushes_56, ↓eX12_pushes_57, ↓eX12_pushes_59, ↓eX12_pushes_60, ↓eX12_pushes_61, ↓eX12_pushes_64, ↓eX12_pushes_66, ↓eX12_pushes_67, ↓eX12_pushes_68, ↓eX12_pushes_69, ↓eX12_pushes_72, ↓eX12_pushes_74, ↓eX12_pushes_77, ↓eX12_pushes_78, ↓eX12_pushes_79, ↓eX12_pushes_82, e, e2, q', q3, td, k0, k1, hk35 hR, hr35_54 hR, hk66 hR, hl66 hR, Int.cast_ofNat_Int, kd_si, gr_si, ln_si, gi_same, gi_na, gi_ni, nl_i, nl_r, nl_j, nj_i, nj_l, nj_r, true_and, and_true, and_self, cs_0, cs_1, cs_2, cs_3, cs_4, ↓reduceIte, Nat.reduceLeDiff, Nat.reduceEqDiff, Nat.reduceAdd, Int.reduceLE, Int.reduceLT, Int.reduceEq, Int.reduceAdd, Int.reduceNeg, Int.reduceToNat, Int.toNat_natCast, ne_eq, not_false_eq_true, not_true_eq_false, or_true, true_or, or_false, false_or]
        rw [step _ (by unfold ps0; rw [if_neg q, if_neg q2])]
        exact ih (k + 1) (by omega)
theorem y_pu_2 {C : mC} {Q : mV → mM → Prop} {c : Nat} {a2 a3 : mV} {f : Int} {N : mM} {row G : Nat → Int} (h : SH N) (hc : c < 6) (hr : ∀ j, j < 288 → gi N 65 (288 * c + j) = row j)
    (hQ : ∀ (p : Int) R, DF (fun a => a = 66) N R → (∀ j, j < 288 → gi R 66 j = G j) → WP C tX12_pushes 159 [vr (some 35), vi (288 * c : Nat), a2, a3, vi f, vi p, vi 288] [] R Q) :
    ∀ (r k p : Nat) (cur : Nat → Int) (R : mM), k + r = 288 → p ≤ 48 → DF (fun a => a = 66) N R → (∀ j, j < 288 → gi R 66 j = cur j) → (∀ j, j < 288 → psr row r k p cur j = G j) → WP C tX12_pushes 91 [vr (some 35), vi (288 * c : Nat), a2, a3, vi f, vi p, vi k] [] R Q := by
  intro r
  induction r with
  | zero =>
    intro k p cur R hi hp hD h66 hG
    have e : k = 288 := by omega
    subst e
    rw [eX12_pushes_91]
    simp only [↓eX12_pushes_93, ↓eX12_pushes_96, Int.le_refl, Int.cast_ofNat_Int, kd_si, gr_si, ln_si, gi_same, gi_na, gi_ni, nl_i, nl_r, nl_j, nj_i, nj_l, nj_r, true_and, and_true, and_self, cs_0, cs_1, cs_2, cs_3, cs_4, ↓reduceIte, Nat.reduceLeDiff, Nat.reduceEqDiff, Nat.reduceAdd, Int.reduceLE, Int.reduceLT, Int.reduceEq, Int.reduceAdd, Int.reduceNeg, Int.reduceToNat, Int.toNat_natCast, ne_eq, not_false_eq_true, not_true_eq_false, or_true, true_or, or_false, false_or]
    refine hQ p R hD (fun j hj => ?_)
    rw [h66 j hj, ← hG j hj, psr]
  | succ r ih =>
    intro k p cur R hi hp hD h66 hG
    have hR := DF_SH hD h
    have e : ((288 : Int) ≤ (k : Int)) = False := eq_false (by omega)
    have e2 : wr ((k : Int) + 1) = ((k + 1 : Nat) : Int) := by rw [wr_id (by omega) (by omega)]; omega
    have i0 : (0 ≤ ((288 * c + k : Nat) : Int)) = True := eq_true (by omega)
    have i1 : (((288 * c + k : Nat) : Int) < 1728) = True := eq_true (by omega)
    have kp : wr ((k : Int) + (p : Int)) = ((k + p : Nat) : Int) := by rw [wr_id (by omega) (by omega)]; omega
    have g65 : gi R 65 (288 * c + k) = row k := by rw [hD.2 65 _ (by decide)]; exact hr k (by omega)
    rw [eX12_pushes_91]
    by_cases q : row k = -1 ∧ 0 < p
    · have p1 : ((p : Int) ≤ 0) = False := eq_false (by omega)
      have p2 : wr ((p : Int) + (-1)) = ((p - 1 : Nat) : Int) := by rw [wr_id (by omega) (by omega)]; omega
      simp only [↓eX12_pushes_93, ↓eX12_pushes_96, ↓eX12_pushes_99, ↓eX12_pushes_100, ↓eX12_pushes_103, ↓eX12_pushes_104, ↓eX12_pushes_106, ↓eX12_pushes_107, ↓eX12_pushes_108, ↓eX12_pushes_109, ↓eX12_pushes_112, ↓eX12_pushes_114, ↓eX12_pushes_117, ↓eX12_pushes_120, ↓eX12_pushes_123, ↓eX12_pushes_125, ↓eX12_pushes_127, ↓eX12_pushes_128, ↓eX12_pushes_131, ↓eX12_pushes_134, ↓eX12_pushes_135, ↓eX12_pushes_138, ↓eX12_pushes_140, ↓eX12_pushes_142, ↓eX12_pushes_143, ↓eX12_pushes_144, ↓eX12_pushes_147, ↓eX12_pushes_148, ↓eX12_pushes_150, ↓eX12_pushes_151, ↓eX12_pushes_152, ↓eX12_pushes_153, ↓eX12_pushes_156, e, e2, w289 hc (show k < 288 by omega), i0, i1, g65, q.1, p1, p2, hk35 hR, hr35_53 hR, hk65 hR, hl65 hR, Int.cast_ofNat_Int, kd_si, gr_si, ln_si, gi_same, gi_na, gi_ni, nl_i, nl_r, nl_j, nj_i, nj_l, nj_r, true_and, and_true, and_self, cs_0, cs_1, cs_2, cs_3, cs_4, ↓reduceIte, Nat.reduceLeDiff, Nat.reduceEqDiff, Nat.reduceAdd, Int.reduceLE, Int.reduceLT, Int.reduceEq, Int.reduceAdd, Int.reduceNeg, Int.reduceToNat, Int.toNat_natCast, ne_eq, not_false_eq_true, not_true_eq_false, or_true, true_or, or_false, false_or]
      refine ih (k + 1) (p - 1) cur R (by omega) (by omega) hD h66 (fun j hj => ?_)
      rw [← hG j hj, psr, if_pos q]
    · have to123 : ∀ X Y : Prop, (if row k = -1 then (if (p : Int) ≤ 0 then X else Y) else X) = X := fun X Y => by
        by_cases z : row k = -1
        · rw [if_pos z, if_pos (by omega)]
        · rw [if_neg z]
      by_cases q2 : k + p < 288
      · have q3 : ((288 : Int) ≤ ((k + p : Nat) : Int)) = False := eq_false (by omega)
        have q4 : (0 ≤ ((k + p : Nat) : Int)) = True := eq_true (by omega)
        have q5 : (((k + p : Nat) : Int) < 288) = True := eq_true (by omega)
        simp only [↓eX12_pushes_93, ↓eX12_pushes_96, ↓eX12_pushes_99, ↓eX12_pushes_100, ↓eX12_pushes_103, ↓eX12_pushes_104, ↓eX12_pushes_106, ↓eX12_pushes_107, ↓eX12_pushes_108, ↓eX12_pushes_109, ↓eX12_pushes_112, ↓eX12_pushes_114, ↓eX12_pushes_117, ↓eX12_pushes_120, ↓eX12_pushes_123, ↓eX12_pushes_125, ↓eX12_pushes_127, ↓eX12_pushes_128, ↓eX12_pushes_131, ↓eX12_pushes_134, ↓eX12_pushes_135, ↓eX12_pushes_138, ↓eX12_pushes_140, ↓eX12_pushes_142, ↓eX12_pushes_143, ↓eX12_pushes_144, ↓eX12_pushes_147, ↓eX12_pushes_148, ↓eX12_pushes_150, ↓eX12_pushes_151, ↓eX12_pushes_152, ↓eX12_pushes_153, ↓eX12_pushes_156, e, e2, w289 hc (show k < 288 by omega), i0, i1, g65, kp, q3, q4, q5, hk35 hR, hr35_53 hR, hr35_54 hR, hk65 hR, hl65 hR, hk66 hR, hl66 hR, Int.cast_ofNat_Int, kd_si, gr_si, ln_si, gi_same, gi_na, gi_ni, nl_i, nl_r, nl_j, nj_i, nj_l, nj_r, true_and, and_true, and_self, cs_0, cs_1, cs_2, cs_3, cs_4, ↓reduceIte, Nat.reduceLeDiff, Nat.reduceEqDiff, Nat.reduceAdd, Int.reduceLE, Int.reduceLT, Int.reduceEq, Int.reduceAdd, Int.reduceNeg, Int.reduceToNat, Int.toNat_natCast, ne_eq, not_false_eq_true, not_true_eq_false, or_true, true_or, or_false, false_or]
        rw [to123]
        refine ih (k + 1) p (fun j => if j = k + p then row k else cur j) _ (by omega) hp (DF_si (P := fun a => a = 66) rfl hD) (fun j hj => ?_) (fun j hj => ?_)
        · by_cases z : j = k + p
          · rw [if_pos z, z, gi_same]
          · rw [if_neg z, gi_ni z]; exact h66 j hj
        · rw [← hG j hj, psr, if_neg q, if_pos q2]
      · have q3 : ((288 : Int) ≤ ((k + p : Nat) : Int)) = True := eq_true (by omega)
        simp only [↓eX12_pushes_93, ↓eX12_pushes_96, ↓eX12_pushes_99, ↓eX12_pushes_100, ↓eX12_pushes_103, ↓eX12_pushes_104, ↓eX12_pushes_106, ↓eX12_pushes_107, ↓eX12_pushes_108, ↓eX12_pushes_109, ↓eX12_pushes_112, ↓eX12_pushes_114, ↓eX12_pushes_117, ↓eX12_pushes_120, ↓eX12_pushes_123, ↓eX12_pushes_125, ↓eX12_pushes_127, ↓eX12_pushes_128, ↓eX12_pushes_131, ↓eX12_pushes_134, ↓eX12_pushes_135, ↓eX12_pushes_138, ↓eX12_pushes_140, ↓eX12_pushes_142, ↓eX12_pushes_143, ↓eX12_pushes_144, ↓eX12_pushes_147, ↓eX12_pushes_148, ↓eX12_pushes_150, ↓eX12_pushes_151, ↓eX12_pushes_152, ↓eX12_pushes_153, ↓eX12_pushes_156, e, e2, w289 hc (show k < 288 by omega), i0, i1, g65, kp, q3, hk35 hR, hr35_53 hR, hr35_54 hR, hk65 hR, hl65 hR, hk66 hR, hl66 hR, Int.cast_ofNat_Int, kd_si, gr_si, ln_si, gi_same, gi_na, gi_ni, nl_i, nl_r, nl_j, nj_i, nj_l, nj_r, true_and, and_true, and_self, cs_0, cs_1, cs_2, cs_3, cs_4, ↓reduceIte, Nat.reduceLeDiff, Nat.reduceEqDiff, Nat.reduceAdd, Int.reduceLE, Int.reduceLT, Int.reduceEq, Int.reduceAdd, Int.reduceNeg, Int.reduceToNat, Int.toNat_natCast, ne_eq, not_false_eq_true, not_true_eq_false, or_true, true_or, or_false, false_or]
        rw [to123]
        refine ih (k + 1) p cur R (by omega) hp hD h66 (fun j hj => ?_)
        rw [← hG j hj, psr, if_neg q, if_neg q2]
theorem y_pu_3 {C : mC} {Q : mV → mM → Prop} {c : Nat} {a2 a3 a4 a5 : mV} {N : mM} (h : SH N) (hc : c < 6) (n5 : nl a5) :
    ∀ r k : Nat, k + r = 288 → WP C tX12_pushes 162 [vr (some 35), vi (288 * c : Nat), a2, a3, a4, a5, vi k] [] (rwM N 65 (288 * c) k (gi N 66)) Q = Q vj (rwM N 65 (288 * c) 288 (gi N 66)) := by
  intro r
  induction r with
  | zero =>
    intro k hi
    have e : k = 288 := by omega
    subst e
    rw [eX12_pushes_162]
    simp only [↓eX12_pushes_164, ↓eX12_pushes_167, ↓eX12_pushes_192, Int.le_refl, Int.cast_ofNat_Int, kd_si, gr_si, ln_si, gi_same, gi_na, gi_ni, nl_i, nl_r, nl_j, nj_i, nj_l, nj_r, true_and, and_true, and_self, cs_0, cs_1, cs_2, cs_3, cs_4, ↓reduceIte, Nat.reduceLeDiff, Nat.reduceEqDiff, Nat.reduceAdd, Int.reduceLE, Int.reduceLT, Int.reduceEq, Int.reduceAdd, Int.reduceNeg, Int.reduceToNat, Int.toNat_natCast, ne_eq, not_false_eq_true, not_true_eq_false, or_true, true_or, or_false, false_or]
  | succ r ih =>
    intro k hi
    have hR : SH (rwM N 65 (288 * c) k (gi N 66)) := h
    have e : ((288 : Int) ≤ (k : Int)) = False := eq_false (by omega)
    have e2 : wr ((k : Int) + 1) = ((k + 1 : Nat) : Int) := by rw [wr_id (by omega) (by omega)]; omega
    have i0 : (0 ≤ ((288 * c + k : Nat) : Int)) = True := eq_true (by omega)
    have i1 : (((288 * c + k : Nat) : Int) < 1728) = True := eq_true (by omega)
    have k0 : (0 ≤ (k : Int)) = True := eq_true (by omega)
    have k1 : ((k : Int) < 288) = True := eq_true (by omega)
    have g66 : gi (rwM N 65 (288 * c) k (gi N 66)) 66 k = gi N 66 k := gi_rwn (by decide)
    rw [eX12_pushes_162]
    simp only [↓eX12_pushes_164, ↓eX12_pushes_167, ↓eX12_pushes_170, ↓eX12_pushes_171, ↓eX12_pushes_174, ↓eX12_pushes_175, ↓eX12_pushes_177, ↓eX12_pushes_178, ↓eX12_pushes_179, ↓eX12_pushes_182, ↓eX12_pushes_184, ↓eX12_pushes_185, ↓eX12_pushes_186, ↓eX12_pushes_189, e, e2, w289 hc (show k < 288 by omega), i0, i1, k0, k1, g66, hk35 hR, hr35_53 hR, hr35_54 hR, hk65 hR, hl65 hR, hk66 hR, hl66 hR, n5, Int.cast_ofNat_Int, kd_si, gr_si, ln_si, gi_same, gi_na, gi_ni, nl_i, nl_r, nl_j, nj_i, nj_l, nj_r, true_and, and_true, and_self, cs_0, cs_1, cs_2, cs_3, cs_4, ↓reduceIte, Nat.reduceLeDiff, Nat.reduceEqDiff, Nat.reduceAdd, Int.reduceLE, Int.reduceLT, Int.reduceEq, Int.reduceAdd, Int.reduceNeg, Int.reduceToNat, Int.toNat_natCast, ne_eq, not_false_eq_true, not_true_eq_false, or_true, true_or, or_false, false_or]
    rw [rwM_si (f := gi N 66) rfl]
    exact ih (k + 1) (by omega)
def mdP (a : Nat) : Prop := 64 ≤ a ∧ a ≤ 66
theorem told_md : ∀ a, isTold a → ¬ mdP a := fun a h w => by unfold isTold at h; unfold mdP at w; omega
/-- pushes -/
theorem y_pushes {d : Nat} {Q : mV → mM → Prop} {c t e : Nat} {N : mM} {row : Nat → Int} (h : SH N) (hc : c < 6) (ht : 1 ≤ t) (ht2 : t ≤ 287) (he : e ≤ 48) (hr : ∀ j, j < 288 → gi N 65 (288 * c + j) = row j) (hb : row (t - 1) = -1 ∨ ∃ k : Nat, row (t - 1) = k ∧ k < 300)
    (hQ : ∀ R, DF mdP N R → (∀ j, j < 288 * c → gi R 65 j = gi N 65 j) → (∀ j, j < 288 → gi R 65 (288 * c + j) = psh N row t e j) → Q vj R) :
    CP (mc (d + 1)) 157 [vr (some 35), vi (288 * c : Nat), vi t, vi e] N Q := by
  have a1 : wr (((288 * c : Nat) : Int) + (t : Int)) = ((288 * c + t : Nat) : Int) := w289 hc (by omega)
  have a2 : wr (((288 * c + t : Nat) : Int) - 1) = ((288 * c + (t - 1) : Nat) : Int) := by rw [wr_id (by omega) (by omega)]; omega
  have i0 : (0 ≤ ((288 * c + (t - 1) : Nat) : Int)) = True := eq_true (by omega)
  have i1 : (((288 * c + (t - 1) : Nat) : Int) < 1728) = True := eq_true (by omega)
  have g := hr (t - 1) (by omega)
  have keep : psh N row t e = row → Q vj N := fun w => hQ N DF_refl (fun _ _ => rfl) (fun j hj => by rw [w]; exact hr j hj)
  rcases hb with q | ⟨k, q, q2⟩
  · simp only [↓cpX12_pushes, ↓eX12_pushes_0, ↓eX12_pushes_1, ↓eX12_pushes_4, ↓eX12_pushes_5, ↓eX12_pushes_6, ↓eX12_pushes_7, ↓eX12_pushes_8, ↓eX12_pushes_9, ↓eX12_pushes_10, ↓eX12_pushes_12, ↓eX12_pushes_14, ↓eX12_pushes_15, ↓eX12_pushes_18, ↓eX12_pushes_19, ↓eX12_pushes_22, ↓eX12_pushes_24, ↓eX12_pushes_25, ↓eX12_pushes_28, a1, a2, i0, i1, g, q, hk35 h, hr35_53 h, hk65 h, hl65 h, Int.cast_ofNat_Int, kd_si, gr_si, ln_si, gi_same, gi_na, gi_ni, nl_i, nl_r, nl_j, nj_i, nj_l, nj_r, true_and, and_true, and_self, cs_0, cs_1, cs_2, cs_3, cs_4, ↓reduceIte, Nat.reduceLeDiff, Nat.reduceEqDiff, Nat.reduceAdd, Int.reduceLE, Int.reduceLT, Int.reduceEq, Int.reduceAdd, Int.reduceNeg, Int.reduceToNat, Int.toNat_natCast, ne_eq, not_false_eq_true, not_true_eq_false, or_true, true_or, or_false, false_or]
    refine keep ?_
    unfold psh
    rw [if_pos (Or.inl q)]
  · have k1 : ((k : Int) = -1) = False := eq_false (by omega)
    have k2 : (0 ≤ (k : Int)) = True := eq_true (by omega)
    have k3 : ((k : Int) < 300) = True := eq_true (by omega)
    by_cases q3 : gi N 63 k = 0
    · simp only [↓cpX12_pushes, ↓eX12_pushes_0, ↓eX12_pushes_1, ↓eX12_pushes_4, ↓eX12_pushes_5, ↓eX12_pushes_6, ↓eX12_pushes_7, ↓eX12_pushes_8, ↓eX12_pushes_9, ↓eX12_pushes_10, ↓eX12_pushes_12, ↓eX12_pushes_14, ↓eX12_pushes_15, ↓eX12_pushes_18, ↓eX12_pushes_19, ↓eX12_pushes_22, ↓eX12_pushes_24, ↓eX12_pushes_25, ↓eX12_pushes_28, a1, a2, i0, i1, g, q, q3, k1, k2, k3, hk35 h, hr35_53 h, hr35_45 h, hk65 h, hl65 h, hk63 h, hl63 h, Int.cast_ofNat_Int, kd_si, gr_si, ln_si, gi_same, gi_na, gi_ni, nl_i, nl_r, nl_j, nj_i, nj_l, nj_r, true_and, and_true, and_self, cs_0, cs_1, cs_2, cs_3, cs_4, ↓reduceIte, Nat.reduceLeDiff, Nat.reduceEqDiff, Nat.reduceAdd, Int.reduceLE, Int.reduceLT, Int.reduceEq, Int.reduceAdd, Int.reduceNeg, Int.reduceToNat, Int.toNat_natCast, ne_eq, not_false_eq_true, not_true_eq_false, or_true, true_or, or_false, false_or]
      refine keep ?_
      unfold psh
      rw [if_pos (Or.inr (by rw [q, Int.toNat_natCast]; exact q3))]
    · have hp : psh N row t e = psr row (288 - t) t e (ps0 row t e) := by
        unfold psh
        rw [if_neg]
        rintro (w | w)
        · omega
        · rw [q, Int.toNat_natCast] at w; exact q3 w
      simp only [↓cpX12_pushes, ↓eX12_pushes_0, ↓eX12_pushes_1, ↓eX12_pushes_4, ↓eX12_pushes_5, ↓eX12_pushes_6, ↓eX12_pushes_7, ↓eX12_pushes_8, ↓eX12_pushes_9, ↓eX12_pushes_10, ↓eX12_pushes_12, ↓eX12_pushes_14, ↓eX12_pushes_15, ↓eX12_pushes_18, ↓eX12_pushes_19, ↓eX12_pushes_22, ↓eX12_pushes_24, ↓eX12_pushes_25, ↓eX12_pushes_28, ↓eX12_pushes_29, ↓eX12_pushes_30, a1, a2, i0, i1, g, q, q3, k1, k2, k3, hk35 h, hr35_53 h, hr35_45 h, hk65 h, hl65 h, hk63 h, hl63 h, Int.cast_ofNat_Int, kd_si, gr_si, ln_si, gi_same, gi_na, gi_ni, nl_i, nl_r, nl_j, nj_i, nj_l, nj_r, true_and, and_true, and_self, cs_0, cs_1, cs_2, cs_3, cs_4, ↓reduceIte, Nat.reduceLeDiff, Nat.reduceEqDiff, Nat.reduceAdd, Int.reduceLE, Int.reduceLT, Int.reduceEq, Int.reduceAdd, Int.reduceNeg, Int.reduceToNat, Int.toNat_natCast, ne_eq, not_false_eq_true, not_true_eq_false, or_true, true_or, or_false, false_or]
      have l1 := y_pu_1 (C := mc d) (Q := Q) (a6 := vj) (row := row) (N := N) (f := k) h hc ht ht2 he hr q 288 0 (by omega)
      rw [rwM_0] at l1
      have l1' : WP (mc d) tX12_pushes 32 [vr (some 35), vi (288 * c : Nat), vi t, vi e, vi k, vi 0, vj] [] N Q = _ := l1
      rw [l1']
      simp only [↓eX12_pushes_85, ↓eX12_pushes_86, ↓eX12_pushes_88, ↓eX12_pushes_89, Int.cast_ofNat_Int, kd_si, gr_si, ln_si, gi_same, gi_na, gi_ni, nl_i, nl_r, nl_j, nj_i, nj_l, nj_r, true_and, and_true, and_self, cs_0, cs_1, cs_2, cs_3, cs_4, ↓reduceIte, Nat.reduceLeDiff, Nat.reduceEqDiff, Nat.reduceAdd, Int.reduceLE, Int.reduceLT, Int.reduceEq, Int.reduceAdd, Int.reduceNeg, Int.reduceToNat, Int.toNat_natCast, ne_eq, not_false_eq_true, not_true_eq_false, or_true, true_or, or_false, false_or]
      refine y_pu_2 (row := row) (N := rwM N 66 0 288 (ps0 row t e)) (G := psh N row t e) h hc (fun j hj => by rw [gi_rwn (by decide)]; exact hr j hj) (fun p R hD hG => ?_) (288 - t) t e (ps0 row t e) _ (by omega) he DF_refl (fun j hj => ?_) (fun j hj => by rw [hp])
      · have hR := DF_SH hD h
        simp only [↓eX12_pushes_159, ↓eX12_pushes_160, Int.cast_ofNat_Int, kd_si, gr_si, ln_si, gi_same, gi_na, gi_ni, nl_i, nl_r, nl_j, nj_i, nj_l, nj_r, true_and, and_true, and_self, cs_0, cs_1, cs_2, cs_3, cs_4, ↓reduceIte, Nat.reduceLeDiff, Nat.reduceEqDiff, Nat.reduceAdd, Int.reduceLE, Int.reduceLT, Int.reduceEq, Int.reduceAdd, Int.reduceNeg, Int.reduceToNat, Int.toNat_natCast, ne_eq, not_false_eq_true, not_true_eq_false, or_true, true_or, or_false, false_or]
        have l3 := y_pu_3 (C := mc d) (Q := Q) (a2 := vi t) (a3 := vi e) (a4 := vi k) (a5 := vi p) (N := R) hR hc (nlI _) 288 0 (by omega)
        rw [rwM_0] at l3
        have l3' : WP (mc d) tX12_pushes 162 [vr (some 35), vi (288 * c : Nat), vi t, vi e, vi k, vi p, vi 0] [] R Q = _ := l3
        rw [l3']
        have dR : DF mdP N R := DF_trans (rwM_DF (by unfold mdP; omega) DF_refl) (DF_mono (fun a z => by unfold mdP; omega) hD)
        refine hQ _ (rwM_DF (by unfold mdP; omega) dR) (fun j hj => ?_) (fun j hj => ?_)
        · rw [gi_rwo (Or.inl hj), hD.2 65 j (by decide), gi_rwn (by decide)]
        · rw [gi_rwi hj]; exact hG j hj
      · have := gi_rwi (N := N) (a := 66) (lo := 0) (t := 288) (f := ps0 row t e) hj
        rw [Nat.zero_add] at this
        exact this
