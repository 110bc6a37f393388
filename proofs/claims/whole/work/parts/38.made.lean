/-! ===== the reference's day, channel by channel ===== -/
theorem y_mk_S {d : Nat} {M : mM} {Q : mV → mM → Prop} {n c S : Nat} {g : Nat → Int} (h : SH M) (hf : FM M) (hn : (n : Int) ≤ gi M 35 37) (h3 : gi M 35 37 ≤ 300) (hS : gi M 35 35 = S) (h6 : S ≤ 6) (hc : c < 6)
    (hQ : ∀ N (a4 a5 : mV), DF mdP M N → (∀ j, j < 288 * c → gi N 65 j = g j) → (∀ t, t < 288 → gi N 65 (288 * c + t) = wn M c n t S) → WP (mc (d + 1)) tX12_makes 165 [vr (some 35), vi n, vi c, vi S, a4, a5] [] N Q) :
    ∀ (r s : Nat) (a4 a5 : mV) (N : mM), s + r = S → DF mdP M N → (∀ j, j < 288 * c → gi N 65 j = g j) → (∀ t, t < 288 → gi N 65 (288 * c + t) = wn M c n t s) → WP (mc (d + 1)) tX12_makes 54 [vr (some 35), vi n, vi c, vi s, a4, a5] [] N Q := by
  intro r
  induction r with
  | zero =>
    intro s a4 a5 N hi hD hg hw
    have e : s = S := by omega
    subst e
    have hN := DF_SH hD h
    have k : gi N 35 35 = s := by rw [hD.2 35 35 (by unfold mdP; omega)]; exact hS
    rw [eX12_makes_54]
    simp only [↓eX12_makes_55, ↓eX12_makes_56, ↓eX12_makes_59, hk35 hN, k, Int.le_refl, Int.cast_ofNat_Int, kd_si, gr_si, ln_si, gi_same, gi_na, gi_ni, nl_i, nl_r, nl_j, nj_i, nj_l, nj_r, true_and, and_true, and_self, cs_0, cs_1, cs_2, cs_3, cs_4, ↓reduceIte, Nat.reduceLeDiff, Nat.reduceEqDiff, Nat.reduceAdd, Int.reduceLE, Int.reduceLT, Int.reduceEq, Int.reduceAdd, Int.reduceNeg, Int.reduceToNat, Int.toNat_natCast, ne_eq, not_false_eq_true, not_true_eq_false, or_true, true_or, or_false, false_or]
    exact hQ N a4 a5 hD hg hw
  | succ r ih =>
    intro s a4 a5 N hi hD hg hw
    have hN := DF_SH hD h
    have k : gi N 35 35 = S := by rw [hD.2 35 35 (by unfold mdP; omega)]; exact hS
    have k37 : gi N 35 37 = gi M 35 37 := hD.2 35 37 (by unfold mdP; omega)
    have e : ((S : Int) ≤ (s : Int)) = False := eq_false (by omega)
    have e2 : wr ((s : Int) + 1) = ((s + 1 : Nat) : Int) := by rw [wr_id (by omega) (by omega)]; omega
    have fh := fun (Q : mV → mM → Prop) => y_hears (d := d) (Q := Q) (s := s) (c := c) (n := n) hN (DF_FM hD told_md hf) (by rw [k37]; exact hn) (by rw [k37]; exact h3)
    have fe1 := DF_fe hD told_md n
    rw [eX12_makes_54]
    simp only [↓eX12_makes_55, ↓eX12_makes_56, ↓eX12_makes_59, ↓eX12_makes_62, ↓eX12_makes_63, ↓eX12_makes_64, ↓eX12_makes_65, ↓eX12_makes_66, ↓eX12_makes_69, ↓eX12_makes_70, hk35 hN, k, e, ↓fh, Int.cast_ofNat_Int, kd_si, gr_si, ln_si, gi_same, gi_na, gi_ni, nl_i, nl_r, nl_j, nj_i, nj_l, nj_r, true_and, and_true, and_self, cs_0, cs_1, cs_2, cs_3, cs_4, ↓reduceIte, Nat.reduceLeDiff, Nat.reduceEqDiff, Nat.reduceAdd, Int.reduceLE, Int.reduceLT, Int.reduceEq, Int.reduceAdd, Int.reduceNeg, Int.reduceToNat, Int.toNat_natCast, ne_eq, not_false_eq_true, not_true_eq_false, or_true, true_or, or_false, false_or]
    obtain ⟨R, hR⟩ : ∃ R, R = sw N 64 (fun t => if t < 288 then hrd N s c n t else gi N 64 t) := ⟨_, rfl⟩
    rw [← hR]
    have dR : DF mdP M R := by rw [hR]; exact DF_sw (by unfold mdP; omega) hD
    have sR := DF_SH dR h
    have r65 : ∀ j, gi R 65 j = gi N 65 j := fun j => by rw [hR, gi_swn (by decide)]
    have r64 : ∀ t, t < 288 → gi R 64 t = hrd M s c n t := fun t ht => by rw [hR, gi_sw, if_pos rfl, if_pos ht, hrd_fe fe1 _ _ _ n (Nat.le_refl n)]
    have r55 : ∀ j, gi R 55 j = gi M 55 j := fun j => dR.2 55 j (by unfold mdP; omega)
    have r57 : ∀ j, gi R 57 j = gi M 57 j := fun j => dR.2 57 j (by unfold mdP; omega)
    have B := y_mk_B (C := mc (d + 1)) (Q := Q) (n := n) (c := c) (s := s) (N := R) sR hc (by omega) (fun t ht => by
      rw [r65, hw t ht]
      rcases wn_lt M c n t s with w | ⟨k, w1, w2, w3, w4, -⟩
      · exact Or.inl w
      · exact Or.inr ⟨k, w1, by omega, by rw [r57]; omega, by rw [r57]; omega⟩) (fun a5 => by
        simp only [↓eX12_makes_159, ↓eX12_makes_162, e2, Int.cast_ofNat_Int, kd_si, gr_si, ln_si, gi_same, gi_na, gi_ni, nl_i, nl_r, nl_j, nj_i, nj_l, nj_r, true_and, and_true, and_self, cs_0, cs_1, cs_2, cs_3, cs_4, ↓reduceIte, Nat.reduceLeDiff, Nat.reduceEqDiff, Nat.reduceAdd, Int.reduceLE, Int.reduceLT, Int.reduceEq, Int.reduceAdd, Int.reduceNeg, Int.reduceToNat, Int.toNat_natCast, ne_eq, not_false_eq_true, not_true_eq_false, or_true, true_or, or_false, false_or]
        refine ih (s + 1) _ a5 _ (by omega) (rwM_DF (by unfold mdP; omega) dR) (fun j hj => ?_) (fun t ht => ?_)
        · rw [gi_rwo (Or.inl hj), r65]; exact hg j hj
        · rw [gi_rwi ht]
          unfold lay1
          rw [r64 t ht, r65, hw t ht, r55, r55, r57, wn]) 288 0 a5 (by omega)
    rw [rwM_0] at B
    exact B
theorem y_mk_O {d : Nat} {M : mM} {Q : mV → mM → Prop} {n c : Nat} {g : Nat → Int} {a4 a5 : mV} (h : SH M) (hf : FM M) (hn : (n : Int) ≤ gi M 35 37) (h3 : gi M 35 37 ≤ 300) (hc : c < 6)
    (hQ : ∀ N, DF mdP M N → (∀ j, j < 288 * c → gi N 65 j = g j) → (∀ t, t < 288 → gi N 65 (288 * c + t) = dy M n c t) → WP (mc (d + 1)) tX12_makes 282 [vr (some 35), vi n, vi c, vi n, a4, a5] [] N Q) :
    ∀ (r k : Nat) (N : mM), k + r = n → DF mdP M N → (∀ j, j < 288 * c → gi N 65 j = g j) → (∀ t, t < 288 → gi N 65 (288 * c + t) = dyr M c n k t) → WP (mc (d + 1)) tX12_makes 231 [vr (some 35), vi n, vi c, vi k, a4, a5] [] N Q := by
  intro r
  induction r with
  | zero =>
    intro k N hi hD hg hw
    have e : k = n := by omega
    subst e
    rw [eX12_makes_231]
    simp only [↓eX12_makes_232, ↓eX12_makes_233, Int.le_refl, Int.cast_ofNat_Int, kd_si, gr_si, ln_si, gi_same, gi_na, gi_ni, nl_i, nl_r, nl_j, nj_i, nj_l, nj_r, true_and, and_true, and_self, cs_0, cs_1, cs_2, cs_3, cs_4, ↓reduceIte, Nat.reduceLeDiff, Nat.reduceEqDiff, Nat.reduceAdd, Int.reduceLE, Int.reduceLT, Int.reduceEq, Int.reduceAdd, Int.reduceNeg, Int.reduceToNat, Int.toNat_natCast, ne_eq, not_false_eq_true, not_true_eq_false, or_true, true_or, or_false, false_or]
    exact hQ N hD hg hw
  | succ r ih =>
    intro k N hi hD hg hw
    have hN := DF_SH hD h
    have e : ((n : Int) ≤ (k : Int)) = False := eq_false (by omega)
    have e2 : wr ((k : Int) + 1) = ((k + 1 : Nat) : Int) := by rw [wr_id (by omega) (by omega)]; omega
    have k0 : (0 ≤ (k : Int)) = True := eq_true (by omega)
    have k1 : ((k : Int) < 300) = True := eq_true (by omega)
    have fe1 := DF_fe hD told_md n
    have g56 : gi N 56 k = gi M 56 k := hD.2 56 k (by unfold mdP; omega)
    have g58 : gi N 58 k = gi M 58 k := hD.2 58 k (by unfold mdP; omega)
    have g59 : gi N 59 k = gi M 59 k := hD.2 59 k (by unfold mdP; omega)
    have g60 : gi N 60 k = gi M 60 k := hD.2 60 k (by unfold mdP; omega)
    obtain ⟨f1, f2, f3, f4⟩ := hf k (by omega)
    rw [eX12_makes_231]
    by_cases q : gi M 56 k = 1 ∧ gi M 58 k = c
    · obtain ⟨q1, q2⟩ := q
      obtain ⟨⟨u1, u2⟩, u3, u4⟩ := f4 q1
      obtain ⟨T, hT⟩ : ∃ T : Nat, gi M 59 k = T := ⟨(gi M 59 k).toNat, by omega⟩
      obtain ⟨E, hE⟩ : ∃ E : Nat, gi M 60 k = E := ⟨(gi M 60 k).toNat, by omega⟩
      have pu := y_pushes (d := d) (Q := fun v R => v = vj ∧ WP (mc (d + 1)) tX12_makes 276 [vr (some 35), vi n, vi c, vi k, a4, a5] [] R Q) (c := c) (t := T) (e := E) (N := N) (row := dyr M c n k) hN hc (by omega) (by omega) (by omega) hw (by
        rcases dyr_ok M c n k (T - 1) with w | ⟨k', w, w2, -⟩
        · exact Or.inl w
        · exact Or.inr ⟨k', w, by omega⟩) (fun R dR hR1 hR2 => ⟨rfl, by
        simp only [↓eX12_makes_276, ↓eX12_makes_279, e2, Int.cast_ofNat_Int, kd_si, gr_si, ln_si, gi_same, gi_na, gi_ni, nl_i, nl_r, nl_j, nj_i, nj_l, nj_r, true_and, and_true, and_self, cs_0, cs_1, cs_2, cs_3, cs_4, ↓reduceIte, Nat.reduceLeDiff, Nat.reduceEqDiff, Nat.reduceAdd, Int.reduceLE, Int.reduceLT, Int.reduceEq, Int.reduceAdd, Int.reduceNeg, Int.reduceToNat, Int.toNat_natCast, ne_eq, not_false_eq_true, not_true_eq_false, or_true, true_or, or_false, false_or]
        refine ih (k + 1) R (by omega) (DF_trans hD dR) (fun j hj => (hR1 j hj).trans (hg j hj)) (fun t ht => ?_)
        rw [hR2 t ht, psh_fe fe1 (dyr_ok M c n k), dyr, if_pos ⟨q1, q2⟩, hT, hE]
        rfl⟩)
      simp only [↓eX12_makes_232, ↓eX12_makes_233, ↓eX12_makes_236, ↓eX12_makes_237, ↓eX12_makes_240, ↓eX12_makes_241, ↓eX12_makes_242, ↓eX12_makes_245, ↓eX12_makes_246, ↓eX12_makes_249, ↓eX12_makes_250, ↓eX12_makes_251, ↓eX12_makes_252, ↓eX12_makes_255, ↓eX12_makes_256, ↓eX12_makes_259, ↓eX12_makes_260, ↓eX12_makes_261, ↓eX12_makes_262, ↓eX12_makes_265, ↓eX12_makes_266, ↓eX12_makes_267, ↓eX12_makes_268, ↓eX12_makes_271, ↓eX12_makes_272, ↓eX12_makes_273, e, k0, k1, g56, g58, g59, g60, q1, q2, hT, hE, w288 hc, hk35 hN, hr35_38 hN, hr35_40 hN, hr35_41 hN, hr35_42 hN, hk56 hN, hl56 hN, hk58 hN, hl58 hN, hk59 hN, hl59 hN, hk60 hN, hl60 hN, Int.cast_ofNat_Int, kd_si, gr_si, ln_si, gi_same, gi_na, gi_ni, nl_i, nl_r, nl_j, nj_i, nj_l, nj_r, true_and, and_true, and_self, cs_0, cs_1, cs_2, cs_3, cs_4, ↓reduceIte, Nat.reduceLeDiff, Nat.reduceEqDiff, Nat.reduceAdd, Int.reduceLE, Int.reduceLT, Int.reduceEq, Int.reduceAdd, Int.reduceNeg, Int.reduceToNat, Int.toNat_natCast, ne_eq, not_false_eq_true, not_true_eq_false, or_true, true_or, or_false, false_or]
      exact pu
    · have hw' : ∀ t, t < 288 → gi N 65 (288 * c + t) = dyr M c n (k + 1) t := fun t ht => by rw [dyr, if_neg q]; exact hw t ht
      by_cases z : gi M 56 k = 0
      · simp only [↓eX12_makes_232, ↓eX12_makes_233, ↓eX12_makes_236, ↓eX12_makes_237, ↓eX12_makes_240, ↓eX12_makes_241, ↓eX12_makes_242, ↓eX12_makes_245, ↓eX12_makes_246, ↓eX12_makes_249, ↓eX12_makes_250, ↓eX12_makes_251, ↓eX12_makes_252, ↓eX12_makes_255, ↓eX12_makes_256, ↓eX12_makes_259, ↓eX12_makes_260, ↓eX12_makes_261, ↓eX12_makes_262, ↓eX12_makes_265, ↓eX12_makes_266, ↓eX12_makes_267, ↓eX12_makes_268, ↓eX12_makes_271, ↓eX12_makes_272, ↓eX12_makes_273, ↓eX12_makes_276, ↓eX12_makes_279, e, e2, k0, k1, g56, z, hk35 hN, hr35_38 hN, hk56 hN, hl56 hN, Int.cast_ofNat_Int, kd_si, gr_si, ln_si, gi_same, gi_na, gi_ni, nl_i, nl_r, nl_j, nj_i, nj_l, nj_r, true_and, and_true, and_self, cs_0, cs_1, cs_2, cs_3, cs_4, ↓reduceIte, Nat.reduceLeDiff, Nat.reduceEqDiff, Nat.reduceAdd, Int.reduceLE, Int.reduceLT, Int.reduceEq, Int.reduceAdd, Int.reduceNeg, Int.reduceToNat, Int.toNat_natCast, ne_eq, not_false_eq_true, not_true_eq_false, or_true, true_or, or_false, false_or]
        exact ih (k + 1) N (by omega) hD hg hw'
      · have z1 : gi M 56 k = 1 := by omega
        have z2 : (gi M 58 k = (c : Int)) = False := eq_false (fun w => q ⟨z1, w⟩)
        simp only [↓eX12_makes_232, ↓eX12_makes_233, ↓eX12_makes_236, ↓eX12_makes_237, ↓eX12_makes_240, ↓eX12_makes_241, ↓eX12_makes_242, ↓eX12_makes_245, ↓eX12_makes_246, ↓eX12_makes_249, ↓eX12_makes_250, ↓eX12_makes_251, ↓eX12_makes_252, ↓eX12_makes_255, ↓eX12_makes_256, ↓eX12_makes_259, ↓eX12_makes_260, ↓eX12_makes_261, ↓eX12_makes_262, ↓eX12_makes_265, ↓eX12_makes_266, ↓eX12_makes_267, ↓eX12_makes_268, ↓eX12_makes_271, ↓eX12_makes_272, ↓eX12_makes_273, ↓eX12_makes_276, ↓eX12_makes_279, e, e2, k0, k1, g56, g58, z1, z2, hk35 hN, hr35_38 hN, hr35_40 hN, hk56 hN, hl56 hN, hk58 hN, hl58 hN, Int.cast_ofNat_Int, kd_si, gr_si, ln_si, gi_same, gi_na, gi_ni, nl_i, nl_r, nl_j, nj_i, nj_l, nj_r, true_and, and_true, and_self, cs_0, cs_1, cs_2, cs_3, cs_4, ↓reduceIte, Nat.reduceLeDiff, Nat.reduceEqDiff, Nat.reduceAdd, Int.reduceLE, Int.reduceLT, Int.reduceEq, Int.reduceAdd, Int.reduceNeg, Int.reduceToNat, Int.toNat_natCast, ne_eq, not_false_eq_true, not_true_eq_false, or_true, true_or, or_false, false_or]
        exact ih (k + 1) N (by omega) hD hg hw'
theorem y_mk_ch {d : Nat} {M : mM} {Q : mV → mM → Prop} {n S W : Nat} (h : SH M) (hf : FM M) (hn : (n : Int) ≤ gi M 35 37) (h3 : gi M 35 37 ≤ 300) (hS : gi M 35 35 = S) (h6 : S ≤ 6) (hW : gi M 35 34 = W) (hW6 : W ≤ 6)
    (hQ : ∀ N (a3 a4 a5 : mV), DF mdP M N → (∀ c t, c < W → t < 288 → gi N 65 (288 * c + t) = dy M n c t) → WP (mc (d + 1)) tX12_makes 288 [vr (some 35), vi n, vi W, a3, a4, a5] [] N Q) :
    ∀ (r c : Nat) (a3 a4 a5 : mV) (N : mM), c + r = W → nl a3 → DF mdP M N → (∀ c' t, c' < c → t < 288 → gi N 65 (288 * c' + t) = dy M n c' t) → WP (mc (d + 1)) tX12_makes 16 [vr (some 35), vi n, vi c, a3, a4, a5] [] N Q := by
  intro r
  induction r with
  | zero =>
    intro c a3 a4 a5 N hi n3 hD hA
    have e : c = W := by omega
    subst e
    have hN := DF_SH hD h
    have k : gi N 35 34 = c := by rw [hD.2 35 34 (by unfold mdP; omega)]; exact hW
    rw [eX12_makes_16]
    simp only [↓eX12_makes_17, ↓eX12_makes_18, ↓eX12_makes_21, hk35 hN, k, Int.le_refl, Int.cast_ofNat_Int, kd_si, gr_si, ln_si, gi_same, gi_na, gi_ni, nl_i, nl_r, nl_j, nj_i, nj_l, nj_r, true_and, and_true, and_self, cs_0, cs_1, cs_2, cs_3, cs_4, ↓reduceIte, Nat.reduceLeDiff, Nat.reduceEqDiff, Nat.reduceAdd, Int.reduceLE, Int.reduceLT, Int.reduceEq, Int.reduceAdd, Int.reduceNeg, Int.reduceToNat, Int.toNat_natCast, ne_eq, not_false_eq_true, not_true_eq_false, or_true, true_or, or_false, false_or]
    exact hQ N a3 a4 a5 hD hA
  | succ r ih =>
    intro c a3 a4 a5 N hi n3 hD hA
    have hN := DF_SH hD h
    have hc : c < 6 := by omega
    have k : gi N 35 34 = W := by rw [hD.2 35 34 (by unfold mdP; omega)]; exact hW
    have e : ((W : Int) ≤ (c : Int)) = False := eq_false (by omega)
    have e2 : wr ((c : Int) + 1) = ((c + 1 : Nat) : Int) := by rw [wr_id (by omega) (by omega)]; omega
    rw [eX12_makes_16]
    simp only [↓eX12_makes_17, ↓eX12_makes_18, ↓eX12_makes_21, ↓eX12_makes_24, ↓eX12_makes_25, hk35 hN, k, e, Int.cast_ofNat_Int, kd_si, gr_si, ln_si, gi_same, gi_na, gi_ni, nl_i, nl_r, nl_j, nj_i, nj_l, nj_r, true_and, and_true, and_self, cs_0, cs_1, cs_2, cs_3, cs_4, ↓reduceIte, Nat.reduceLeDiff, Nat.reduceEqDiff, Nat.reduceAdd, Int.reduceLE, Int.reduceLT, Int.reduceEq, Int.reduceAdd, Int.reduceNeg, Int.reduceToNat, Int.toNat_natCast, ne_eq, not_false_eq_true, not_true_eq_false, or_true, true_or, or_false, false_or]
    have A := y_mk_A (C := mc (d + 1)) (Q := Q) (n := n) (c := c) (a4 := a4) (a5 := a5) (N := N) hN hc 288 0 (by omega)
    rw [rwM_0] at A
    have A' : WP (mc (d + 1)) tX12_makes 26 [vr (some 35), vi n, vi c, vi 0, a4, a5] [] N Q = _ := A
    rw [A']
    simp only [↓eX12_makes_52, ↓eX12_makes_53, Int.cast_ofNat_Int, kd_si, gr_si, ln_si, gi_same, gi_na, gi_ni, nl_i, nl_r, nl_j, nj_i, nj_l, nj_r, true_and, and_true, and_self, cs_0, cs_1, cs_2, cs_3, cs_4, ↓reduceIte, Nat.reduceLeDiff, Nat.reduceEqDiff, Nat.reduceAdd, Int.reduceLE, Int.reduceLT, Int.reduceEq, Int.reduceAdd, Int.reduceNeg, Int.reduceToNat, Int.toNat_natCast, ne_eq, not_false_eq_true, not_true_eq_false, or_true, true_or, or_false, false_or]
    refine y_mk_S (g := gi N 65) h hf hn h3 hS h6 hc (fun N2 b4 b5 d2 g2 w2 => ?_) S 0 a4 a5 _ (by omega) (rwM_DF (by unfold mdP; omega) hD) (fun j hj => gi_rwo (Or.inl hj)) (fun t ht => by rw [gi_rwi ht]; rfl)
    have hN2 := DF_SH d2 h
    have C1 := y_mk_C (C := mc (d + 1)) (Q := Q) (n := n) (c := c) (a4 := b4) (a5 := b5) (N := N2) hN2 hc (fun t ht => by
      rw [w2 t ht]
      rcases wn_lt M c n t S with w | ⟨k, w1, w2, -⟩
      · exact Or.inl w
      · exact Or.inr ⟨k, w1, by omega⟩) 288 0 (by omega)
    rw [rwM_0] at C1
    have C2 : WP (mc (d + 1)) tX12_makes 167 [vr (some 35), vi n, vi c, vi 0, b4, b5] [] N2 Q = _ := C1
    simp only [↓eX12_makes_165, ↓eX12_makes_166, Int.cast_ofNat_Int, kd_si, gr_si, ln_si, gi_same, gi_na, gi_ni, nl_i, nl_r, nl_j, nj_i, nj_l, nj_r, true_and, and_true, and_self, cs_0, cs_1, cs_2, cs_3, cs_4, ↓reduceIte, Nat.reduceLeDiff, Nat.reduceEqDiff, Nat.reduceAdd, Int.reduceLE, Int.reduceLT, Int.reduceEq, Int.reduceAdd, Int.reduceNeg, Int.reduceToNat, Int.toNat_natCast, ne_eq, not_false_eq_true, not_true_eq_false, or_true, true_or, or_false, false_or]
    rw [C2]
    simp only [↓eX12_makes_229, ↓eX12_makes_230, Int.cast_ofNat_Int, kd_si, gr_si, ln_si, gi_same, gi_na, gi_ni, nl_i, nl_r, nl_j, nj_i, nj_l, nj_r, true_and, and_true, and_self, cs_0, cs_1, cs_2, cs_3, cs_4, ↓reduceIte, Nat.reduceLeDiff, Nat.reduceEqDiff, Nat.reduceAdd, Int.reduceLE, Int.reduceLT, Int.reduceEq, Int.reduceAdd, Int.reduceNeg, Int.reduceToNat, Int.toNat_natCast, ne_eq, not_false_eq_true, not_true_eq_false, or_true, true_or, or_false, false_or]
    refine y_mk_O (g := gi N 65) h hf hn h3 hc (fun N3 d3 g3 w3 => ?_) n 0 _ (by omega) (rwM_DF (by unfold mdP; omega) d2) (fun j hj => by rw [gi_rwo (Or.inl hj)]; exact g2 j hj) (fun t ht => ?_)
    · simp only [↓eX12_makes_282, ↓eX12_makes_285, e2, Int.cast_ofNat_Int, kd_si, gr_si, ln_si, gi_same, gi_na, gi_ni, nl_i, nl_r, nl_j, nj_i, nj_l, nj_r, true_and, and_true, and_self, cs_0, cs_1, cs_2, cs_3, cs_4, ↓reduceIte, Nat.reduceLeDiff, Nat.reduceEqDiff, Nat.reduceAdd, Int.reduceLE, Int.reduceLT, Int.reduceEq, Int.reduceAdd, Int.reduceNeg, Int.reduceToNat, Int.toNat_natCast, ne_eq, not_false_eq_true, not_true_eq_false, or_true, true_or, or_false, false_or]
      refine ih (c + 1) _ b4 b5 N3 (by omega) (nlI _) d3 (fun c' t hc' ht => ?_)
      by_cases z : c' = c
      · rw [z]; exact w3 t ht
      · rw [g3 _ (by omega)]
        exact hA c' t (by omega) ht
    · rw [gi_rwi ht, w2 t ht]
      show vlo N2 _ = bs M c n t
      unfold bs
      obtain ⟨e, he⟩ : ∃ e, 6 = S + e := ⟨6 - S, by omega⟩
      rw [he, wn_stop hf hn hS]
      have e61 : ∀ i, gi N2 61 i = gi M 61 i := fun i => d2.2 61 i (by unfold mdP; omega)
      unfold vlo
      rw [e61]
/-! ===== the reference lists showings ===== -/
def shS (a i : Nat) : Prop := (67 ≤ a ∧ a ≤ 70) ∨ (a = 35 ∧ i = 55)
/-- showings 0..k-1 listed -/
def SHL (D : Nat → Nat → Int) (W k : Nat) (N : mM) : Prop := ∀ j, j < k → gi N 67 j = sF D W j ∧ gi N 68 j = sC D W j ∧ gi N 69 j = sT D W j ∧ gi N 70 j = sU D W j
theorem y_end {C : mC} {Q : mV → mM → Prop} {c t : Nat} {f : Int} {N : mM} {row : Nat → Int} (h : SH N) (hc : c < 6) (hr : ∀ j, j < 288 → gi N 65 (288 * c + j) = row j) :
    ∀ r i : Nat, i + r = 288 → WP C tX12_shows 72 [vr (some 35), vi t, vi c, vi f, vi i] [] N Q = WP C tX12_shows 103 [vr (some 35), vi t, vi c, vi f, vi (eor row f r i : Nat)] [] N Q := by
  intro r
  induction r with
  | zero =>
    intro i hi
    have e : i = 288 := by omega
    subst e
    rw [eX12_shows_72]
    simp only [↓eX12_shows_74, ↓eX12_shows_77, Int.le_refl, Int.cast_ofNat_Int, kd_si, gr_si, ln_si, gi_same, gi_na, gi_ni, nl_i, nl_r, nl_j, nj_i, nj_l, nj_r, true_and, and_true, and_self, cs_0, cs_1, cs_2, cs_3, cs_4, ↓reduceIte, Nat.reduceLeDiff, Nat.reduceEqDiff, Nat.reduceAdd, Int.reduceLE, Int.reduceLT, Int.reduceEq, Int.reduceAdd, Int.reduceNeg, Int.reduceToNat, Int.toNat_natCast, ne_eq, not_false_eq_true, not_true_eq_false, or_true, true_or, or_false, false_or]
    rfl
  | succ r ih =>
    intro i hi
    have e : ((288 : Int) ≤ (i : Int)) = False := eq_false (by omega)
    have e2 : wr ((i : Int) + 1) = ((i + 1 : Nat) : Int) := by rw [wr_id (by omega) (by omega)]; omega
    have i0 : (0 ≤ ((288 * c + i : Nat) : Int)) = True := eq_true (by omega)
    have i1 : (((288 * c + i : Nat) : Int) < 1728) = True := eq_true (by omega)
    have g := hr i (by omega)
    rw [eX12_shows_72]
    by_cases q : row i = f
    · rw [eor, if_pos q, ← ih (i + 1) (by omega)]
      simp only [↓eX12_shows_74, ↓eX12_shows_77, ↓eX12_shows_80, ↓eX12_shows_81, ↓eX12_shows_84, ↓eX12_shows_87, ↓eX12_shows_88, ↓eX12_shows_89, ↓eX12_shows_91, ↓eX12_shows_92, ↓eX12_shows_93, ↓eX12_shows_94, ↓eX12_shows_97, ↓eX12_shows_100, e, e2, w288 hc, w289 hc (show i < 288 by omega), i0, i1, g, q, hk35 h, hr35_53 h, hk65 h, hl65 h, Int.cast_ofNat_Int, kd_si, gr_si, ln_si, gi_same, gi_na, gi_ni, nl_i, nl_r, nl_j, nj_i, nj_l, nj_r, true_and, and_true, and_self, cs_0, cs_1, cs_2, cs_3, cs_4, ↓reduceIte, Nat.reduceLeDiff, Nat.reduceEqDiff, Nat.reduceAdd, Int.reduceLE, Int.reduceLT, Int.reduceEq, Int.reduceAdd, Int.reduceNeg, Int.reduceToNat, Int.toNat_natCast, ne_eq, not_false_eq_true, not_true_eq_false, or_true, true_or, or_false, false_or]
    · rw [eor, if_neg q]
      simp only [↓eX12_shows_74, ↓eX12_shows_77, ↓eX12_shows_80, ↓eX12_shows_81, ↓eX12_shows_84, ↓eX12_shows_87, ↓eX12_shows_88, ↓eX12_shows_89, ↓eX12_shows_91, ↓eX12_shows_92, ↓eX12_shows_93, ↓eX12_shows_94, ↓eX12_shows_97, ↓eX12_shows_100, e, e2, w288 hc, w289 hc (show i < 288 by omega), i0, i1, g, q, hk35 h, hr35_53 h, hk65 h, hl65 h, Int.cast_ofNat_Int, kd_si, gr_si, ln_si, gi_same, gi_na, gi_ni, nl_i, nl_r, nl_j, nj_i, nj_l, nj_r, true_and, and_true, and_self, cs_0, cs_1, cs_2, cs_3, cs_4, ↓reduceIte, Nat.reduceLeDiff, Nat.reduceEqDiff, Nat.reduceAdd, Int.reduceLE, Int.reduceLT, Int.reduceEq, Int.reduceAdd, Int.reduceNeg, Int.reduceToNat, Int.toNat_natCast, ne_eq, not_false_eq_true, not_true_eq_false, or_true, true_or, or_false, false_or]
theorem y_sh_in {d : Nat} {B : mM} {Q : mV → mM → Prop} {D : Nat → Nat → Int} {W t : Nat} (hB : SH B) (hW : gi B 35 34 = W) (hW6 : W ≤ 6) (ht : t < 288) (h600 : cnt D W 288 ≤ 600)
    (hA : ∀ c t : Nat, c < W → t < 288 → gi B 65 (288 * c + t) = D c t)
    (hQ : ∀ N (a3 a4 : mV), nl a3 → YF shS B N → gi N 35 55 = (cn D W (t + 1) 0 : Nat) → SHL D W (cn D W (t + 1) 0) N → WP (mc d) tX12_shows 160 [vr (some 35), vi t, vi W, a3, a4] [] N Q) :
    ∀ (r c : Nat) (a3 a4 : mV) (N : mM), c + r = W → nl a3 → YF shS B N → gi N 35 55 = (cn D W t c : Nat) → SHL D W (cn D W t c) N → WP (mc d) tX12_shows 16 [vr (some 35), vi t, vi c, a3, a4] [] N Q := by
  intro r
  induction r with
  | zero =>
    intro c a3 a4 N hi n3 hF hs hL
    have e : c = W := by omega
    subst e
    have hN := YF_SH hF hB
    have k5 : gi N 35 34 = c := by rw [hF.2 35 34 (by unfold shS; omega)]; exact hW
    rw [eX12_shows_16]
    simp only [↓eX12_shows_17, ↓eX12_shows_18, ↓eX12_shows_21, hk35 hN, k5, Int.le_refl, Int.cast_ofNat_Int, kd_si, gr_si, ln_si, gi_same, gi_na, gi_ni, nl_i, nl_r, nl_j, nj_i, nj_l, nj_r, true_and, and_true, and_self, cs_0, cs_1, cs_2, cs_3, cs_4, ↓reduceIte, Nat.reduceLeDiff, Nat.reduceEqDiff, Nat.reduceAdd, Int.reduceLE, Int.reduceLT, Int.reduceEq, Int.reduceAdd, Int.reduceNeg, Int.reduceToNat, Int.toNat_natCast, ne_eq, not_false_eq_true, not_true_eq_false, or_true, true_or, or_false, false_or]
    rw [cn_W] at hs hL
    exact hQ N a3 a4 n3 hF hs hL
  | succ r ih =>
    intro c a3 a4 N hi n3 hF hs hL
    have hN := YF_SH hF hB
    have hc : c < 6 := by omega
    have k5 : gi N 35 34 = W := by rw [hF.2 35 34 (by unfold shS; omega)]; exact hW
    have e : ((W : Int) ≤ (c : Int)) = False := eq_false (by omega)
    have e2 : wr ((c : Int) + 1) = ((c + 1 : Nat) : Int) := by rw [wr_id (by omega) (by omega)]; omega
    have hg : ∀ j, j < 288 → gi N 65 (288 * c + j) = D c j := fun j hj => by rw [hF.2 65 _ (by unfold shS; omega)]; exact hA c j (by omega) hj
    have g1 := hg t ht
    have i0 : (0 ≤ ((288 * c + t : Nat) : Int)) = True := eq_true (by omega)
    have i1 : (((288 * c + t : Nat) : Int) < 1728) = True := eq_true (by omega)
    have g2 : ∀ (h : t ≠ 0), wr (((288 * c + t : Nat) : Int) - 1) = ((288 * c + (t - 1) : Nat) : Int) ∧ (0 ≤ ((288 * c + (t - 1) : Nat) : Int)) ∧ ((288 * c + (t - 1) : Nat) : Int) < 1728 ∧ gi N 65 (288 * c + (t - 1)) = D c (t - 1) := fun h => ⟨by rw [wr_id (by omega) (by omega)]; omega, by omega, by omega, hg _ (by omega)⟩
    by_cases q : stt D c t = true
    · have q' := stR_iff.mp q
      obtain ⟨p1, p2⟩ := pk_at (W := W) ht (show c < W by omega) q
      have hsT : sT D W (cn D W t c) = t := by unfold sT; rw [p1]
      have hsC : sC D W (cn D W t c) = c := by unfold sC; rw [p1]
      have hsF : sF D W (cn D W t c) = D c t := by unfold sF; rw [hsC, hsT]
      have hsU : sU D W (cn D W t c) = eor (D c) (D c t) (287 - t) (t + 1) := by unfold sU; rw [hsC, hsT, hsF]
      have hcn : cn D W t (c + 1) = cn D W t c + 1 := by rw [cn_s, if_pos q]
      have e3 : wr ((t : Int) + 1) = ((t + 1 : Nat) : Int) := by rw [wr_id (by omega) (by omega)]; omega
      have n1 : (D c t = -1) = False := eq_false q'.1
      have step : WP (mc d) tX12_shows 16 [vr (some 35), vi t, vi c, a3, a4] [] N Q = WP (mc d) tX12_shows 72 [vr (some 35), vi t, vi c, vi (D c t), vi (t + 1 : Nat)] [] N Q := by
        by_cases z : t = 0
        · have n2 : ((t : Int) ≤ 0) = True := eq_true (by omega)
          rw [eX12_shows_16]
          simp only [↓eX12_shows_17, ↓eX12_shows_18, ↓eX12_shows_21, ↓eX12_shows_24, ↓eX12_shows_25, ↓eX12_shows_28, ↓eX12_shows_31, ↓eX12_shows_32, ↓eX12_shows_33, ↓eX12_shows_34, ↓eX12_shows_35, ↓eX12_shows_36, ↓eX12_shows_37, ↓eX12_shows_38, ↓eX12_shows_39, ↓eX12_shows_42, ↓eX12_shows_43, ↓eX12_shows_46, ↓eX12_shows_47, ↓eX12_shows_50, ↓eX12_shows_53, ↓eX12_shows_54, ↓eX12_shows_55, ↓eX12_shows_56, ↓eX12_shows_57, ↓eX12_shows_58, ↓eX12_shows_59, ↓eX12_shows_60, ↓eX12_shows_61, ↓eX12_shows_64, ↓eX12_shows_67, ↓eX12_shows_68, ↓eX12_shows_69, ↓eX12_shows_70, k5, e, e3, w288 hc, w289 hc ht, i0, i1, g1, n1, n2, hk35 hN, hr35_53 hN, hk65 hN, hl65 hN, Int.cast_ofNat_Int, kd_si, gr_si, ln_si, gi_same, gi_na, gi_ni, nl_i, nl_r, nl_j, nj_i, nj_l, nj_r, true_and, and_true, and_self, cs_0, cs_1, cs_2, cs_3, cs_4, ↓reduceIte, Nat.reduceLeDiff, Nat.reduceEqDiff, Nat.reduceAdd, Int.reduceLE, Int.reduceLT, Int.reduceEq, Int.reduceAdd, Int.reduceNeg, Int.reduceToNat, Int.toNat_natCast, ne_eq, not_false_eq_true, not_true_eq_false, or_true, true_or, or_false, false_or]
        · obtain ⟨s1, s2, s3, s4⟩ := g2 z
          have n2 : ((t : Int) ≤ 0) = False := eq_false (by omega)
          have n3 : (D c (t - 1) = D c t) = False := eq_false (fun w => (q'.2.resolve_left z) w)
          rw [eX12_shows_16]
          simp only [↓eX12_shows_17, ↓eX12_shows_18, ↓eX12_shows_21, ↓eX12_shows_24, ↓eX12_shows_25, ↓eX12_shows_28, ↓eX12_shows_31, ↓eX12_shows_32, ↓eX12_shows_33, ↓eX12_shows_34, ↓eX12_shows_35, ↓eX12_shows_36, ↓eX12_shows_37, ↓eX12_shows_38, ↓eX12_shows_39, ↓eX12_shows_42, ↓eX12_shows_43, ↓eX12_shows_46, ↓eX12_shows_47, ↓eX12_shows_50, ↓eX12_shows_53, ↓eX12_shows_54, ↓eX12_shows_55, ↓eX12_shows_56, ↓eX12_shows_57, ↓eX12_shows_58, ↓eX12_shows_59, ↓eX12_shows_60, ↓eX12_shows_61, ↓eX12_shows_64, ↓eX12_shows_67, ↓eX12_shows_68, ↓eX12_shows_69, ↓eX12_shows_70, k5, e, e3, w288 hc, w289 hc ht, i0, i1, g1, n1, n2, n3, s1, s2, s3, s4, hk35 hN, hr35_53 hN, hk65 hN, hl65 hN, Int.cast_ofNat_Int, kd_si, gr_si, ln_si, gi_same, gi_na, gi_ni, nl_i, nl_r, nl_j, nj_i, nj_l, nj_r, true_and, and_true, and_self, cs_0, cs_1, cs_2, cs_3, cs_4, ↓reduceIte, Nat.reduceLeDiff, Nat.reduceEqDiff, Nat.reduceAdd, Int.reduceLE, Int.reduceLT, Int.reduceEq, Int.reduceAdd, Int.reduceNeg, Int.reduceToNat, Int.toNat_natCast, ne_eq, not_false_eq_true, not_true_eq_false, or_true, true_or, or_false, false_or]
      rw [step, y_end hN hc hg (287 - t) (t + 1) (by omega), ← hsU]
      generalize hm : cn D W t c = m at *
      have m0 : (0 ≤ (m : Int)) = True := eq_true (by omega)
      have m1 : ((m : Int) < 1728) = True := eq_true (by omega)
      have m2 : wr ((m : Int) + 1) = ((m + 1 : Nat) : Int) := by rw [wr_id (by omega) (by omega)]; omega
      simp only [↓eX12_shows_103, ↓eX12_shows_104, ↓eX12_shows_107, ↓eX12_shows_108, ↓eX12_shows_111, ↓eX12_shows_112, ↓eX12_shows_113, ↓eX12_shows_114, ↓eX12_shows_117, ↓eX12_shows_118, ↓eX12_shows_121, ↓eX12_shows_122, ↓eX12_shows_123, ↓eX12_shows_124, ↓eX12_shows_127, ↓eX12_shows_128, ↓eX12_shows_131, ↓eX12_shows_132, ↓eX12_shows_133, ↓eX12_shows_134, ↓eX12_shows_137, ↓eX12_shows_138, ↓eX12_shows_141, ↓eX12_shows_143, ↓eX12_shows_144, ↓eX12_shows_145, ↓eX12_shows_146, ↓eX12_shows_149, ↓eX12_shows_150, ↓eX12_shows_151, ↓eX12_shows_154, ↓eX12_shows_157, hs, m0, m1, m2, e2, hk35 hN, hr35_56 hN, hr35_57 hN, hr35_58 hN, hr35_59 hN, hk67 hN, hl67 hN, hk68 hN, hl68 hN, hk69 hN, hl69 hN, hk70 hN, hl70 hN, Int.cast_ofNat_Int, kd_si, gr_si, ln_si, gi_same, gi_na, gi_ni, nl_i, nl_r, nl_j, nj_i, nj_l, nj_r, true_and, and_true, and_self, cs_0, cs_1, cs_2, cs_3, cs_4, ↓reduceIte, Nat.reduceLeDiff, Nat.reduceEqDiff, Nat.reduceAdd, Int.reduceLE, Int.reduceLT, Int.reduceEq, Int.reduceAdd, Int.reduceNeg, Int.reduceToNat, Int.toNat_natCast, ne_eq, not_false_eq_true, not_true_eq_false, or_true, true_or, or_false, false_or]
      refine ih (c + 1) _ _ _ (by omega) (nlI _) ?_ ?_ ?_
      · refine YF_si (Or.inr ⟨rfl, rfl⟩) (YF_si (Or.inl (by omega)) (YF_si (Or.inl (by omega)) (YF_si (Or.inl (by omega)) (YF_si (Or.inl (by omega)) hF))))
      · rw [hcn, gi_same]
      · rw [hcn]
        intro j hj
        by_cases z : j = m
        · subst z
          simp only [gi_same, gi_na, ne_eq, Nat.reduceEqDiff, not_false_eq_true, hsF, hsC, hsT]
          exact ⟨trivial, trivial, trivial, trivial⟩
        · have zn := z
          simp only [gi_ni z, gi_na, ne_eq, Nat.reduceEqDiff, not_false_eq_true]
          exact hL j (by omega)
    · have hcn : cn D W t (c + 1) = cn D W t c := by rw [cn_s, if_neg q, Nat.add_zero]
      have step : WP (mc d) tX12_shows 16 [vr (some 35), vi t, vi c, a3, a4] [] N Q = WP (mc d) tX12_shows 16 [vr (some 35), vi t, vi ((c + 1 : Nat) : Int), vi (D c t), a4] [] N Q := by
        by_cases z1 : D c t = -1
        · rw [eX12_shows_16]
          simp only [↓eX12_shows_17, ↓eX12_shows_18, ↓eX12_shows_21, ↓eX12_shows_24, ↓eX12_shows_25, ↓eX12_shows_28, ↓eX12_shows_31, ↓eX12_shows_32, ↓eX12_shows_33, ↓eX12_shows_34, ↓eX12_shows_35, ↓eX12_shows_36, ↓eX12_shows_37, ↓eX12_shows_38, ↓eX12_shows_39, ↓eX12_shows_42, ↓eX12_shows_43, ↓eX12_shows_46, ↓eX12_shows_47, ↓eX12_shows_50, ↓eX12_shows_53, ↓eX12_shows_54, ↓eX12_shows_55, ↓eX12_shows_56, ↓eX12_shows_57, ↓eX12_shows_58, ↓eX12_shows_59, ↓eX12_shows_60, ↓eX12_shows_61, ↓eX12_shows_64, ↓eX12_shows_154, ↓eX12_shows_157, k5, e, e2, w288 hc, w289 hc ht, i0, i1, g1, z1, hk35 hN, hr35_53 hN, hk65 hN, hl65 hN, Int.cast_ofNat_Int, kd_si, gr_si, ln_si, gi_same, gi_na, gi_ni, nl_i, nl_r, nl_j, nj_i, nj_l, nj_r, true_and, and_true, and_self, cs_0, cs_1, cs_2, cs_3, cs_4, ↓reduceIte, Nat.reduceLeDiff, Nat.reduceEqDiff, Nat.reduceAdd, Int.reduceLE, Int.reduceLT, Int.reduceEq, Int.reduceAdd, Int.reduceNeg, Int.reduceToNat, Int.toNat_natCast, ne_eq, not_false_eq_true, not_true_eq_false, or_true, true_or, or_false, false_or]
        · have z : t ≠ 0 := fun w => q (stR_iff.mpr ⟨z1, Or.inl w⟩)
          obtain ⟨s1, s2, s3, s4⟩ := g2 z
          have n3 : D c (t - 1) = D c t := by
            by_cases y : D c (t - 1) = D c t
            · exact y
            · exact absurd (stR_iff.mpr ⟨z1, Or.inr y⟩) q
          have n2 : ((t : Int) ≤ 0) = False := eq_false (by omega)
          rw [eX12_shows_16]
          simp only [↓eX12_shows_17, ↓eX12_shows_18, ↓eX12_shows_21, ↓eX12_shows_24, ↓eX12_shows_25, ↓eX12_shows_28, ↓eX12_shows_31, ↓eX12_shows_32, ↓eX12_shows_33, ↓eX12_shows_34, ↓eX12_shows_35, ↓eX12_shows_36, ↓eX12_shows_37, ↓eX12_shows_38, ↓eX12_shows_39, ↓eX12_shows_42, ↓eX12_shows_43, ↓eX12_shows_46, ↓eX12_shows_47, ↓eX12_shows_50, ↓eX12_shows_53, ↓eX12_shows_54, ↓eX12_shows_55, ↓eX12_shows_56, ↓eX12_shows_57, ↓eX12_shows_58, ↓eX12_shows_59, ↓eX12_shows_60, ↓eX12_shows_61, ↓eX12_shows_64, ↓eX12_shows_154, ↓eX12_shows_157, k5, e, e2, w288 hc, w289 hc ht, i0, i1, g1, z1, n2, n3, s1, s2, s3, s4, hk35 hN, hr35_53 hN, hk65 hN, hl65 hN, Int.cast_ofNat_Int, kd_si, gr_si, ln_si, gi_same, gi_na, gi_ni, nl_i, nl_r, nl_j, nj_i, nj_l, nj_r, true_and, and_true, and_self, cs_0, cs_1, cs_2, cs_3, cs_4, ↓reduceIte, Nat.reduceLeDiff, Nat.reduceEqDiff, Nat.reduceAdd, Int.reduceLE, Int.reduceLT, Int.reduceEq, Int.reduceAdd, Int.reduceNeg, Int.reduceToNat, Int.toNat_natCast, ne_eq, not_false_eq_true, not_true_eq_false, or_true, true_or, or_false, false_or]
      rw [step]
      exact ih (c + 1) _ _ N (by omega) (nlI _) hF (by rw [hcn]; exact hs) (by rw [hcn]; exact hL)
theorem y_sh_out {d : Nat} {B : mM} {Q : mV → mM → Prop} {D : Nat → Nat → Int} {W : Nat} (hB : SH B) (hW : gi B 35 34 = W) (hW6 : W ≤ 6) (h600 : cnt D W 288 ≤ 600)
    (hA : ∀ c t : Nat, c < W → t < 288 → gi B 65 (288 * c + t) = D c t)
    (hQ : ∀ N, YF shS B N → gi N 35 55 = (cnt D W 288 : Nat) → SHL D W (cnt D W 288) N → Q vj N) :
    ∀ (r t : Nat) (a2 a3 a4 : mV) (N : mM), t + r = 288 → nl a3 → YF shS B N → gi N 35 55 = (cn D W t 0 : Nat) → SHL D W (cn D W t 0) N → WP (mc d) tX12_shows 7 [vr (some 35), vi t, a2, a3, a4] [] N Q := by
  intro r
  induction r with
  | zero =>
    intro t a2 a3 a4 N hi n3 hF hs hL
    have e : t = 288 := by omega
    subst e
    rw [eX12_shows_7]
    simp only [↓eX12_shows_8, ↓eX12_shows_11, ↓eX12_shows_166, Int.le_refl, Int.cast_ofNat_Int, kd_si, gr_si, ln_si, gi_same, gi_na, gi_ni, nl_i, nl_r, nl_j, nj_i, nj_l, nj_r, true_and, and_true, and_self, cs_0, cs_1, cs_2, cs_3, cs_4, ↓reduceIte, Nat.reduceLeDiff, Nat.reduceEqDiff, Nat.reduceAdd, Int.reduceLE, Int.reduceLT, Int.reduceEq, Int.reduceAdd, Int.reduceNeg, Int.reduceToNat, Int.toNat_natCast, ne_eq, not_false_eq_true, not_true_eq_false, or_true, true_or, or_false, false_or]
    rw [cn_0] at hs hL
    exact hQ N hF hs hL
  | succ r ih =>
    intro t a2 a3 a4 N hi n3 hF hs hL
    have e : ((288 : Int) ≤ (t : Int)) = False := eq_false (by omega)
    have e2 : wr ((t : Int) + 1) = ((t + 1 : Nat) : Int) := by rw [wr_id (by omega) (by omega)]; omega
    rw [eX12_shows_7]
    simp only [↓eX12_shows_8, ↓eX12_shows_11, ↓eX12_shows_14, ↓eX12_shows_15, e, Int.cast_ofNat_Int, kd_si, gr_si, ln_si, gi_same, gi_na, gi_ni, nl_i, nl_r, nl_j, nj_i, nj_l, nj_r, true_and, and_true, and_self, cs_0, cs_1, cs_2, cs_3, cs_4, ↓reduceIte, Nat.reduceLeDiff, Nat.reduceEqDiff, Nat.reduceAdd, Int.reduceLE, Int.reduceLT, Int.reduceEq, Int.reduceAdd, Int.reduceNeg, Int.reduceToNat, Int.toNat_natCast, ne_eq, not_false_eq_true, not_true_eq_false, or_true, true_or, or_false, false_or]
    exact y_sh_in hB hW hW6 (by omega) h600 hA (fun N' b3 b4 n3 q1 q2 q3 => by
      simp only [↓eX12_shows_160, ↓eX12_shows_163, e2, Int.cast_ofNat_Int, kd_si, gr_si, ln_si, gi_same, gi_na, gi_ni, nl_i, nl_r, nl_j, nj_i, nj_l, nj_r, true_and, and_true, and_self, cs_0, cs_1, cs_2, cs_3, cs_4, ↓reduceIte, Nat.reduceLeDiff, Nat.reduceEqDiff, Nat.reduceAdd, Int.reduceLE, Int.reduceLT, Int.reduceEq, Int.reduceAdd, Int.reduceNeg, Int.reduceToNat, Int.toNat_natCast, ne_eq, not_false_eq_true, not_true_eq_false, or_true, true_or, or_false, false_or]
      exact ih (t + 1) _ b3 b4 N' (by omega) n3 q1 q2 q3) W 0 a3 a4 N (by omega) n3 hF hs hL
/-- the reference's day as made -/
def DAYM (M : mM) (n W : Nat) : Prop := (∀ c t : Nat, c < W → t < 288 → gi M 65 (288 * c + t) = dy M n c t) ∧ gi M 35 55 = (cnt (dy M n) W 288 : Nat) ∧ SHL (dy M n) W (cnt (dy M n) W 288) M
def DM (M : mM) : Prop := gi M 35 51 = -1 ∨ ∃ n W : Nat, gi M 35 51 = n ∧ gi M 35 34 = W ∧ (n : Int) ≤ gi M 35 37 ∧ DAYM M n W
def mdS (a i : Nat) : Prop := (64 ≤ a ∧ a ≤ 70) ∨ (a = 35 ∧ (i = 51 ∨ i = 55))
theorem YF_fe {M N : mM} (h : YF mdS M N) (n : Nat) : fe n M N := ⟨fun a k h1 h2 _ => h.2 a k (by unfold mdS; omega), fun s _ => h.2 55 s (by unfold mdS; omega)⟩
theorem YF_FM {M N : mM} (h : YF mdS M N) (k : FM M) : FM N := by
  have e35 : gi N 35 35 = gi M 35 35 := h.2 35 35 (by unfold mdS; omega)
  have e34 : gi N 35 34 = gi M 35 34 := h.2 35 34 (by unfold mdS; omega)
  have e37 : gi N 35 37 = gi M 35 37 := h.2 35 37 (by unfold mdS; omega)
  have t : ∀ a i, 55 ≤ a → a ≤ 63 → gi N a i = gi M a i := fun a i h1 h2 => h.2 a i (by unfold mdS; omega)
  have e56 := fun i => t 56 i (by decide) (by decide)
  have e57 := fun i => t 57 i (by decide) (by decide)
  have e58 := fun i => t 58 i (by decide) (by decide)
  have e59 := fun i => t 59 i (by decide) (by decide)
  have e60 := fun i => t 60 i (by decide) (by decide)
  have e61 := fun i => t 61 i (by decide) (by decide)
  have e62 := fun i => t 62 i (by decide) (by decide)
  have e63 := fun i => t 63 i (by decide) (by decide)
  unfold FM at k ⊢
  simp only [e34, e35, e37, e56, e57, e58, e59, e60, e61, e62, e63]
  exact k
theorem y_makes {d n S W : Nat} {M : mM} {Q : mV → mM → Prop} (h : SH M) (hf : FM M) (hn : (n : Int) ≤ gi M 35 37) (h3 : gi M 35 37 ≤ 300) (hS : gi M 35 35 = S) (h6 : S ≤ 6) (hW : gi M 35 34 = W) (hW6 : W ≤ 6) (hd : DM M)
    (hQ : ∀ N, YF mdS M N → gi N 35 51 = n → DAYM N n W → Q vj N) : CP (mc (d + 2)) 156 [vr (some 35), vi n] M Q := by
  by_cases q : gi M 35 51 = n
  · simp only [↓cpX12_makes, ↓eX12_makes_0, ↓eX12_makes_1, ↓eX12_makes_4, ↓eX12_makes_5, ↓eX12_makes_8, hk35 h, q, Int.cast_ofNat_Int, kd_si, gr_si, ln_si, gi_same, gi_na, gi_ni, nl_i, nl_r, nl_j, nj_i, nj_l, nj_r, true_and, and_true, and_self, cs_0, cs_1, cs_2, cs_3, cs_4, ↓reduceIte, Nat.reduceLeDiff, Nat.reduceEqDiff, Nat.reduceAdd, Int.reduceLE, Int.reduceLT, Int.reduceEq, Int.reduceAdd, Int.reduceNeg, Int.reduceToNat, Int.toNat_natCast, ne_eq, not_false_eq_true, not_true_eq_false, or_true, true_or, or_false, false_or]
    rcases hd with w | ⟨n', W', w1, w2, w3, w4⟩
    · omega
    · have e1 : n' = n := by omega
      have e2 : W' = W := by omega
      subst e1 e2
      exact hQ M YF_refl w1 w4
  · simp only [↓cpX12_makes, ↓eX12_makes_0, ↓eX12_makes_1, ↓eX12_makes_4, ↓eX12_makes_5, ↓eX12_makes_8, ↓eX12_makes_9, ↓eX12_makes_10, ↓eX12_makes_11, ↓eX12_makes_14, ↓eX12_makes_15, hk35 h, q, Int.cast_ofNat_Int, kd_si, gr_si, ln_si, gi_same, gi_na, gi_ni, nl_i, nl_r, nl_j, nj_i, nj_l, nj_r, true_and, and_true, and_self, cs_0, cs_1, cs_2, cs_3, cs_4, ↓reduceIte, Nat.reduceLeDiff, Nat.reduceEqDiff, Nat.reduceAdd, Int.reduceLE, Int.reduceLT, Int.reduceEq, Int.reduceAdd, Int.reduceNeg, Int.reduceToNat, Int.toNat_natCast, ne_eq, not_false_eq_true, not_true_eq_false, or_true, true_or, or_false, false_or]
    obtain ⟨M1, hM1⟩ : ∃ M1, M1 = si M 35 51 n := ⟨_, rfl⟩
    rw [← hM1]
    have y1 : YF mdS M M1 := by rw [hM1]; exact YF_si (Or.inr ⟨rfl, Or.inl rfl⟩) YF_refl
    have s1 := YF_SH y1 h
    have g51 : gi M1 35 51 = n := by rw [hM1, gi_same]
    have e35 : gi M1 35 35 = gi M 35 35 := y1.2 35 35 (by unfold mdS; omega)
    have e34 : gi M1 35 34 = gi M 35 34 := y1.2 35 34 (by unfold mdS; omega)
    have e37 : gi M1 35 37 = gi M 35 37 := y1.2 35 37 (by unfold mdS; omega)
    have f1 := YF_FM y1 hf
    have D1 : dy M1 n = dy M n := dyD hf hn (YF_fe y1 n)
    refine y_mk_ch s1 f1 (by rw [e37]; exact hn) (by rw [e37]; exact h3) (by rw [e35]; exact hS) h6 (by rw [e34]; exact hW) hW6 (fun N a3 a4 a5 dN hA => ?_) W 0 vj vj vj M1 (by omega) nlJ DF_refl (fun c t hc => absurd hc (Nat.not_lt_zero c))
    have hN := DF_SH dN s1
    have yN : YF mdS M1 N := YF_mono (fun a i z => Or.inl (by unfold mdP at z; omega)) (YF_DF dN)
    have yMN := YF_trans y1 yN
    have eN34 : gi N 35 34 = W := by rw [yMN.2 35 34 (by unfold mdS; omega)]; exact hW
    have u2 := cnt_600 hf hn W
    have hN0 : SH (si N 35 55 0) := hN
    simp only [↓eX12_makes_288, ↓eX12_makes_289, ↓cpX12_shows, ↓eX12_shows_0, ↓eX12_shows_1, ↓eX12_shows_2, ↓eX12_shows_5, ↓eX12_shows_6, hk35 hN, Int.cast_ofNat_Int, kd_si, gr_si, ln_si, gi_same, gi_na, gi_ni, nl_i, nl_r, nl_j, nj_i, nj_l, nj_r, true_and, and_true, and_self, cs_0, cs_1, cs_2, cs_3, cs_4, ↓reduceIte, Nat.reduceLeDiff, Nat.reduceEqDiff, Nat.reduceAdd, Int.reduceLE, Int.reduceLT, Int.reduceEq, Int.reduceAdd, Int.reduceNeg, Int.reduceToNat, Int.toNat_natCast, ne_eq, not_false_eq_true, not_true_eq_false, or_true, true_or, or_false, false_or]
    refine y_sh_out (B := N) (D := dy M n) (W := W) hN eN34 hW6 (by omega) (fun c t hc ht => by rw [hA c t hc ht, D1]) (fun R yR hs hL => ⟨rfl, ?_⟩) 288 0 vj vj vj _ (by omega) nlJ (YF_si (Or.inr ⟨rfl, rfl⟩) YF_refl) (gi_same _ _ _ _) (fun j hj => absurd hj (Nat.not_lt_zero j))
    simp only [↓eX12_makes_292, Int.cast_ofNat_Int, kd_si, gr_si, ln_si, gi_same, gi_na, gi_ni, nl_i, nl_r, nl_j, nj_i, nj_l, nj_r, true_and, and_true, and_self, cs_0, cs_1, cs_2, cs_3, cs_4, ↓reduceIte, Nat.reduceLeDiff, Nat.reduceEqDiff, Nat.reduceAdd, Int.reduceLE, Int.reduceLT, Int.reduceEq, Int.reduceAdd, Int.reduceNeg, Int.reduceToNat, Int.toNat_natCast, ne_eq, not_false_eq_true, not_true_eq_false, or_true, true_or, or_false, false_or]
    have yR' : YF mdS M R := YF_trans yMN (YF_mono (fun a i z => by unfold shS at z; unfold mdS; omega) yR)
    have DR : dy R n = dy M n := dyD hf hn (YF_fe yR' n)
    refine hQ R yR' ?_ ⟨fun c t hc ht => ?_, ?_, ?_⟩
    · rw [yR.2 35 51 (by unfold shS; omega), dN.2 35 51 (by unfold mdP; omega)]; exact g51
    · rw [DR, yR.2 65 _ (by unfold shS; omega), hA c t hc ht, D1]
    · rw [DR]; exact hs
    · rw [DR]; exact hL
