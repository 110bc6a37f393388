/-! ===== frames ===== -/
/-- what a run of calls leaves as it was: ints but at S, references but of T -/
def FRM (S : Nat → Nat → Prop) (T : Nat → Prop) (M M' : mM) : Prop := (∀ a i, a < nx M → ¬ S a i → gi M' a i = gi M a i) ∧ (∀ a i, a < nx M → ¬ T a → gr M' a i = gr M a i) ∧ (∀ a, a < nx M → kd M' a = kd M a ∧ ln M' a = ln M a) ∧ nx M ≤ nx M' ∧ zs M' + 20 * nx M ≤ zs M + 20 * nx M'
theorem FRM_refl {S : Nat → Nat → Prop} {T : Nat → Prop} {M : mM} : FRM S T M M := ⟨fun _ _ _ _ => rfl, fun _ _ _ _ => rfl, fun _ _ => ⟨rfl, rfl⟩, Nat.le_refl _, Nat.le_refl _⟩
theorem FRM_si {S : Nat → Nat → Prop} {T : Nat → Prop} {M N : mM} {a i : Nat} {z : Int} (hs : a < nx M → S a i) (h : FRM S T M N) : FRM S T M (si N a i z) := by
  refine ⟨fun b j hb hn => ?_, h.2.1, h.2.2.1, h.2.2.2⟩
  rw [gi_si, if_neg]
  · exact h.1 b j hb hn
  · rintro ⟨rfl, rfl⟩
    exact hn (hs hb)
theorem FRM_sw {S : Nat → Nat → Prop} {T : Nat → Prop} {M N : mM} {a : Nat} {f : Nat → Int} (hs : ∀ j, a < nx M → S a j ∨ f j = gi M a j) (h : FRM S T M N) : FRM S T M (sw N a f) := by
  refine ⟨fun b j hb hn => ?_, h.2.1, h.2.2.1, h.2.2.2⟩
  rw [gi_sw]
  split
  · rename_i e
    subst e
    rcases hs j hb with w | w
    · exact absurd w hn
    · exact w
  · exact h.1 b j hb hn
theorem FRM_sr {S : Nat → Nat → Prop} {T : Nat → Prop} {M N : mM} {a i : Nat} {z : Option Nat} (hs : a < nx M → T a) (h : FRM S T M N) : FRM S T M (sr N a i z) := by
  refine ⟨h.1, fun b j hb hn => ?_, h.2.2.1, h.2.2.2⟩
  rw [gr_sr, if_neg]
  · exact h.2.1 b j hb hn
  · rintro ⟨rfl, rfl⟩
    exact hn (hs hb)
theorem FRM_sv {S : Nat → Nat → Prop} {T : Nat → Prop} {M N : mM} {a : Nat} {f : Nat → Option Nat} (hs : a < nx M → T a) (h : FRM S T M N) : FRM S T M (sv N a f) := by
  refine ⟨h.1, fun b j hb hn => ?_, h.2.2.1, h.2.2.2⟩
  rw [gr_svn]
  · exact h.2.1 b j hb hn
  · rintro rfl
    exact hn (hs hb)
theorem FRM_al {S : Nat → Nat → Prop} {T : Nat → Prop} {M N : mM} {k n w : Nat} (hw : w ≤ 20) (h : FRM S T M N) : FRM S T M (al N k n w) := by
  obtain ⟨h1, h2, h3, h4, h5⟩ := h
  refine ⟨fun b j hb hn => ?_, fun b j hb hn => ?_, fun b hb => ?_, by rw [nx_al]; omega, by rw [nx_al, zs_al]; omega⟩
  · rw [gi_al, if_neg (by omega)]; exact h1 b j hb hn
  · rw [gr_al, if_neg (by omega)]; exact h2 b j hb hn
  · rw [kd_al, ln_al, if_neg (by omega), if_neg (by omega)]; exact h3 b hb
theorem FRM_trans {S S' : Nat → Nat → Prop} {T T' : Nat → Prop} {M N P : mM} (h : FRM S T M N) (h' : FRM S' T' N P) (hs : ∀ a i, a < nx M → S' a i → S a i) (ht : ∀ a, a < nx M → T' a → T a) : FRM S T M P := by
  obtain ⟨h1, h2, h3, h4, h5⟩ := h
  obtain ⟨k1, k2, k3, k4, k5⟩ := h'
  refine ⟨fun a i ha hn => ?_, fun a i ha hn => ?_, fun a ha => ?_, by omega, by omega⟩
  · rw [k1 a i (by omega) (fun w => hn (hs a i ha w))]; exact h1 a i ha hn
  · rw [k2 a i (by omega) (fun w => hn (ht a ha w))]; exact h2 a i ha hn
  · rw [(k3 a (by omega)).1, (k3 a (by omega)).2]; exact h3 a ha
theorem FRM_mono {S S' : Nat → Nat → Prop} {T T' : Nat → Prop} {M N : mM} (h' : FRM S' T' M N) (hs : ∀ a i, a < nx M → S' a i → S a i) (ht : ∀ a, a < nx M → T' a → T a) : FRM S T M N := FRM_trans FRM_refl h' hs ht
theorem FRM_SH {S : Nat → Nat → Prop} {T : Nat → Prop} {M N : mM} (h : FRM S T M N) (hs : SH M) (ht : ∀ q ∈ rfT, ¬ T q.1) : SH N := by
  obtain ⟨h1, h2, h3, h4⟩ := hs
  refine ⟨fun a ha => ?_, fun a ha => ?_, fun q hq => ?_, by have := h.2.2.2.1; omega⟩
  · rw [(h.2.2.1 a (by omega)).1]; exact h1 a ha
  · rw [(h.2.2.1 a (by omega)).2]; exact h2 a ha
  · have hq1 : q.1 < 88 := (by decide : ∀ q ∈ rfT, q.1 < 88) q hq
    rw [h.2.1 _ _ (by omega) (ht q hq)]; exact h3 q hq
/-! ===== a new source ===== -/
theorem x_Source {d : Nat} {M : mM} {Q : mV → mM → Prop} {a : Nat} {n t : Int} (hk : kd M a = 7) : CP (mc (d + 1)) 58 [vr (some a), vi n, vi t] M Q = Q vj (si (si M a 0 n) a 1 t) := by
  simp only [↓cpX7_init, ↓eX7_init_0, ↓eX7_init_1, ↓eX7_init_4, ↓eX7_init_5, ↓eX7_init_6, ↓eX7_init_9, ↓eX7_init_10, ↓eX7_init_11, ↓eX7_init_14, hk, Int.cast_ofNat_Int, kd_si, gr_si, ln_si, gi_same, gi_na, gi_ni, nl_i, nl_r, nl_j, nj_i, nj_l, nj_r, true_and, and_true, and_self, cs_0, cs_1, cs_2, cs_3, cs_4, ↓reduceIte, Nat.reduceLeDiff, Nat.reduceEqDiff, Nat.reduceAdd, Int.reduceLE, Int.reduceLT, Int.reduceEq, Int.reduceAdd, Int.reduceNeg, Int.reduceToNat, Int.toNat_natCast, ne_eq, not_false_eq_true, not_true_eq_false, or_true, true_or, or_false, false_or]
/-- the memory after a new source of trust t, n sources ahead of it -/
def soM (M : mM) (n : Nat) (t : Int) : mM := sr (si (si (al M 7 0 2) (nx M) 0 n) (nx M) 1 t) 2 n (some (nx M))
def srcM (M : mM) (n q : Nat) (t : Int) : mM := si (sr (sv (soM M n t) 3 (fun j => if q < j ∧ j ≤ n then gr M 3 (j - 1) else gr M 3 j)) 3 q (some (nx M))) 1 1 (n + 1 : Nat)
theorem x_source {d : Nat} {M : mM} {Q : mV → mM → Prop} {t : Int} {n : Nat} {R : Nat → Nat} {T : Nat → Int} (h : SH M) (hn : gi M 1 1 = n) (hR : ∀ k, k < n → gr M 3 k = some (R k) ∧ 88 ≤ R k ∧ R k < nx M ∧ kd M (R k) = 7 ∧ gi M (R k) 0 < n ∧ gi M (R k) 1 = T k) :
    CP (mc (d + 3)) 107 [vr (some 0), vi t] M Q = if (1 ≤ t ∧ t ≤ 9) ∧ n < 6 then Q (vi n) (srcM M n (ins T t n) t) else Q (vi (-1)) M := by
  have h88 := h.2.2.2
  by_cases q1 : 1 ≤ t ∧ t ≤ 9
  · have q2 : ¬ t < 1 := by omega
    have q3 : t ≤ 9 := by omega
    by_cases q4 : n < 6
    · rw [if_pos ⟨q1, q4⟩]
      have e0 : ((6 : Int) ≤ (n : Int)) = False := eq_false (by omega)
      have e1 : (0 ≤ (n : Int)) = True := eq_true (by omega)
      have e2 : ((n : Int) < 6) = True := eq_true (by omega)
      have w1 : wr ((n : Int) + 1) = ((n + 1 : Nat) : Int) := by rw [wr_id (by omega) (by omega)]; omega
      have n0 : (0 = nx M) = False := eq_false (by omega)
      have n1 : (1 = nx M) = False := eq_false (by omega)
      have n2 : (2 = nx M) = False := eq_false (by omega)
      have n3 : (3 = nx M) = False := eq_false (by omega)
      have m1 : (nx M = 1) = False := eq_false (by omega)
      have m2 : (nx M = 2) = False := eq_false (by omega)
      have m3 : (nx M = 3) = False := eq_false (by omega)
      have hS : SH (soM M n t) := SH_sr (SH_al h) rf2
      have hb0 : gi (soM M n t) (nx M) 0 = n := by
        show gi (si (si (al M 7 0 2) (nx M) 0 n) (nx M) 1 t) (nx M) 0 = n
        rw [gi_ni (by decide), gi_same]
      have hb1 : gi (soM M n t) (nx M) 1 = t := gi_same _ _ _ _
      have hbk : kd (soM M n t) (nx M) = 7 := by
        show kd (al M 7 0 2) (nx M) = 7
        rw [kd_al, if_pos rfl]
      have g3 : ∀ j, gr (soM M n t) 3 j = gr M 3 j := fun j => by
        show gr (sr (si (si (al M 7 0 2) (nx M) 0 n) (nx M) 1 t) 2 n (some (nx M))) 3 j = _
        rw [gr_na (by decide)]
        show gr (al M 7 0 2) 3 j = _
        rw [gr_al, if_neg (by omega)]
      have go : ∀ a, a < nx M → kd (soM M n t) a = kd M a ∧ ∀ i, gi (soM M n t) a i = gi M a i := fun a ha => by
        constructor
        · show kd (al M 7 0 2) a = _
          rw [kd_al, if_neg (by omega)]
        · intro i
          show gi (si (si (al M 7 0 2) (nx M) 0 n) (nx M) 1 t) a i = _
          rw [gi_na (by omega), gi_na (by omega), gi_al, if_neg (by omega)]
      have lp := fun (Q : mV → mM → Prop) => x_rank_loop (d := d) (Q := Q) (R := R) (T := T) (t0 := t) (t := t) (n := n) (b := nx M) n (soM M n t) q4 hS hbk hb0 hb1 (fun k hk => by
        obtain ⟨r1, r2, r3, r4, r5, r6⟩ := hR k hk
        rw [g3, (go (R k) r3).1, (go (R k) r3).2, (go (R k) r3).2]
        exact ⟨r1, r4, r5, r6⟩)
      have hf : (fun j => if ins T t n < j ∧ j ≤ n then gr (soM M n t) 3 (j - 1) else gr (soM M n t) 3 j) = fun j => if ins T t n < j ∧ j ≤ n then gr M 3 (j - 1) else gr M 3 j := by
        funext j
        rw [g3, g3]
      simp only [hf] at lp
      have il : ((ins T t n : Nat) : Int) < 6 := by have := ins_le T t n; omega
      have il0 : 0 ≤ ((ins T t n : Nat) : Int) := by omega
      have c1 : ∀ i, gi (soM M n t) 1 i = gi M 1 i := (go 1 (by omega)).2
      simp only [↓cpX11_source, ↓cpX3_addSource, ↓eX11_source_0, ↓eX11_source_1, ↓eX11_source_2, ↓eX11_source_5, ↓eX11_source_6, ↓eX11_source_8, ↓eX11_source_11, ↓eX11_source_12, ↓eX11_source_13, ↓eX11_source_14, ↓eX11_source_17, ↓eX11_source_18, ↓eX11_source_21, ↓eX3_addSource_0, ↓eX3_addSource_1, ↓eX3_addSource_4, ↓eX3_addSource_5, ↓eX3_addSource_8, ↓eX3_addSource_9, ↓eX3_addSource_12, ↓eX3_addSource_13, ↓eX3_addSource_16, ↓eX3_addSource_17, ↓eX3_addSource_20, ↓eX3_addSource_21, ↓eX3_addSource_24, ↓eX3_addSource_25, ↓eX3_addSource_26, ↓eX3_addSource_29, ↓eX3_addSource_30, ↓eX3_addSource_31, ↓eX3_addSource_34, ↓eX3_addSource_35, ↓eX3_addSource_38, ↓eX3_addSource_39, ↓eX3_addSource_40, ↓eX3_addSource_43, ↓eX3_addSource_44, ↓eX3_addSource_47, ↓eX3_addSource_48, ↓eX3_addSource_49, ↓eX3_addSource_50, ↓eX3_addSource_53, hk0 h, hk1 h, hk2 h, hl2 h, hk3 h, hl3 h, hk4 h, hl4 h, hk5 h, hk6 h, hl6 h, hk7 h, hl7 h, hk8 h, hl8 h, hk9 h, hl9 h, hk10 h, hl10 h, hk11 h, hl11 h, hk12 h, hl12 h, hk13 h, hl13 h, hk14 h, hl14 h, hk15 h, hl15 h, hk16 h, hk17 h, hl17 h, hk18 h, hk19 h, hl19 h, hk20 h, hk21 h, hk22 h, hl22 h, hk23 h, hl23 h, hk24 h, hl24 h, hk25 h, hl25 h, hk26 h, hk27 h, hl27 h, hk28 h, hl28 h, hk29 h, hl29 h, hk30 h, hl30 h, hk31 h, hk32 h, hl32 h, hk33 h, hk34 h, hl34 h, hr0_0 h, hr1_3 h, hr1_4 h, hr1_5 h, hr0_1 h, hr5_3 h, hr6_0 h, hr6_1 h, hr6_2 h, hr6_3 h, hr6_4 h, hr6_5 h, hr5_4 h, hr5_5 h, hr5_6 h, hr0_2 h, hr16_5 h, hr0_3 h, hr18_9 h, hr0_4 h, hr21_2 h, hr21_3 h, hr21_4 h, hr21_5 h, hr26_2 h, hr26_3 h, hr26_4 h, hr26_5 h, hr31_5 h, hr33_5 h, hn, q2, q3, e0, e1, e2, ↓x_Source, kd_al, gr_al, gi_al, ln_al, n0, n1, n2, n3, m1, m2, m3, kd_sr, gr_sr, gi_sr, ln_sr, false_and, reduceCtorEq, Int.cast_ofNat_Int, kd_si, gr_si, ln_si, gi_same, gi_na, gi_ni, nl_i, nl_r, nl_j, nj_i, nj_l, nj_r, true_and, and_true, and_self, cs_0, cs_1, cs_2, cs_3, cs_4, ↓reduceIte, Nat.reduceLeDiff, Nat.reduceEqDiff, Nat.reduceAdd, Int.reduceLE, Int.reduceLT, Int.reduceEq, Int.reduceAdd, Int.reduceNeg, Int.reduceToNat, Int.toNat_natCast, ne_eq, not_false_eq_true, not_true_eq_false, or_true, true_or, or_false, false_or]
      have eq : sr (si (si (al M 7 0 2) (nx M) 0 (n : Int)) (nx M) 1 t) 2 n (some (nx M)) = soM M n t := rfl
      rw [eq, lp]
      simp only [↓eX3_addSource_104, ↓eX3_addSource_105, ↓eX3_addSource_108, ↓eX3_addSource_109, ↓eX3_addSource_110, ↓eX3_addSource_111, ↓eX3_addSource_112, ↓eX3_addSource_113, ↓eX3_addSource_116, ↓eX3_addSource_117, ↓eX3_addSource_118, ↓eX3_addSource_121, ↓eX3_addSource_122, ↓eX3_addSource_125, ↓eX11_source_0, ↓eX11_source_1, ↓eX11_source_2, ↓eX11_source_5, ↓eX11_source_6, ↓eX11_source_8, ↓eX11_source_11, ↓eX11_source_12, ↓eX11_source_13, ↓eX11_source_14, ↓eX11_source_17, ↓eX11_source_18, ↓eX11_source_21, hk1 hS, hr1_4 hS, hk3 hS, hl3 hS, hbk, hb0, il, il0, kd_sv, gr_svn, gi_sv, ln_sv, kd_sr, gr_sr, gi_sr, ln_sr, c1, hn, w1, m1, false_and, Int.cast_ofNat_Int, kd_si, gr_si, ln_si, gi_same, gi_na, gi_ni, nl_i, nl_r, nl_j, nj_i, nj_l, nj_r, true_and, and_true, and_self, cs_0, cs_1, cs_2, cs_3, cs_4, ↓reduceIte, Nat.reduceLeDiff, Nat.reduceEqDiff, Nat.reduceAdd, Int.reduceLE, Int.reduceLT, Int.reduceEq, Int.reduceAdd, Int.reduceNeg, Int.reduceToNat, Int.toNat_natCast, ne_eq, not_false_eq_true, not_true_eq_false, or_true, true_or, or_false, false_or]
      rfl
    · have e0 : ((6 : Int) ≤ (n : Int)) = True := eq_true (by omega)
      rw [if_neg (fun w => q4 w.2)]
      simp only [↓cpX11_source, ↓cpX3_addSource, ↓eX11_source_0, ↓eX11_source_1, ↓eX11_source_2, ↓eX11_source_5, ↓eX11_source_6, ↓eX11_source_8, ↓eX11_source_11, ↓eX11_source_12, ↓eX11_source_13, ↓eX11_source_14, ↓eX11_source_17, ↓eX11_source_18, ↓eX11_source_21, ↓eX3_addSource_0, ↓eX3_addSource_1, ↓eX3_addSource_4, ↓eX3_addSource_5, ↓eX3_addSource_8, ↓eX3_addSource_9, ↓eX3_addSource_12, ↓eX3_addSource_13, ↓eX3_addSource_16, ↓eX3_addSource_17, ↓eX3_addSource_20, ↓eX3_addSource_21, ↓eX3_addSource_24, ↓eX3_addSource_25, ↓eX3_addSource_26, ↓eX3_addSource_29, ↓eX3_addSource_30, ↓eX3_addSource_31, ↓eX3_addSource_34, ↓eX3_addSource_35, ↓eX3_addSource_38, ↓eX3_addSource_39, ↓eX3_addSource_40, ↓eX3_addSource_43, ↓eX3_addSource_44, ↓eX3_addSource_47, ↓eX3_addSource_48, ↓eX3_addSource_49, ↓eX3_addSource_50, ↓eX3_addSource_53, hk0 h, hk1 h, hk2 h, hl2 h, hk3 h, hl3 h, hk4 h, hl4 h, hk5 h, hk6 h, hl6 h, hk7 h, hl7 h, hk8 h, hl8 h, hk9 h, hl9 h, hk10 h, hl10 h, hk11 h, hl11 h, hk12 h, hl12 h, hk13 h, hl13 h, hk14 h, hl14 h, hk15 h, hl15 h, hk16 h, hk17 h, hl17 h, hk18 h, hk19 h, hl19 h, hk20 h, hk21 h, hk22 h, hl22 h, hk23 h, hl23 h, hk24 h, hl24 h, hk25 h, hl25 h, hk26 h, hk27 h, hl27 h, hk28 h, hl28 h, hk29 h, hl29 h, hk30 h, hl30 h, hk31 h, hk32 h, hl32 h, hk33 h, hk34 h, hl34 h, hr0_0 h, hr1_3 h, hr1_4 h, hr1_5 h, hr0_1 h, hr5_3 h, hr6_0 h, hr6_1 h, hr6_2 h, hr6_3 h, hr6_4 h, hr6_5 h, hr5_4 h, hr5_5 h, hr5_6 h, hr0_2 h, hr16_5 h, hr0_3 h, hr18_9 h, hr0_4 h, hr21_2 h, hr21_3 h, hr21_4 h, hr21_5 h, hr26_2 h, hr26_3 h, hr26_4 h, hr26_5 h, hr31_5 h, hr33_5 h, hn, q2, q3, e0, Int.cast_ofNat_Int, kd_si, gr_si, ln_si, gi_same, gi_na, gi_ni, nl_i, nl_r, nl_j, nj_i, nj_l, nj_r, true_and, and_true, and_self, cs_0, cs_1, cs_2, cs_3, cs_4, ↓reduceIte, Nat.reduceLeDiff, Nat.reduceEqDiff, Nat.reduceAdd, Int.reduceLE, Int.reduceLT, Int.reduceEq, Int.reduceAdd, Int.reduceNeg, Int.reduceToNat, Int.toNat_natCast, ne_eq, not_false_eq_true, not_true_eq_false, or_true, true_or, or_false, false_or]
  · rw [if_neg (fun w => q1 w.1)]
    simp only [↓cpX11_source, ↓eX11_source_0, ↓eX11_source_1, ↓eX11_source_2, ↓eX11_source_5, ↓eX11_source_6, ↓eX11_source_8, ↓eX11_source_11, ↓eX11_source_12, ↓eX11_source_13, ↓eX11_source_14, ↓eX11_source_17, ↓eX11_source_18, ↓eX11_source_21, hk0 h, hk1 h, hk2 h, hl2 h, hk3 h, hl3 h, hk4 h, hl4 h, hk5 h, hk6 h, hl6 h, hk7 h, hl7 h, hk8 h, hl8 h, hk9 h, hl9 h, hk10 h, hl10 h, hk11 h, hl11 h, hk12 h, hl12 h, hk13 h, hl13 h, hk14 h, hl14 h, hk15 h, hl15 h, hk16 h, hk17 h, hl17 h, hk18 h, hk19 h, hl19 h, hk20 h, hk21 h, hk22 h, hl22 h, hk23 h, hl23 h, hk24 h, hl24 h, hk25 h, hl25 h, hk26 h, hk27 h, hl27 h, hk28 h, hl28 h, hk29 h, hl29 h, hk30 h, hl30 h, hk31 h, hk32 h, hl32 h, hk33 h, hk34 h, hl34 h, hr0_0 h, hr1_3 h, hr1_4 h, hr1_5 h, hr0_1 h, hr5_3 h, hr6_0 h, hr6_1 h, hr6_2 h, hr6_3 h, hr6_4 h, hr6_5 h, hr5_4 h, hr5_5 h, hr5_6 h, hr0_2 h, hr16_5 h, hr0_3 h, hr18_9 h, hr0_4 h, hr21_2 h, hr21_3 h, hr21_4 h, hr21_5 h, hr26_2 h, hr26_3 h, hr26_4 h, hr26_5 h, hr31_5 h, hr33_5 h, hn, Int.cast_ofNat_Int, kd_si, gr_si, ln_si, gi_same, gi_na, gi_ni, nl_i, nl_r, nl_j, nj_i, nj_l, nj_r, true_and, and_true, and_self, cs_0, cs_1, cs_2, cs_3, cs_4, ↓reduceIte, Nat.reduceLeDiff, Nat.reduceEqDiff, Nat.reduceAdd, Int.reduceLE, Int.reduceLT, Int.reduceEq, Int.reduceAdd, Int.reduceNeg, Int.reduceToNat, Int.toNat_natCast, ne_eq, not_false_eq_true, not_true_eq_false, or_true, true_or, or_false, false_or]
    by_cases z : t < 1
    · rw [if_pos z]
    · rw [if_neg z, if_neg (by omega)]
theorem y_source {d : Nat} {M : mM} {Q : mV → mM → Prop} {t : Int} {n : Nat} (h : SH M) (hn : gi M 35 35 = n) (h6 : n ≤ 6) : CP (mc (d + 1)) 150 [vr (some 35), vi t] M Q = if (1 ≤ t ∧ t ≤ 9) ∧ n < 6 then Q (vi n) (si (si M 55 n t) 35 35 (n + 1 : Nat)) else Q (vi (-1)) M := by
  have w1 : wr ((n : Int) + 1) = ((n + 1 : Nat) : Int) := by rw [wr_id (by omega) (by omega)]; omega
  have w2 : wr (((n + 1 : Nat) : Int) - 1) = (n : Int) := by rw [wr_id (by omega) (by omega)]; omega
  by_cases q4 : n < 6
  · have e0 : ((n : Int) = 6) = False := eq_false (by omega)
    have e1 : (0 ≤ (n : Int)) = True := eq_true (by omega)
    have e2 : ((n : Int) < 6) = True := eq_true (by omega)
    simp only [↓cpX12_source, ↓eX12_source_0, ↓eX12_source_1, ↓eX12_source_4, ↓eX12_source_6, ↓eX12_source_9, ↓eX12_source_10, ↓eX12_source_11, ↓eX12_source_14, ↓eX12_source_15, ↓eX12_source_17, ↓eX12_source_20, ↓eX12_source_21, ↓eX12_source_22, ↓eX12_source_23, ↓eX12_source_26, ↓eX12_source_27, ↓eX12_source_30, ↓eX12_source_31, ↓eX12_source_32, ↓eX12_source_33, ↓eX12_source_34, ↓eX12_source_37, ↓eX12_source_38, ↓eX12_source_39, ↓eX12_source_42, ↓eX12_source_43, ↓eX12_source_46, ↓eX12_source_47, ↓eX12_source_48, hk35 h, hk36 h, hl36 h, hk37 h, hl37 h, hk38 h, hl38 h, hk39 h, hl39 h, hk40 h, hl40 h, hk41 h, hl41 h, hk42 h, hl42 h, hk43 h, hl43 h, hk44 h, hl44 h, hk45 h, hl45 h, hk46 h, hl46 h, hk47 h, hl47 h, hk48 h, hl48 h, hk49 h, hl49 h, hk50 h, hl50 h, hk51 h, hl51 h, hk52 h, hl52 h, hk53 h, hl53 h, hk54 h, hl54 h, hk55 h, hl55 h, hk56 h, hl56 h, hk57 h, hl57 h, hk58 h, hl58 h, hk59 h, hl59 h, hk60 h, hl60 h, hk61 h, hl61 h, hk62 h, hl62 h, hk63 h, hl63 h, hk64 h, hl64 h, hk65 h, hl65 h, hk66 h, hl66 h, hk67 h, hl67 h, hk68 h, hl68 h, hk69 h, hl69 h, hk70 h, hl70 h, hk71 h, hl71 h, hk72 h, hl72 h, hk73 h, hl73 h, hk74 h, hl74 h, hk75 h, hl75 h, hk76 h, hl76 h, hk77 h, hl77 h, hk78 h, hl78 h, hk79 h, hl79 h, hk80 h, hl80 h, hk81 h, hl81 h, hk82 h, hl82 h, hk83 h, hl83 h, hk84 h, hl84 h, hk85 h, hl85 h, hk86 h, hl86 h, hk87 h, hl87 h, hr35_1 h, hr35_3 h, hr35_5 h, hr35_6 h, hr35_7 h, hr35_8 h, hr35_9 h, hr35_20 h, hr35_21 h, hr35_22 h, hr35_23 h, hr35_24 h, hr35_25 h, hr35_26 h, hr35_27 h, hr35_28 h, hr35_30 h, hr35_31 h, hr35_32 h, hr35_36 h, hr35_38 h, hr35_39 h, hr35_40 h, hr35_41 h, hr35_42 h, hr35_43 h, hr35_44 h, hr35_45 h, hr35_52 h, hr35_53 h, hr35_54 h, hr35_56 h, hr35_57 h, hr35_58 h, hr35_59 h, hr35_60 h, hr35_65 h, hr35_66 h, hr35_67 h, hr35_68 h, hr35_69 h, hr35_70 h, hr35_71 h, hr35_72 h, hr35_73 h, hr35_74 h, hr35_75 h, hr35_76 h, hr35_78 h, hr35_79 h, hr35_80 h, hr35_81 h, hn, e0, e1, e2, w1, w2, q4, Int.cast_ofNat_Int, kd_si, gr_si, ln_si, gi_same, gi_na, gi_ni, nl_i, nl_r, nl_j, nj_i, nj_l, nj_r, true_and, and_true, and_self, cs_0, cs_1, cs_2, cs_3, cs_4, ↓reduceIte, Nat.reduceLeDiff, Nat.reduceEqDiff, Nat.reduceAdd, Int.reduceLE, Int.reduceLT, Int.reduceEq, Int.reduceAdd, Int.reduceNeg, Int.reduceToNat, Int.toNat_natCast, ne_eq, not_false_eq_true, not_true_eq_false, or_true, true_or, or_false, false_or]
    repeat (first | refine ifl (fun z => by omega) (fun z => ?_) | refine ifr (fun z => by omega) (fun z => ?_))
    rw [if_pos (by omega)]
  · have e0 : (n : Int) = 6 := by omega
    rw [if_neg (fun w => q4 w.2)]
    simp only [↓cpX12_source, ↓eX12_source_0, ↓eX12_source_1, ↓eX12_source_4, ↓eX12_source_6, ↓eX12_source_9, ↓eX12_source_10, ↓eX12_source_11, ↓eX12_source_14, ↓eX12_source_15, ↓eX12_source_17, ↓eX12_source_20, ↓eX12_source_21, ↓eX12_source_22, ↓eX12_source_23, ↓eX12_source_26, ↓eX12_source_27, ↓eX12_source_30, ↓eX12_source_31, ↓eX12_source_32, ↓eX12_source_33, ↓eX12_source_34, ↓eX12_source_37, ↓eX12_source_38, ↓eX12_source_39, ↓eX12_source_42, ↓eX12_source_43, ↓eX12_source_46, ↓eX12_source_47, ↓eX12_source_48, hk35 h, hk36 h, hl36 h, hk37 h, hl37 h, hk38 h, hl38 h, hk39 h, hl39 h, hk40 h, hl40 h, hk41 h, hl41 h, hk42 h, hl42 h, hk43 h, hl43 h, hk44 h, hl44 h, hk45 h, hl45 h, hk46 h, hl46 h, hk47 h, hl47 h, hk48 h, hl48 h, hk49 h, hl49 h, hk50 h, hl50 h, hk51 h, hl51 h, hk52 h, hl52 h, hk53 h, hl53 h, hk54 h, hl54 h, hk55 h, hl55 h, hk56 h, hl56 h, hk57 h, hl57 h, hk58 h, hl58 h, hk59 h, hl59 h, hk60 h, hl60 h, hk61 h, hl61 h, hk62 h, hl62 h, hk63 h, hl63 h, hk64 h, hl64 h, hk65 h, hl65 h, hk66 h, hl66 h, hk67 h, hl67 h, hk68 h, hl68 h, hk69 h, hl69 h, hk70 h, hl70 h, hk71 h, hl71 h, hk72 h, hl72 h, hk73 h, hl73 h, hk74 h, hl74 h, hk75 h, hl75 h, hk76 h, hl76 h, hk77 h, hl77 h, hk78 h, hl78 h, hk79 h, hl79 h, hk80 h, hl80 h, hk81 h, hl81 h, hk82 h, hl82 h, hk83 h, hl83 h, hk84 h, hl84 h, hk85 h, hl85 h, hk86 h, hl86 h, hk87 h, hl87 h, hr35_1 h, hr35_3 h, hr35_5 h, hr35_6 h, hr35_7 h, hr35_8 h, hr35_9 h, hr35_20 h, hr35_21 h, hr35_22 h, hr35_23 h, hr35_24 h, hr35_25 h, hr35_26 h, hr35_27 h, hr35_28 h, hr35_30 h, hr35_31 h, hr35_32 h, hr35_36 h, hr35_38 h, hr35_39 h, hr35_40 h, hr35_41 h, hr35_42 h, hr35_43 h, hr35_44 h, hr35_45 h, hr35_52 h, hr35_53 h, hr35_54 h, hr35_56 h, hr35_57 h, hr35_58 h, hr35_59 h, hr35_60 h, hr35_65 h, hr35_66 h, hr35_67 h, hr35_68 h, hr35_69 h, hr35_70 h, hr35_71 h, hr35_72 h, hr35_73 h, hr35_74 h, hr35_75 h, hr35_76 h, hr35_78 h, hr35_79 h, hr35_80 h, hr35_81 h, hn, e0, Int.cast_ofNat_Int, kd_si, gr_si, ln_si, gi_same, gi_na, gi_ni, nl_i, nl_r, nl_j, nj_i, nj_l, nj_r, true_and, and_true, and_self, cs_0, cs_1, cs_2, cs_3, cs_4, ↓reduceIte, Nat.reduceLeDiff, Nat.reduceEqDiff, Nat.reduceAdd, Int.reduceLE, Int.reduceLT, Int.reduceEq, Int.reduceAdd, Int.reduceNeg, Int.reduceToNat, Int.toNat_natCast, ne_eq, not_false_eq_true, not_true_eq_false, or_true, true_or, or_false, false_or]
