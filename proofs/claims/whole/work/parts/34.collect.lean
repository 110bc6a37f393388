/-! ===== the class collects showings ===== -/
theorem x_eor_loop {C : mC} {Q : mV → mM → Prop} {M : mM} {a t : Nat} {row : Nat → Int} {f : Int} (hk : kd M a = 14) (hl : ln M a = 288) (hr : ∀ j, j < 288 → gi M a j = row j) (ht : t < 288) (hf : row t = f) : ∀ (r i : Nat), i + r = 288 → WP C tX1_endOfRun 4 [vr (some a), vi t, vi i] [] M Q = Q (vi (eor row f r i : Nat)) M := by
  intro r
  induction r with
  | zero =>
    intro i hi
    have e : i = 288 := by omega
    subst e
    simp only [↓eX1_endOfRun_0, ↓eX1_endOfRun_1, ↓eX1_endOfRun_2, ↓eX1_endOfRun_3, ↓eX1_endOfRun_4, ↓eX1_endOfRun_5, ↓eX1_endOfRun_6, ↓eX1_endOfRun_7, ↓eX1_endOfRun_10, ↓eX1_endOfRun_11, ↓eX1_endOfRun_12, ↓eX1_endOfRun_13, ↓eX1_endOfRun_14, ↓eX1_endOfRun_15, ↓eX1_endOfRun_16, ↓eX1_endOfRun_19, ↓eX1_endOfRun_20, ↓eX1_endOfRun_21, ↓eX1_endOfRun_24, ↓eX1_endOfRun_27, ↓eX1_endOfRun_28, ↓eX1_endOfRun_29, hk, hl, Int.cast_ofNat_Int, kd_si, gr_si, ln_si, gi_same, gi_na, gi_ni, nl_i, nl_r, nl_j, nj_i, nj_l, nj_r, true_and, and_true, and_self, cs_0, cs_1, cs_2, cs_3, cs_4, ↓reduceIte, Nat.reduceLeDiff, Nat.reduceEqDiff, Nat.reduceAdd, Int.reduceLE, Int.reduceLT, Int.reduceEq, Int.reduceAdd, Int.reduceNeg, Int.reduceToNat, Int.toNat_natCast, ne_eq, not_false_eq_true, not_true_eq_false, or_true, true_or, or_false, false_or]
    rfl
  | succ r ih =>
    intro i hi
    have e : ((288 : Int) ≤ (i : Int)) = False := eq_false (by omega)
    have e0 : 0 ≤ (i : Int) := by omega
    have e1 : (i : Int) < 288 := by omega
    have t0 : 0 ≤ (t : Int) := by omega
    have t1 : (t : Int) < 288 := by omega
    have e2 : wr ((i : Int) + 1) = ((i + 1 : Nat) : Int) := by rw [wr_id (by omega) (by omega)]; omega
    have g1 := hr i (by omega)
    have g2 := hr t ht
    rw [eX1_endOfRun_4]
    simp only [↓eX1_endOfRun_5, ↓eX1_endOfRun_6, ↓eX1_endOfRun_7, ↓eX1_endOfRun_10, ↓eX1_endOfRun_11, ↓eX1_endOfRun_12, ↓eX1_endOfRun_13, ↓eX1_endOfRun_14, ↓eX1_endOfRun_15, ↓eX1_endOfRun_16, ↓eX1_endOfRun_19, ↓eX1_endOfRun_20, ↓eX1_endOfRun_21, ↓eX1_endOfRun_24, e, e0, e1, e2, t0, t1, hk, hl, g1, g2, hf, Int.cast_ofNat_Int, kd_si, gr_si, ln_si, gi_same, gi_na, gi_ni, nl_i, nl_r, nl_j, nj_i, nj_l, nj_r, true_and, and_true, and_self, cs_0, cs_1, cs_2, cs_3, cs_4, ↓reduceIte, Nat.reduceLeDiff, Nat.reduceEqDiff, Nat.reduceAdd, Int.reduceLE, Int.reduceLT, Int.reduceEq, Int.reduceAdd, Int.reduceNeg, Int.reduceToNat, Int.toNat_natCast, ne_eq, not_false_eq_true, not_true_eq_false, or_true, true_or, or_false, false_or]
    rw [eor]
    by_cases q : row i = f
    · rw [if_pos q, if_pos q]
      exact ih (i + 1) (by omega)
    · rw [if_neg q, if_neg q]
theorem x_endOfRun {d : Nat} {M : mM} {Q : mV → mM → Prop} {a t : Nat} {row : Nat → Int} (hk : kd M a = 14) (hl : ln M a = 288) (hr : ∀ j, j < 288 → gi M a j = row j) (ht : t < 288) : CP (mc (d + 1)) 17 [vr (some a), vi t] M Q = Q (vi (eor row (row t) (287 - t) (t + 1) : Nat)) M := by
  have e2 : wr ((t : Int) + 1) = ((t + 1 : Nat) : Int) := by rw [wr_id (by omega) (by omega)]; omega
  simp only [↓cpX1_endOfRun, ↓eX1_endOfRun_0, ↓eX1_endOfRun_1, ↓eX1_endOfRun_2, ↓eX1_endOfRun_3, e2, Int.cast_ofNat_Int, kd_si, gr_si, ln_si, gi_same, gi_na, gi_ni, nl_i, nl_r, nl_j, nj_i, nj_l, nj_r, true_and, and_true, and_self, cs_0, cs_1, cs_2, cs_3, cs_4, ↓reduceIte, Nat.reduceLeDiff, Nat.reduceEqDiff, Nat.reduceAdd, Int.reduceLE, Int.reduceLT, Int.reduceEq, Int.reduceAdd, Int.reduceNeg, Int.reduceToNat, Int.toNat_natCast, ne_eq, not_false_eq_true, not_true_eq_false, or_true, true_or, or_false, false_or]
  exact x_eor_loop hk hl hr ht rfl (287 - t) (t + 1) (by omega)
def flM (M : mM) (x : Nat) (k f c t u ti ep tr li : Int) : mM := si (si (si (si (si (si (si (si (si M x 0 k) x 1 f) x 3 t) x 4 u) x 2 c) x 5 ti) x 6 ep) x 7 tr) x 8 li
theorem x_fillS {d : Nat} {M : mM} {Q : mV → mM → Prop} {x b y : Nat} {k f t u : Int} (hx : kd M x = 6) (hb : kd M b = 2) (hy : kd M y = 7) (hs : gr M b 0 = some y) (hl : gi M b 6 = 0 ∨ gi M b 6 = 1) : CP (mc (d + 2)) 56 [vr (some x), vi k, vi f, vr (some b), vi t, vi u] M Q = Q vj (flM M x k f (gi M b 1) t u (gi M b 4) (gi M b 5) (gi M y 1) (gi M b 6)) := by
  have nb : b ≠ x := fun e => by rw [e, hx] at hb; cases hb
  have ny : y ≠ x := fun e => by rw [e, hx] at hy; cases hy
  simp only [↓cpX6_fill, ↓cpX2_trust, ↓eX6_fill_0, ↓eX6_fill_1, ↓eX6_fill_2, ↓eX6_fill_5, ↓eX6_fill_6, ↓eX6_fill_7, ↓eX6_fill_10, ↓eX6_fill_11, ↓eX6_fill_13, ↓eX6_fill_16, ↓eX6_fill_17, ↓eX6_fill_19, ↓eX6_fill_22, ↓eX6_fill_23, ↓eX6_fill_24, ↓eX6_fill_27, ↓eX6_fill_30, ↓eX6_fill_31, ↓eX6_fill_32, ↓eX6_fill_35, ↓eX6_fill_38, ↓eX6_fill_39, ↓eX6_fill_40, ↓eX6_fill_43, ↓eX6_fill_46, ↓eX6_fill_47, ↓eX6_fill_48, ↓eX6_fill_51, ↓eX6_fill_54, ↓eX6_fill_55, ↓eX6_fill_56, ↓eX6_fill_59, ↓eX6_fill_62, ↓eX2_trust_0, ↓eX2_trust_1, ↓eX2_trust_4, ↓eX2_trust_7, ↓eX2_trust_8, ↓eX2_trust_11, ↓eX2_trust_12, ↓eX2_trust_15, ↓eX2_trust_18, hx, hb, hy, hs, hl, nb, ny, reduceCtorEq, Int.cast_ofNat_Int, kd_si, gr_si, ln_si, gi_same, gi_na, gi_ni, nl_i, nl_r, nl_j, nj_i, nj_l, nj_r, true_and, and_true, and_self, cs_0, cs_1, cs_2, cs_3, cs_4, ↓reduceIte, Nat.reduceLeDiff, Nat.reduceEqDiff, Nat.reduceAdd, Int.reduceLE, Int.reduceLT, Int.reduceEq, Int.reduceAdd, Int.reduceNeg, Int.reduceToNat, Int.toNat_natCast, ne_eq, not_false_eq_true, not_true_eq_false, or_true, true_or, or_false, false_or]
  rfl
theorem x_leastOneOf {d : Nat} {M : mM} {Q : mV → mM → Prop} {x : Nat} {k : Int} {T E : Nat} (h : SH M) (hx : kd M x = 6) (h0 : gi M x 0 = k) (h5 : gi M x 5 = T) (h6 : gi M x 6 = E) (hT : T ≤ 31) (hE : E ≤ 31) (hx8 : 88 ≤ x) : CP (mc (d + 1)) 19 [vr (some 5), vr (some x)] M Q = if E = 0 then Q (vi k) M else if gi M 15 (T * 32 + E) = -1 then Q (vi k) (si M 15 (T * 32 + E) k) else Q (vi (gi M 15 (T * 32 + E))) M := by
  have m1 : wr ((T : Int) * 32) = ((T * 32 : Nat) : Int) := by rw [wr_id (by omega) (by omega)]; omega
  have m2 : wr (((T * 32 : Nat) : Int) + (E : Int)) = ((T * 32 + E : Nat) : Int) := by rw [wr_id (by omega) (by omega)]; omega
  have m3 : (((T * 32 + E : Nat) : Int) < 0) = False := eq_false (by omega)
  have m4 : (((T * 32 + E : Nat) : Int) < 1024) = True := eq_true (by omega)
  have m5 : (0 ≤ ((T * 32 + E : Nat) : Int)) = True := eq_true (by omega)
  have nx15 : x ≠ 15 := by omega
  have c0 : ((E : Int) = 0) = (E = 0) := propext ⟨fun w => by omega, fun w => by omega⟩
  simp only [↓cpX1_leastOneOf, ↓eX1_leastOneOf_0, ↓eX1_leastOneOf_1, ↓eX1_leastOneOf_4, ↓eX1_leastOneOf_6, ↓eX1_leastOneOf_7, ↓eX1_leastOneOf_8, ↓eX1_leastOneOf_11, ↓eX1_leastOneOf_12, ↓eX1_leastOneOf_13, ↓eX1_leastOneOf_14, ↓eX1_leastOneOf_17, ↓eX1_leastOneOf_20, ↓eX1_leastOneOf_21, ↓eX1_leastOneOf_24, ↓eX1_leastOneOf_25, ↓eX1_leastOneOf_26, ↓eX1_leastOneOf_29, ↓eX1_leastOneOf_30, ↓eX1_leastOneOf_33, ↓eX1_leastOneOf_34, ↓eX1_leastOneOf_37, ↓eX1_leastOneOf_38, ↓eX1_leastOneOf_39, ↓eX1_leastOneOf_42, ↓eX1_leastOneOf_43, ↓eX1_leastOneOf_44, ↓eX1_leastOneOf_45, ↓eX1_leastOneOf_48, ↓eX1_leastOneOf_49, ↓eX1_leastOneOf_52, ↓eX1_leastOneOf_53, ↓eX1_leastOneOf_54, ↓eX1_leastOneOf_57, ↓eX1_leastOneOf_58, ↓eX1_leastOneOf_59, ↓eX1_leastOneOf_62, ↓eX1_leastOneOf_63, ↓eX1_leastOneOf_64, hk0 h, hk1 h, hk2 h, hl2 h, hk3 h, hl3 h, hk4 h, hl4 h, hk5 h, hk6 h, hl6 h, hk7 h, hl7 h, hk8 h, hl8 h, hk9 h, hl9 h, hk10 h, hl10 h, hk11 h, hl11 h, hk12 h, hl12 h, hk13 h, hl13 h, hk14 h, hl14 h, hk15 h, hl15 h, hk16 h, hk17 h, hl17 h, hk18 h, hk19 h, hl19 h, hk20 h, hk21 h, hk22 h, hl22 h, hk23 h, hl23 h, hk24 h, hl24 h, hk25 h, hl25 h, hk26 h, hk27 h, hl27 h, hk28 h, hl28 h, hk29 h, hl29 h, hk30 h, hl30 h, hk31 h, hk32 h, hl32 h, hk33 h, hk34 h, hl34 h, hr0_0 h, hr1_3 h, hr1_4 h, hr1_5 h, hr0_1 h, hr5_3 h, hr6_0 h, hr6_1 h, hr6_2 h, hr6_3 h, hr6_4 h, hr6_5 h, hr5_4 h, hr5_5 h, hr5_6 h, hr0_2 h, hr16_5 h, hr0_3 h, hr18_9 h, hr0_4 h, hr21_2 h, hr21_3 h, hr21_4 h, hr21_5 h, hr26_2 h, hr26_3 h, hr26_4 h, hr26_5 h, hr31_5 h, hr33_5 h, hx, h0, h5, h6, m1, m2, m3, m4, m5, c0, Int.cast_ofNat_Int, kd_si, gr_si, ln_si, gi_same, gi_na, gi_ni, nl_i, nl_r, nl_j, nj_i, nj_l, nj_r, true_and, and_true, and_self, cs_0, cs_1, cs_2, cs_3, cs_4, ↓reduceIte, Nat.reduceLeDiff, Nat.reduceEqDiff, Nat.reduceAdd, Int.reduceLE, Int.reduceLT, Int.reduceEq, Int.reduceAdd, Int.reduceNeg, Int.reduceToNat, Int.toNat_natCast, ne_eq, not_false_eq_true, not_true_eq_false, or_true, true_or, or_false, false_or]
/-- showing k of the survey at cell a; its values from the memory B -/
def shob (B N : mM) (D : Nat → Nat → Int) (W k a : Nat) : Prop := kd N a = 6 ∧ gi N a 0 = k ∧ gi N a 1 = sF D W k ∧ gi N a 2 = sC D W k ∧ gi N a 3 = sT D W k ∧ gi N a 4 = sU D W k ∧ gi N a 5 = gi B 61 (sF D W k).toNat ∧ gi N a 6 = gi B 62 (sF D W k).toNat ∧ gi N a 7 = gi B 55 (gi B 57 (sF D W k).toNat).toNat ∧ gi N a 8 = gi B 63 (sF D W k).toNat ∧ gi N a 9 = lo B (sF D W) k
/-- the cells of showings -/
def SO (N : mM) : Prop := (∀ j a, j < 600 → gr N 14 j = some a → 88 ≤ a ∧ a < nx N ∧ kd N a = 6) ∧ ∀ i j a, i < 600 → j < 600 → gr N 14 i = some a → gr N 14 j = some a → i = j
def mk (B : mM) (F : Nat → Int) (k : Nat) : Nat := (gi B 61 (F k).toNat).toNat * 32 + (gi B 62 (F k).toNat).toNat
def LB (B N : mM) (F : Nat → Int) (k : Nat) : Prop := ∀ m, m < 1024 → (gi N 15 m = -1 ∧ ∀ j, j < k → mk B F j = m → gi B 62 (F j).toNat = 0) ∨ ∃ j, j < k ∧ gi N 15 m = j ∧ mk B F j = m ∧ gi B 62 (F j).toNat ≠ 0 ∧ ∀ i, i < j → mk B F i = m → gi B 62 (F i).toNat = 0
def SCI (B : mM) (D : Nat → Nat → Int) (W k : Nat) (N : mM) : Prop := gi N 5 0 = k ∧ SO N ∧ (∀ j, j < k → ∃ a, gr N 14 j = some a ∧ shob B N D W j a) ∧ LB B N (sF D W) k
def colS (M : mM) (a i : Nat) : Prop := (a = 5 ∧ i = 0) ∨ a = 15 ∨ kd M a = 6
def colT (a : Nat) : Prop := a = 14
theorem colTS {M : mM} (h : SH M) : TS (colS M) colT M := by
  refine ⟨fun a i ha w => ?_, fun a ha w => ?_⟩
  · unfold colS at w
    rcases w with w | w | w
    · obtain ⟨rfl, -⟩ := w
      exact ⟨by omega, by rw [hk5 h]; decide, by rw [hk5 h]; decide⟩
    · subst w
      exact ⟨by omega, by rw [hk15 h]; decide, by rw [hk15 h]; decide⟩
    · refine ⟨⟨?_, ?_, ?_, ?_, ?_⟩, by omega, by omega⟩
      · rintro rfl; rw [hk1 h] at w; omega
      · rintro rfl; rw [hk18 h] at w; omega
      · rintro rfl; rw [hk20 h] at w; omega
      · rintro rfl; rw [hk35 h] at w; omega
      · intro q
        have := h.1 a (by omega)
        rw [w] at this
        exact (by decide : ∀ a : Fin 88, 55 ≤ a.val ∧ a.val ≤ 63 → ¬ 6 = kdT.getD a.val 0) ⟨a, by omega⟩ q this
  · unfold colT at w
    subst w
    exact ⟨by decide, by decide, by decide, by rw [hk14 h]; decide⟩
theorem colrf : ∀ q ∈ rfT, ¬ colT q.1 := by unfold colT; decide
theorem colSx {B N : mM} {T : Nat → Prop} (h : FRM (colS B) T B N) {x i : Nat} (hx : kd N x = 6) : x < nx B → colS B x i := fun w => Or.inr (Or.inr ((h.2.2.1 x w).1.symm.trans hx))
theorem mk_inj {B : mM} {F : Nat → Int} {i j : Nat} (hi : 0 ≤ gi B 62 (F i).toNat ∧ gi B 62 (F i).toNat ≤ 31) (hj : 0 ≤ gi B 62 (F j).toNat ∧ gi B 62 (F j).toNat ≤ 31) (ti : 0 ≤ gi B 61 (F i).toNat) (tj : 0 ≤ gi B 61 (F j).toNat) : mk B F i = mk B F j ↔ gi B 61 (F i).toNat = gi B 61 (F j).toNat ∧ gi B 62 (F i).toNat = gi B 62 (F j).toNat := by
  unfold mk
  constructor
  · intro h
    constructor <;> omega
  · rintro ⟨h1, h2⟩
    rw [h1, h2]
/-- the second half of addShowing: its cell is there -/
theorem x_add2 {d n : Nat} {B N : mM} {Q : mV → mM → Prop} {D : Nat → Nat → Int} {W k x b y : Nat} {a5 : mV} (hB : SH B) (hD : D = dy B n) (hf : FM B) (hn : (n : Int) ≤ gi B 35 37) (hkc : k < cnt D W 288) (hk6 : k < 600) (hF : FRM (colS B) colT B N) (hS : SCI B D W k N) (hx : gr N 14 k = some x) (hb : kd N b = 2) (hy : kd N y = 7) (hs : gr N b 0 = some y)
    (v1 : gi N b 1 = sC D W k) (v4 : gi N b 4 = gi B 61 (sF D W k).toNat) (v5 : gi N b 5 = gi B 62 (sF D W k).toNat) (v6 : gi N b 6 = gi B 63 (sF D W k).toNat) (v7 : gi N y 1 = gi B 55 (gi B 57 (sF D W k).toNat).toNat)
    (hQ : ∀ N', FRM (colS B) colT B N' → SCI B D W (k + 1) N' → nx N' = nx N → (∀ a i, a ≠ 5 → a ≠ 15 → kd N a ≠ 6 → gi N' a i = gi N a i) → Q vj N') :
    WP (mc (d + 2)) tX1_addShowing 45 [vr (some 5), vi (sF D W k), vr (some b), vi (sT D W k : Nat), vi (sU D W k : Nat), a5] [] N Q := by
  have hN := FRM_SH hF hB colrf
  obtain ⟨s0, ⟨o1, o2⟩, s2, s3⟩ := hS
  obtain ⟨x8, xn, xk⟩ := o1 k x hk6 hx
  have okk : okf B (sC D W k) n (sF D W k) := by subst hD; exact dy_ok B n _ _
  rcases okk with w | ⟨f, w, w2, w3, w4, w5⟩
  · exact absurd w (sF_ne hkc)
  obtain ⟨-, -, fm, -⟩ := hf f (by omega)
  obtain ⟨-, -, ⟨t1, t2⟩, ⟨e1, e2⟩, lv⟩ := fm w3
  have hFk : (sF D W k).toNat = f := by rw [w, Int.toNat_natCast]
  have l6 : gi N b 6 = 0 ∨ gi N b 6 = 1 := by rw [v6, hFk]; exact lv
  obtain ⟨T, hT⟩ : ∃ T : Nat, gi B 61 f = T := ⟨(gi B 61 f).toNat, by omega⟩
  obtain ⟨E, hE⟩ : ∃ E : Nat, gi B 62 f = E := ⟨(gi B 62 f).toNat, by omega⟩
  have k0 : (0 ≤ (k : Int)) = True := eq_true (by omega)
  have k1 : ((k : Int) < 600) = True := eq_true (by omega)
  have w1 : wr ((k : Int) + 1) = ((k + 1 : Nat) : Int) := by rw [wr_id (by omega) (by omega)]; omega
  have ff := fun (Q : mV → mM → Prop) (k f t u : Int) => x_fillS (d := d) (Q := Q) (k := k) (f := f) (t := t) (u := u) xk hb hy hs l6
  obtain ⟨P, hP⟩ : ∃ P, P = flM N x k (sF D W k) (gi N b 1) (sT D W k : Nat) (sU D W k : Nat) (gi N b 4) (gi N b 5) (gi N y 1) (gi N b 6) := ⟨_, rfl⟩
  have pn : ∀ a i, a ≠ x → gi P a i = gi N a i := fun a i ha => by
    rw [hP]; unfold flM
    rw [gi_na ha, gi_na ha, gi_na ha, gi_na ha, gi_na ha, gi_na ha, gi_na ha, gi_na ha, gi_na ha]
  have p2 : P.2 = N.2 := by rw [hP]; rfl
  have pk' : ∀ a, kd P a = kd N a := fun a => by unfold kd; rw [p2]
  have pr' : ∀ a i, gr P a i = gr N a i := fun a i => by unfold gr; rw [p2]
  have pnx : nx P = nx N := by unfold nx; rw [p2]
  have g0 : gi P x 0 = k := by rw [hP]; unfold flM; simp only [gi_same, gi_ni, Int.cast_ofNat_Int, kd_si, gr_si, ln_si, gi_same, gi_na, gi_ni, nl_i, nl_r, nl_j, nj_i, nj_l, nj_r, true_and, and_true, and_self, cs_0, cs_1, cs_2, cs_3, cs_4, ↓reduceIte, Nat.reduceLeDiff, Nat.reduceEqDiff, Nat.reduceAdd, Int.reduceLE, Int.reduceLT, Int.reduceEq, Int.reduceAdd, Int.reduceNeg, Int.reduceToNat, Int.toNat_natCast, ne_eq, not_false_eq_true, not_true_eq_false, or_true, true_or, or_false, false_or]
  have g1 : gi P x 1 = sF D W k := by rw [hP]; unfold flM; simp only [gi_same, gi_ni, Int.cast_ofNat_Int, kd_si, gr_si, ln_si, gi_same, gi_na, gi_ni, nl_i, nl_r, nl_j, nj_i, nj_l, nj_r, true_and, and_true, and_self, cs_0, cs_1, cs_2, cs_3, cs_4, ↓reduceIte, Nat.reduceLeDiff, Nat.reduceEqDiff, Nat.reduceAdd, Int.reduceLE, Int.reduceLT, Int.reduceEq, Int.reduceAdd, Int.reduceNeg, Int.reduceToNat, Int.toNat_natCast, ne_eq, not_false_eq_true, not_true_eq_false, or_true, true_or, or_false, false_or]
  have g2 : gi P x 2 = gi N b 1 := by rw [hP]; unfold flM; simp only [gi_same, gi_ni, Int.cast_ofNat_Int, kd_si, gr_si, ln_si, gi_same, gi_na, gi_ni, nl_i, nl_r, nl_j, nj_i, nj_l, nj_r, true_and, and_true, and_self, cs_0, cs_1, cs_2, cs_3, cs_4, ↓reduceIte, Nat.reduceLeDiff, Nat.reduceEqDiff, Nat.reduceAdd, Int.reduceLE, Int.reduceLT, Int.reduceEq, Int.reduceAdd, Int.reduceNeg, Int.reduceToNat, Int.toNat_natCast, ne_eq, not_false_eq_true, not_true_eq_false, or_true, true_or, or_false, false_or]
  have g3 : gi P x 3 = (sT D W k : Nat) := by rw [hP]; unfold flM; simp only [gi_same, gi_ni, Int.cast_ofNat_Int, kd_si, gr_si, ln_si, gi_same, gi_na, gi_ni, nl_i, nl_r, nl_j, nj_i, nj_l, nj_r, true_and, and_true, and_self, cs_0, cs_1, cs_2, cs_3, cs_4, ↓reduceIte, Nat.reduceLeDiff, Nat.reduceEqDiff, Nat.reduceAdd, Int.reduceLE, Int.reduceLT, Int.reduceEq, Int.reduceAdd, Int.reduceNeg, Int.reduceToNat, Int.toNat_natCast, ne_eq, not_false_eq_true, not_true_eq_false, or_true, true_or, or_false, false_or]
  have g4 : gi P x 4 = (sU D W k : Nat) := by rw [hP]; unfold flM; simp only [gi_same, gi_ni, Int.cast_ofNat_Int, kd_si, gr_si, ln_si, gi_same, gi_na, gi_ni, nl_i, nl_r, nl_j, nj_i, nj_l, nj_r, true_and, and_true, and_self, cs_0, cs_1, cs_2, cs_3, cs_4, ↓reduceIte, Nat.reduceLeDiff, Nat.reduceEqDiff, Nat.reduceAdd, Int.reduceLE, Int.reduceLT, Int.reduceEq, Int.reduceAdd, Int.reduceNeg, Int.reduceToNat, Int.toNat_natCast, ne_eq, not_false_eq_true, not_true_eq_false, or_true, true_or, or_false, false_or]
  have g5 : gi P x 5 = T := by rw [← hT, ← hFk, ← v4, hP]; unfold flM; simp only [gi_same, gi_ni, Int.cast_ofNat_Int, kd_si, gr_si, ln_si, gi_same, gi_na, gi_ni, nl_i, nl_r, nl_j, nj_i, nj_l, nj_r, true_and, and_true, and_self, cs_0, cs_1, cs_2, cs_3, cs_4, ↓reduceIte, Nat.reduceLeDiff, Nat.reduceEqDiff, Nat.reduceAdd, Int.reduceLE, Int.reduceLT, Int.reduceEq, Int.reduceAdd, Int.reduceNeg, Int.reduceToNat, Int.toNat_natCast, ne_eq, not_false_eq_true, not_true_eq_false, or_true, true_or, or_false, false_or]
  have g6 : gi P x 6 = E := by rw [← hE, ← hFk, ← v5, hP]; unfold flM; simp only [gi_same, gi_ni, Int.cast_ofNat_Int, kd_si, gr_si, ln_si, gi_same, gi_na, gi_ni, nl_i, nl_r, nl_j, nj_i, nj_l, nj_r, true_and, and_true, and_self, cs_0, cs_1, cs_2, cs_3, cs_4, ↓reduceIte, Nat.reduceLeDiff, Nat.reduceEqDiff, Nat.reduceAdd, Int.reduceLE, Int.reduceLT, Int.reduceEq, Int.reduceAdd, Int.reduceNeg, Int.reduceToNat, Int.toNat_natCast, ne_eq, not_false_eq_true, not_true_eq_false, or_true, true_or, or_false, false_or]
  have g7 : gi P x 7 = gi N y 1 := by rw [hP]; unfold flM; simp only [gi_same, gi_ni, Int.cast_ofNat_Int, kd_si, gr_si, ln_si, gi_same, gi_na, gi_ni, nl_i, nl_r, nl_j, nj_i, nj_l, nj_r, true_and, and_true, and_self, cs_0, cs_1, cs_2, cs_3, cs_4, ↓reduceIte, Nat.reduceLeDiff, Nat.reduceEqDiff, Nat.reduceAdd, Int.reduceLE, Int.reduceLT, Int.reduceEq, Int.reduceAdd, Int.reduceNeg, Int.reduceToNat, Int.toNat_natCast, ne_eq, not_false_eq_true, not_true_eq_false, or_true, true_or, or_false, false_or]
  have g8 : gi P x 8 = gi N b 6 := by rw [hP]; unfold flM; simp only [gi_same, gi_ni, Int.cast_ofNat_Int, kd_si, gr_si, ln_si, gi_same, gi_na, gi_ni, nl_i, nl_r, nl_j, nj_i, nj_l, nj_r, true_and, and_true, and_self, cs_0, cs_1, cs_2, cs_3, cs_4, ↓reduceIte, Nat.reduceLeDiff, Nat.reduceEqDiff, Nat.reduceAdd, Int.reduceLE, Int.reduceLT, Int.reduceEq, Int.reduceAdd, Int.reduceNeg, Int.reduceToNat, Int.toNat_natCast, ne_eq, not_false_eq_true, not_true_eq_false, or_true, true_or, or_false, false_or]
  have hFP : FRM (colS B) colT B P := by
    have q := fun i => colSx hF (x := x) (i := i) xk
    rw [hP]
    exact FRM_si (q _) (FRM_si (q _) (FRM_si (q _) (FRM_si (q _) (FRM_si (q _) (FRM_si (q _) (FRM_si (q _) (FRM_si (q _) (FRM_si (q _) hF))))))))
  have hPS := FRM_SH hFP hB colrf
  have p5 : gi P 5 0 = k := by rw [pn 5 0 (by omega)]; exact s0
  have fl := fun (Q : mV → mM → Prop) => x_leastOneOf (d := d + 1) (Q := Q) hPS (by rw [pk']; exact xk) g0 g5 g6 (by omega) (by omega) x8
  have mkk : mk B (sF D W) k = T * 32 + E := by unfold mk; rw [hFk, hT, hE]; rfl
  have bnd : ∀ j, j < k → (0 ≤ gi B 61 (sF D W j).toNat) ∧ 0 ≤ gi B 62 (sF D W j).toNat ∧ gi B 62 (sF D W j).toNat ≤ 31 := by
    intro j hj
    have okj : okf B (sC D W j) n (sF D W j) := by subst hD; exact dy_ok B n _ _
    rcases okj with z | ⟨f', z, z2, z3, z4, z5⟩
    · exact absurd z (sF_ne (by omega))
    · obtain ⟨-, -, fm, -⟩ := hf f' (by omega)
      obtain ⟨-, -, ⟨t1, t2⟩, ⟨e1, e2⟩, lv⟩ := fm z3
      rw [z, Int.toNat_natCast]
      exact ⟨t1, e1, e2⟩
  have arj : ∀ j, j < k → (aro B (sF D W) j k ↔ mk B (sF D W) j = T * 32 + E ∧ gi B 62 (sF D W j).toNat ≠ 0) := by
    intro j hj
    have bj := bnd j hj
    rw [← mkk, mk_inj ⟨bj.2.1, bj.2.2⟩ (by rw [hFk]; omega) bj.1 (by rw [hFk]; omega)]
    unfold aro
    constructor
    · rintro ⟨q1, q2, q3⟩; exact ⟨⟨q1, q2⟩, q3⟩
    · rintro ⟨⟨q1, q2⟩, q3⟩; exact ⟨q1, q2, q3⟩
  have nx5 : x ≠ 5 := by omega
  have nx15 : x ≠ 15 := by omega
  -- the end: the answer v, the memory R
  have fin : ∀ (v : Nat) (R : mM), (R = P ∨ (E ≠ 0 ∧ gi P 15 (T * 32 + E) = -1 ∧ R = si P 15 (T * 32 + E) k)) → lo B (sF D W) k = v → LB B R (sF D W) (k + 1) → Q vj (si (si R x 9 v) 5 0 (k + 1 : Nat)) := by
    intro v R hR hv hLB
    have rn : ∀ a i, a ≠ 15 → gi R a i = gi P a i := fun a i ha => by
      rcases hR with rfl | ⟨-, -, rfl⟩
      · rfl
      · rw [gi_na ha]
    have r2 : R.2 = N.2 := by
      rcases hR with rfl | ⟨-, -, rfl⟩
      · exact p2
      · exact p2
    have hFR : FRM (colS B) colT B R := by
      rcases hR with rfl | ⟨-, -, rfl⟩
      · exact hFP
      · exact FRM_si (fun _ => Or.inr (Or.inl rfl)) hFP
    have rr : ∀ a i, gr (si (si R x 9 v) 5 0 (k + 1 : Nat)) a i = gr N a i := fun a i => by
      show gr R a i = _
      unfold gr; rw [r2]
    have rk : ∀ a, kd (si (si R x 9 v) 5 0 (k + 1 : Nat)) a = kd N a := fun a => by
      show kd R a = _
      unfold kd; rw [r2]
    have rnx : nx (si (si R x 9 v) 5 0 (k + 1 : Nat)) = nx N := by
      show nx R = _
      unfold nx; rw [r2]
    refine hQ _ (FRM_si (fun _ => Or.inl ⟨rfl, rfl⟩) (FRM_si (colSx hF xk) hFR)) ⟨gi_same _ _ _ _, ⟨?_, ?_⟩, ?_, ?_⟩ rnx ?_
    · intro j a hj ha
      rw [rr] at ha
      rw [rnx, rk]
      exact o1 j a hj ha
    · intro i j a hi hj hia hja
      rw [rr] at hia hja
      exact o2 i j a hi hj hia hja
    · intro j hj
      by_cases z : j = k
      · subst z
        refine ⟨x, by rw [rr]; exact hx, ?_⟩
        have rx : ∀ i, i ≠ 9 → gi (si (si R x 9 v) 5 0 (j + 1 : Nat)) x i = gi P x i := fun i hi => by
          rw [gi_na nx5, gi_ni hi, rn x i nx15]
        unfold shob
        rw [rk, rx 0 (by decide), rx 1 (by decide), rx 2 (by decide), rx 3 (by decide), rx 4 (by decide), rx 5 (by decide), rx 6 (by decide), rx 7 (by decide), rx 8 (by decide), gi_na nx5, gi_same, g0, g1, g2, g3, g4, g5, g6, g7, g8, v1, hFk, hT, hE, hv]
        refine ⟨xk, rfl, rfl, rfl, rfl, rfl, rfl, rfl, ?_, ?_, rfl⟩
        · rw [v7, hFk]
        · rw [v6, hFk]
      · obtain ⟨a, ha, hsh⟩ := s2 j (by omega)
        have nax : a ≠ x := fun e => z (o2 j k a (by omega) hk6 ha (by rw [e]; exact hx))
        obtain ⟨a8, -, -⟩ := o1 j a (by omega) ha
        refine ⟨a, by rw [rr]; exact ha, ?_⟩
        have ra : ∀ i, gi (si (si R x 9 v) 5 0 (k + 1 : Nat)) a i = gi N a i := fun i => by
          rw [gi_na (by omega), gi_na nax, rn a i (by omega), pn a i nax]
        unfold shob at hsh ⊢
        simp only [rk, ra]
        exact hsh
    · intro m hm
      have e15 : gi (si (si R x 9 v) 5 0 (k + 1 : Nat)) 15 m = gi R 15 m := by
        rw [gi_na (by decide), gi_na (fun e => nx15 e.symm)]
      rw [e15]
      exact hLB m hm
    · intro a i h5 h15 hk6'
      have nax : a ≠ x := fun e => hk6' (by rw [e]; exact xk)
      rw [gi_na h5, gi_na nax, rn a i h15, pn a i nax]
  have l15 : ∀ m, gi P 15 m = gi N 15 m := fun m => pn 15 m (fun e => nx15 e.symm)
  have nx5' : (5 : Nat) ≠ x := fun e => nx5 e.symm
  simp only [↓eX1_addShowing_45, ↓eX1_addShowing_46, ↓eX1_addShowing_49, ↓eX1_addShowing_50, ↓eX1_addShowing_53, ↓eX1_addShowing_54, ↓eX1_addShowing_56, ↓eX1_addShowing_58, ↓eX1_addShowing_59, ↓eX1_addShowing_62, ↓eX1_addShowing_63, ↓eX1_addShowing_64, ↓eX1_addShowing_65, ↓eX1_addShowing_67, ↓eX1_addShowing_70, ↓eX1_addShowing_72, ↓eX1_addShowing_73, ↓eX1_addShowing_75, ↓eX1_addShowing_78, ↓eX1_addShowing_81, ↓eX1_addShowing_82, ↓eX1_addShowing_83, ↓eX1_addShowing_86, ↓eX1_addShowing_87, ↓eX1_addShowing_88, ↓eX1_addShowing_91, s0, hx, xk, hb, k0, k1, hk5 hN, hr5_5 hN, hk14 hN, hl14 hN, ↓ff, ← hP, ↓fl, pk', p5, w1, nx5, nx5', Int.cast_ofNat_Int, kd_si, gr_si, ln_si, gi_same, gi_na, gi_ni, nl_i, nl_r, nl_j, nj_i, nj_l, nj_r, true_and, and_true, and_self, cs_0, cs_1, cs_2, cs_3, cs_4, ↓reduceIte, Nat.reduceLeDiff, Nat.reduceEqDiff, Nat.reduceAdd, Int.reduceLE, Int.reduceLT, Int.reduceEq, Int.reduceAdd, Int.reduceNeg, Int.reduceToNat, Int.toNat_natCast, ne_eq, not_false_eq_true, not_true_eq_false, or_true, true_or, or_false, false_or]
  by_cases z : E = 0
  · rw [if_pos z]
    refine fin k P (Or.inl rfl) (LO_1 (lo_LO _ _ _) (Or.inl ⟨rfl, fun j hj w => w.2.2 ?_⟩)) ?_
    · rw [w.2.1, hFk, hE, z]; rfl
    · intro m hm
      rw [l15]
      rcases s3 m hm with ⟨a, b⟩ | ⟨j, a, b⟩
      · refine Or.inl ⟨a, fun j hj hjm => ?_⟩
        by_cases q : j = k
        · rw [q, hFk, hE, z]; rfl
        · exact b j (by omega) hjm
      · exact Or.inr ⟨j, by omega, b⟩
  · rw [if_neg z]
    have hm : T * 32 + E < 1024 := by omega
    have eE : gi B 62 (sF D W k).toNat ≠ 0 := by rw [hFk, hE]; omega
    rcases s3 _ hm with ⟨a, b⟩ | ⟨j, a, b, c, e, g⟩
    · have a' : gi P 15 (T * 32 + E) = -1 := by rw [l15]; exact a
      rw [if_pos a']
      refine fin k _ (Or.inr ⟨z, a', rfl⟩) (LO_1 (lo_LO _ _ _) (Or.inl ⟨rfl, fun j hj w => ?_⟩)) ?_
      · have := (arj j hj).mp w
        exact this.2 (b j hj this.1)
      · intro m hm'
        by_cases q : m = T * 32 + E
        · subst q
          refine Or.inr ⟨k, Nat.lt_succ_self k, gi_same _ _ _ _, mkk, eE, b⟩
        · rw [gi_ni q, l15]
          rcases s3 m hm' with ⟨a2, b2⟩ | ⟨j, a2, b2⟩
          · refine Or.inl ⟨a2, fun j hj hjm => ?_⟩
            by_cases q2 : j = k
            · rw [q2, mkk] at hjm; exact absurd hjm.symm q
            · exact b2 j (by omega) hjm
          · exact Or.inr ⟨j, by omega, b2⟩
    · have a' : ¬ gi P 15 (T * 32 + E) = -1 := by rw [l15, b]; omega
      have a2 : gi P 15 (T * 32 + E) = j := by rw [l15]; exact b
      rw [if_neg a', a2]
      refine fin j P (Or.inl rfl) (LO_1 (lo_LO _ _ _) (Or.inr ⟨a, (arj j a).mpr ⟨c, e⟩, fun i hi w => ?_⟩)) ?_
      · have := (arj i (by omega)).mp w
        exact this.2 (g i hi this.1)
      · intro m hm'
        rw [l15]
        by_cases q : m = T * 32 + E
        · subst q
          exact Or.inr ⟨j, by omega, b, c, e, g⟩
        · rcases s3 m hm' with ⟨a2, b2⟩ | ⟨j, a2, b2⟩
          · refine Or.inl ⟨a2, fun j hj hjm => ?_⟩
            by_cases q2 : j = k
            · rw [q2, mkk] at hjm; exact absurd hjm.symm q
            · exact b2 j (by omega) hjm
          · exact Or.inr ⟨j, by omega, b2⟩
/-- addShowing -/
theorem x_addShowing {d n : Nat} {B N : mM} {Q : mV → mM → Prop} {D : Nat → Nat → Int} {W k b y : Nat} (hB : SH B) (hD : D = dy B n) (hf : FM B) (hn : (n : Int) ≤ gi B 35 37) (hkc : k < cnt D W 288) (hk6 : k < 600) (hF : FRM (colS B) colT B N) (hS : SCI B D W k N) (hb : kd N b = 2) (hy : kd N y = 7) (hbn : b < nx N) (hyn : y < nx N) (hs : gr N b 0 = some y)
    (v1 : gi N b 1 = sC D W k) (v4 : gi N b 4 = gi B 61 (sF D W k).toNat) (v5 : gi N b 5 = gi B 62 (sF D W k).toNat) (v6 : gi N b 6 = gi B 63 (sF D W k).toNat) (v7 : gi N y 1 = gi B 55 (gi B 57 (sF D W k).toNat).toNat)
    (hQ : ∀ N', FRM (colS B) colT B N' → SCI B D W (k + 1) N' → nx N' ≤ nx N + 1 → Q vj N') :
    CP (mc (d + 3)) 18 [vr (some 5), vi (sF D W k), vr (some b), vi (sT D W k : Nat), vi (sU D W k : Nat)] N Q := by
  have hN := FRM_SH hF hB colrf
  have h88 := hN.2.2.2
  have k0 : (0 ≤ (k : Int)) = True := eq_true (by omega)
  have k1 : ((k : Int) < 600) = True := eq_true (by omega)
  have s0 := hS.1
  cases hx : gr N 14 k with
  | some x =>
    simp only [↓cpX1_addShowing, ↓eX1_addShowing_0, ↓eX1_addShowing_1, ↓eX1_addShowing_4, ↓eX1_addShowing_5, ↓eX1_addShowing_8, ↓eX1_addShowing_9, ↓eX1_addShowing_12, ↓eX1_addShowing_13, ↓eX1_addShowing_16, ↓eX1_addShowing_17, ↓eX1_addShowing_18, ↓eX1_addShowing_21, ↓eX1_addShowing_22, ↓eX1_addShowing_25, ↓eX1_addShowing_26, s0, hx, k0, k1, hk5 hN, hr5_5 hN, hk14 hN, hl14 hN, reduceCtorEq, Int.cast_ofNat_Int, kd_si, gr_si, ln_si, gi_same, gi_na, gi_ni, nl_i, nl_r, nl_j, nj_i, nj_l, nj_r, true_and, and_true, and_self, cs_0, cs_1, cs_2, cs_3, cs_4, ↓reduceIte, Nat.reduceLeDiff, Nat.reduceEqDiff, Nat.reduceAdd, Int.reduceLE, Int.reduceLT, Int.reduceEq, Int.reduceAdd, Int.reduceNeg, Int.reduceToNat, Int.toNat_natCast, ne_eq, not_false_eq_true, not_true_eq_false, or_true, true_or, or_false, false_or]
    exact x_add2 hB hD hf hn hkc hk6 hF hS hx hb hy hs v1 v4 v5 v6 v7 (fun N' q1 q2 q3 _ => hQ N' q1 q2 (by omega))
  | none =>
    have n5 : (5 = nx N) = False := eq_false (by omega)
    have n14 : (14 = nx N) = False := eq_false (by omega)
    simp only [↓cpX1_addShowing, ↓cpX6_init, ↓eX1_addShowing_0, ↓eX1_addShowing_1, ↓eX1_addShowing_4, ↓eX1_addShowing_5, ↓eX1_addShowing_8, ↓eX1_addShowing_9, ↓eX1_addShowing_12, ↓eX1_addShowing_13, ↓eX1_addShowing_16, ↓eX1_addShowing_17, ↓eX1_addShowing_18, ↓eX1_addShowing_21, ↓eX1_addShowing_22, ↓eX1_addShowing_25, ↓eX1_addShowing_26, ↓eX1_addShowing_29, ↓eX1_addShowing_30, ↓eX1_addShowing_33, ↓eX1_addShowing_34, ↓eX1_addShowing_37, ↓eX1_addShowing_40, ↓eX1_addShowing_41, ↓eX1_addShowing_44, ↓eX6_init_0, ↓eX6_init_1, ↓eX6_init_4, s0, hx, k0, k1, hk5 hN, hr5_5 hN, hk14 hN, hl14 hN, kd_al, gr_al, gi_al, ln_al, n5, n14, reduceCtorEq, Int.cast_ofNat_Int, kd_si, gr_si, ln_si, gi_same, gi_na, gi_ni, nl_i, nl_r, nl_j, nj_i, nj_l, nj_r, true_and, and_true, and_self, cs_0, cs_1, cs_2, cs_3, cs_4, ↓reduceIte, Nat.reduceLeDiff, Nat.reduceEqDiff, Nat.reduceAdd, Int.reduceLE, Int.reduceLT, Int.reduceEq, Int.reduceAdd, Int.reduceNeg, Int.reduceToNat, Int.toNat_natCast, ne_eq, not_false_eq_true, not_true_eq_false, or_true, true_or, or_false, false_or]
    obtain ⟨s0, ⟨o1, o2⟩, s2, s3⟩ := hS
    obtain ⟨R, hR⟩ : ∃ R, R = sr (al N 6 0 10) 14 k (some (nx N)) := ⟨_, rfl⟩
    rw [← hR]
    have rg : ∀ a i, a < nx N → gi R a i = gi N a i := fun a i ha => by rw [hR, gi_sr, gi_al, if_neg (by omega)]
    have rk : ∀ a, a < nx N → kd R a = kd N a := fun a ha => by rw [hR, kd_sr, kd_al, if_neg (by omega)]
    have rr : ∀ a i, a < nx N → a ≠ 14 → gr R a i = gr N a i := fun a i ha h14 => by rw [hR, gr_na h14, gr_al, if_neg (by omega)]
    have rn : nx R = nx N + 1 := by rw [hR]; show nx (al N 6 0 10) = _; rw [nx_al]
    have r14 : ∀ j, j ≠ k → gr R 14 j = gr N 14 j := fun j hj => by rw [hR, gr_sr, if_neg (fun w => hj w.2), gr_al, if_neg (by omega)]
    have r14k : gr R 14 k = some (nx N) := by rw [hR, gr_sr, if_pos ⟨rfl, rfl⟩]
    have hFR : FRM (colS B) colT B R := by rw [hR]; exact FRM_sr (fun _ => rfl) (FRM_al (by decide) hF)
    have knew : kd R (nx N) = 6 := by rw [hR, kd_sr, kd_al, if_pos rfl]
    have b14 : b ≠ 14 := fun e => by rw [e, hk14 hN] at hb; cases hb
    refine x_add2 (x := nx N) hB hD hf hn hkc hk6 hFR ⟨?_, ⟨?_, ?_⟩, ?_, ?_⟩ r14k (by rw [rk b hbn]; exact hb) (by rw [rk y hyn]; exact hy) (by rw [rr b 0 hbn b14]; exact hs) (by rw [rg b _ hbn]; exact v1) (by rw [rg b _ hbn]; exact v4) (by rw [rg b _ hbn]; exact v5) (by rw [rg b _ hbn]; exact v6) (by rw [rg y _ hyn]; exact v7) (fun N' q1 q2 q3 _ => hQ N' q1 q2 (by omega))
    · rw [rg 5 0 (by omega)]; exact s0
    · intro j a hj ha
      by_cases z : j = k
      · rw [z, r14k] at ha
        cases ha
        exact ⟨h88, by omega, knew⟩
      · rw [r14 j z] at ha
        obtain ⟨q1, q2, q3⟩ := o1 j a hj ha
        exact ⟨q1, by omega, by rw [rk a q2]; exact q3⟩
    · intro i j a hi hj hia hja
      by_cases zi : i = k
      · by_cases zj : j = k
        · rw [zi, zj]
        · rw [zi, r14k] at hia
          cases hia
          rw [r14 j zj] at hja
          have := (o1 j _ hj hja).2.1
          omega
      · by_cases zj : j = k
        · rw [zj, r14k] at hja
          cases hja
          rw [r14 i zi] at hia
          have := (o1 i _ hi hia).2.1
          omega
        · rw [r14 i zi] at hia
          rw [r14 j zj] at hja
          exact o2 i j a hi hj hia hja
    · intro j hj
      obtain ⟨a, ha, hsh⟩ := s2 j hj
      have := (o1 j a (by omega) ha).2.1
      refine ⟨a, by rw [r14 j (by omega)]; exact ha, ?_⟩
      unfold shob at hsh ⊢
      simp only [rk a this, fun i => rg a i this]
      exact hsh
    · intro m hm
      rw [rg 15 m (by omega)]
      exact s3 m hm
