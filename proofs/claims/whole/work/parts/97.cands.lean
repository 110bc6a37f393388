/-! ===== the reference's candidates ===== -/
theorem y_way_loop {C : mC} {P : mM} {Q : mV → mM → Prop} {g c : Nat} {v1 v2 v3 v4 : Int} (h : SH P) (hg : gi P 35 77 = g) (hg4 : g ≤ 14) (hc : c < 14) : ∀ (r j : Nat) (x : Int), j + r = g → (x = 0 ∨ x = 1) → WP C tX12_plan 259 [vr (some 35), vi v1, vi v2, vi v3, vi v4, vi (c : Nat), vi (j : Nat)] [] (si P 80 c x) Q = WP C tX12_plan 350 [vr (some 35), vi v1, vi v2, vi v3, vi v4, vi (c : Nat), vi (g : Nat)] [] (si P 80 c (if ff (mtB P (gi P 77 c) (gi P 78 c) (gi P 79 c) (gi P 76 c)) r j ≠ -1 then 1 else x)) Q := by
  have c0 : (0 ≤ (c : Int)) = True := eq_true (by omega)
  have c1 : ((c : Int) < 14) = True := eq_true (by omega)
  have hP : ∀ x : Int, SH (si P 80 c x) := fun _ => h
  intro r
  induction r with
  | zero =>
    intro j x hr hx
    have e : j = g := by omega
    subst e
    rw [ff, if_neg (fun w => w rfl), eX12_plan_259]
    simp only [↓eX12_plan_261, ↓eX12_plan_262, ↓eX12_plan_265, hk35 h, hg, Int.le_refl, Int.cast_ofNat_Int, kd_si, gr_si, ln_si, gi_same, gi_na, gi_ni, nl_i, nl_r, nl_j, nj_i, nj_l, nj_r, true_and, and_true, and_self, cs_0, cs_1, cs_2, cs_3, cs_4, ↓reduceIte, Nat.reduceLeDiff, Nat.reduceEqDiff, Nat.reduceAdd, Int.reduceLE, Int.reduceLT, Int.reduceEq, Int.reduceAdd, Int.reduceNeg, Int.reduceToNat, Int.toNat_natCast, ne_eq, not_false_eq_true, not_true_eq_false, or_true, true_or, or_false, false_or]
  | succ r ih =>
    intro j x hr hx
    have e1 : ((g : Int) ≤ (j : Int)) = False := eq_false (by omega)
    have e2 : wr ((j : Int) + 1) = ((j + 1 : Nat) : Int) := by rw [wr_id (by omega) (by omega)]; omega
    have j0 : (0 ≤ (j : Int)) = True := eq_true (by omega)
    have j1 : ((j : Int) < 14) = True := eq_true (by omega)
    rw [ff, eX12_plan_259]
    by_cases z1 : gi P 84 j = gi P 77 c
    · by_cases z2 : gi P 85 j = gi P 78 c
      · by_cases z3 : gi P 86 j = gi P 79 c
        · by_cases z4 : gi P 87 j = gi P 76 c
          · have zq : mtB P (gi P 77 c) (gi P 78 c) (gi P 79 c) (gi P 76 c) j = true := decide_eq_true ⟨z1, z2, z3, z4⟩
            have hih := ih (j + 1) 1 (by omega) (Or.inr rfl)
            rw [if_pos zq, if_pos (by omega)]
            have e3 : (if ff (mtB P (gi P 77 c) (gi P 78 c) (gi P 79 c) (gi P 76 c)) r (j + 1) ≠ -1 then (1 : Int) else 1) = 1 := by split <;> rfl
            rw [e3] at hih
            rw [← hih]
            simp only [↓eX12_plan_261, ↓eX12_plan_262, ↓eX12_plan_265, ↓eX12_plan_268, ↓eX12_plan_269, ↓eX12_plan_272, ↓eX12_plan_274, ↓eX12_plan_275, ↓eX12_plan_276, ↓eX12_plan_279, ↓eX12_plan_281, ↓eX12_plan_282, ↓eX12_plan_285, ↓eX12_plan_286, ↓eX12_plan_289, ↓eX12_plan_291, ↓eX12_plan_292, ↓eX12_plan_293, ↓eX12_plan_296, ↓eX12_plan_298, ↓eX12_plan_299, ↓eX12_plan_302, ↓eX12_plan_303, ↓eX12_plan_306, ↓eX12_plan_308, ↓eX12_plan_309, ↓eX12_plan_310, ↓eX12_plan_313, ↓eX12_plan_315, ↓eX12_plan_316, ↓eX12_plan_319, ↓eX12_plan_320, ↓eX12_plan_323, ↓eX12_plan_325, ↓eX12_plan_326, ↓eX12_plan_327, ↓eX12_plan_330, ↓eX12_plan_332, ↓eX12_plan_333, ↓eX12_plan_336, ↓eX12_plan_337, ↓eX12_plan_340, ↓eX12_plan_342, ↓eX12_plan_343, ↓eX12_plan_344, ↓eX12_plan_347, hk35 h, hr35_78 h, hr35_79 h, hr35_80 h, hr35_81 h, hr35_69 h, hr35_70 h, hr35_71 h, hr35_72 h, hr35_73 h, hk76 h, hl76 h, hk77 h, hl77 h, hk78 h, hl78 h, hk79 h, hl79 h, hk80 h, hl80 h, hk84 h, hl84 h, hk85 h, hl85 h, hk86 h, hl86 h, hk87 h, hl87 h, hg, e1, e2, c0, c1, j0, j1, z1, z2, z3, z4, si_si, Int.cast_ofNat_Int, kd_si, gr_si, ln_si, gi_same, gi_na, gi_ni, nl_i, nl_r, nl_j, nj_i, nj_l, nj_r, true_and, and_true, and_self, cs_0, cs_1, cs_2, cs_3, cs_4, ↓reduceIte, Nat.reduceLeDiff, Nat.reduceEqDiff, Nat.reduceAdd, Int.reduceLE, Int.reduceLT, Int.reduceEq, Int.reduceAdd, Int.reduceNeg, Int.reduceToNat, Int.toNat_natCast, ne_eq, not_false_eq_true, not_true_eq_false, or_true, true_or, or_false, false_or]
          · have zq : ¬ mtB P (gi P 77 c) (gi P 78 c) (gi P 79 c) (gi P 76 c) j = true := by unfold mtB; rw [decide_eq_true_eq]; exact fun w => z4 w.2.2.2
            rw [if_neg zq, ← ih (j + 1) x (by omega) hx]
            simp only [↓eX12_plan_261, ↓eX12_plan_262, ↓eX12_plan_265, ↓eX12_plan_268, ↓eX12_plan_269, ↓eX12_plan_272, ↓eX12_plan_274, ↓eX12_plan_275, ↓eX12_plan_276, ↓eX12_plan_279, ↓eX12_plan_281, ↓eX12_plan_282, ↓eX12_plan_285, ↓eX12_plan_286, ↓eX12_plan_289, ↓eX12_plan_291, ↓eX12_plan_292, ↓eX12_plan_293, ↓eX12_plan_296, ↓eX12_plan_298, ↓eX12_plan_299, ↓eX12_plan_302, ↓eX12_plan_303, ↓eX12_plan_306, ↓eX12_plan_308, ↓eX12_plan_309, ↓eX12_plan_310, ↓eX12_plan_313, ↓eX12_plan_315, ↓eX12_plan_316, ↓eX12_plan_319, ↓eX12_plan_320, ↓eX12_plan_323, ↓eX12_plan_325, ↓eX12_plan_326, ↓eX12_plan_327, ↓eX12_plan_330, ↓eX12_plan_332, ↓eX12_plan_333, ↓eX12_plan_336, ↓eX12_plan_337, ↓eX12_plan_340, ↓eX12_plan_342, ↓eX12_plan_343, ↓eX12_plan_344, ↓eX12_plan_347, hk35 h, hr35_78 h, hr35_79 h, hr35_80 h, hr35_81 h, hr35_69 h, hr35_70 h, hr35_71 h, hr35_72 h, hk76 h, hl76 h, hk77 h, hl77 h, hk78 h, hl78 h, hk79 h, hl79 h, hk84 h, hl84 h, hk85 h, hl85 h, hk86 h, hl86 h, hk87 h, hl87 h, hg, e1, e2, c0, c1, j0, j1, z1, z2, z3, z4, Int.cast_ofNat_Int, kd_si, gr_si, ln_si, gi_same, gi_na, gi_ni, nl_i, nl_r, nl_j, nj_i, nj_l, nj_r, true_and, and_true, and_self, cs_0, cs_1, cs_2, cs_3, cs_4, ↓reduceIte, Nat.reduceLeDiff, Nat.reduceEqDiff, Nat.reduceAdd, Int.reduceLE, Int.reduceLT, Int.reduceEq, Int.reduceAdd, Int.reduceNeg, Int.reduceToNat, Int.toNat_natCast, ne_eq, not_false_eq_true, not_true_eq_false, or_true, true_or, or_false, false_or]
        · have zq : ¬ mtB P (gi P 77 c) (gi P 78 c) (gi P 79 c) (gi P 76 c) j = true := by unfold mtB; rw [decide_eq_true_eq]; exact fun w => z3 w.2.2.1
          rw [if_neg zq, ← ih (j + 1) x (by omega) hx]
          simp only [↓eX12_plan_261, ↓eX12_plan_262, ↓eX12_plan_265, ↓eX12_plan_268, ↓eX12_plan_269, ↓eX12_plan_272, ↓eX12_plan_274, ↓eX12_plan_275, ↓eX12_plan_276, ↓eX12_plan_279, ↓eX12_plan_281, ↓eX12_plan_282, ↓eX12_plan_285, ↓eX12_plan_286, ↓eX12_plan_289, ↓eX12_plan_291, ↓eX12_plan_292, ↓eX12_plan_293, ↓eX12_plan_296, ↓eX12_plan_298, ↓eX12_plan_299, ↓eX12_plan_302, ↓eX12_plan_303, ↓eX12_plan_306, ↓eX12_plan_308, ↓eX12_plan_309, ↓eX12_plan_310, ↓eX12_plan_313, ↓eX12_plan_315, ↓eX12_plan_316, ↓eX12_plan_319, ↓eX12_plan_320, ↓eX12_plan_323, ↓eX12_plan_325, ↓eX12_plan_326, ↓eX12_plan_327, ↓eX12_plan_330, ↓eX12_plan_332, ↓eX12_plan_333, ↓eX12_plan_336, ↓eX12_plan_337, ↓eX12_plan_340, ↓eX12_plan_342, ↓eX12_plan_343, ↓eX12_plan_344, ↓eX12_plan_347, hk35 h, hr35_78 h, hr35_79 h, hr35_80 h, hr35_69 h, hr35_70 h, hr35_71 h, hr35_72 h, hk77 h, hl77 h, hk78 h, hl78 h, hk79 h, hl79 h, hk84 h, hl84 h, hk85 h, hl85 h, hk86 h, hl86 h, hg, e1, e2, c0, c1, j0, j1, z1, z2, z3, Int.cast_ofNat_Int, kd_si, gr_si, ln_si, gi_same, gi_na, gi_ni, nl_i, nl_r, nl_j, nj_i, nj_l, nj_r, true_and, and_true, and_self, cs_0, cs_1, cs_2, cs_3, cs_4, ↓reduceIte, Nat.reduceLeDiff, Nat.reduceEqDiff, Nat.reduceAdd, Int.reduceLE, Int.reduceLT, Int.reduceEq, Int.reduceAdd, Int.reduceNeg, Int.reduceToNat, Int.toNat_natCast, ne_eq, not_false_eq_true, not_true_eq_false, or_true, true_or, or_false, false_or]
      · have zq : ¬ mtB P (gi P 77 c) (gi P 78 c) (gi P 79 c) (gi P 76 c) j = true := by unfold mtB; rw [decide_eq_true_eq]; exact fun w => z2 w.2.1
        rw [if_neg zq, ← ih (j + 1) x (by omega) hx]
        simp only [↓eX12_plan_261, ↓eX12_plan_262, ↓eX12_plan_265, ↓eX12_plan_268, ↓eX12_plan_269, ↓eX12_plan_272, ↓eX12_plan_274, ↓eX12_plan_275, ↓eX12_plan_276, ↓eX12_plan_279, ↓eX12_plan_281, ↓eX12_plan_282, ↓eX12_plan_285, ↓eX12_plan_286, ↓eX12_plan_289, ↓eX12_plan_291, ↓eX12_plan_292, ↓eX12_plan_293, ↓eX12_plan_296, ↓eX12_plan_298, ↓eX12_plan_299, ↓eX12_plan_302, ↓eX12_plan_303, ↓eX12_plan_306, ↓eX12_plan_308, ↓eX12_plan_309, ↓eX12_plan_310, ↓eX12_plan_313, ↓eX12_plan_315, ↓eX12_plan_316, ↓eX12_plan_319, ↓eX12_plan_320, ↓eX12_plan_323, ↓eX12_plan_325, ↓eX12_plan_326, ↓eX12_plan_327, ↓eX12_plan_330, ↓eX12_plan_332, ↓eX12_plan_333, ↓eX12_plan_336, ↓eX12_plan_337, ↓eX12_plan_340, ↓eX12_plan_342, ↓eX12_plan_343, ↓eX12_plan_344, ↓eX12_plan_347, hk35 h, hr35_78 h, hr35_79 h, hr35_70 h, hr35_71 h, hk77 h, hl77 h, hk78 h, hl78 h, hk84 h, hl84 h, hk85 h, hl85 h, hg, e1, e2, c0, c1, j0, j1, z1, z2, Int.cast_ofNat_Int, kd_si, gr_si, ln_si, gi_same, gi_na, gi_ni, nl_i, nl_r, nl_j, nj_i, nj_l, nj_r, true_and, and_true, and_self, cs_0, cs_1, cs_2, cs_3, cs_4, ↓reduceIte, Nat.reduceLeDiff, Nat.reduceEqDiff, Nat.reduceAdd, Int.reduceLE, Int.reduceLT, Int.reduceEq, Int.reduceAdd, Int.reduceNeg, Int.reduceToNat, Int.toNat_natCast, ne_eq, not_false_eq_true, not_true_eq_false, or_true, true_or, or_false, false_or]
    · have zq : ¬ mtB P (gi P 77 c) (gi P 78 c) (gi P 79 c) (gi P 76 c) j = true := by unfold mtB; rw [decide_eq_true_eq]; exact fun w => z1 w.1
      rw [if_neg zq, ← ih (j + 1) x (by omega) hx]
      simp only [↓eX12_plan_261, ↓eX12_plan_262, ↓eX12_plan_265, ↓eX12_plan_268, ↓eX12_plan_269, ↓eX12_plan_272, ↓eX12_plan_274, ↓eX12_plan_275, ↓eX12_plan_276, ↓eX12_plan_279, ↓eX12_plan_281, ↓eX12_plan_282, ↓eX12_plan_285, ↓eX12_plan_286, ↓eX12_plan_289, ↓eX12_plan_291, ↓eX12_plan_292, ↓eX12_plan_293, ↓eX12_plan_296, ↓eX12_plan_298, ↓eX12_plan_299, ↓eX12_plan_302, ↓eX12_plan_303, ↓eX12_plan_306, ↓eX12_plan_308, ↓eX12_plan_309, ↓eX12_plan_310, ↓eX12_plan_313, ↓eX12_plan_315, ↓eX12_plan_316, ↓eX12_plan_319, ↓eX12_plan_320, ↓eX12_plan_323, ↓eX12_plan_325, ↓eX12_plan_326, ↓eX12_plan_327, ↓eX12_plan_330, ↓eX12_plan_332, ↓eX12_plan_333, ↓eX12_plan_336, ↓eX12_plan_337, ↓eX12_plan_340, ↓eX12_plan_342, ↓eX12_plan_343, ↓eX12_plan_344, ↓eX12_plan_347, hk35 h, hr35_78 h, hr35_70 h, hk77 h, hl77 h, hk84 h, hl84 h, hg, e1, e2, c0, c1, j0, j1, z1, Int.cast_ofNat_Int, kd_si, gr_si, ln_si, gi_same, gi_na, gi_ni, nl_i, nl_r, nl_j, nj_i, nj_l, nj_r, true_and, and_true, and_self, cs_0, cs_1, cs_2, cs_3, cs_4, ↓reduceIte, Nat.reduceLeDiff, Nat.reduceEqDiff, Nat.reduceAdd, Int.reduceLE, Int.reduceLT, Int.reduceEq, Int.reduceAdd, Int.reduceNeg, Int.reduceToNat, Int.toNat_natCast, ne_eq, not_false_eq_true, not_true_eq_false, or_true, true_or, or_false, false_or]
/-- a row of candidate values -/
def clM (N : mM) (c : Nat) (v : Nat → Int) : mM := si (si (si (si (si (si (si (si N 72 c (v 72)) 73 c (v 73)) 74 c (v 74)) 75 c (v 75)) 76 c (v 76)) 77 c (v 77)) 78 c (v 78)) 79 c (v 79)
theorem gi_cl {N : mM} {c : Nat} {v : Nat → Int} {a j : Nat} : gi (clM N c v) a j = if (72 ≤ a ∧ a ≤ 79) ∧ j = c then v a else gi N a j := by
  unfold clM
  simp only [gi_si]
  by_cases q : j = c
  · subst q
    simp only [and_true]
    by_cases w : 72 ≤ a ∧ a ≤ 79
    · rw [if_pos w]
      rcases (show a = 72 ∨ a = 73 ∨ a = 74 ∨ a = 75 ∨ a = 76 ∨ a = 77 ∨ a = 78 ∨ a = 79 by omega) with rfl | rfl | rfl | rfl | rfl | rfl | rfl | rfl <;> rfl
    · rw [if_neg w, if_neg (by omega), if_neg (by omega), if_neg (by omega), if_neg (by omega), if_neg (by omega), if_neg (by omega), if_neg (by omega), if_neg (by omega)]
  · simp only [q, and_false, if_false]
def pbS (a i : Nat) : Prop := a = 71 ∨ (72 ≤ a ∧ a ≤ 81) ∨ (a = 35 ∧ i = 62)
theorem YF_cl {B N : mM} {c : Nat} {v : Nat → Int} (h : YF pbS B N) : YF pbS B (clM N c v) := YF_si (Or.inr (Or.inl (by omega))) (YF_si (Or.inr (Or.inl (by omega))) (YF_si (Or.inr (Or.inl (by omega))) (YF_si (Or.inr (Or.inl (by omega))) (YF_si (Or.inr (Or.inl (by omega))) (YF_si (Or.inr (Or.inl (by omega))) (YF_si (Or.inr (Or.inl (by omega))) (YF_si (Or.inr (Or.inl (by omega))) h)))))))
def RW (N : mM) (cv : Nat → Nat → Int) (way : Nat → Int) (may : Nat → Bool) (j : Nat) : Prop := (gi N 72 j = cv j 0 ∧ gi N 73 j = cv j 6 ∧ gi N 74 j = cv j 7 ∧ gi N 75 j = cv j 8 ∧ gi N 76 j = cv j 4 ∧ gi N 77 j = cv j 1 ∧ gi N 78 j = cv j 2 ∧ gi N 79 j = cv j 3) ∧ gi N 80 j = way j ∧ gi N 81 j = bi (!may j)
section CANDS
variable {d n W sd R c0 g : Nat} {B : mM} {Q : mV → mM → Prop} {me : Nat → Env → Int} {mt : Nat → Int} {ld tl now : Int}
theorem y_cand_loop (hT : TI B) (hd : DAYM B n W) (hn : (n : Int) ≤ gi B 35 37) (hw : YW B sd R c0 me mt) (wv : Nat → Int) (hwv : ∀ k, k < cnt (dy B n) W 288 → wv k = wgh me mt (enP B (dy B n) W k) R 0 0) (q : Nat → Bool) (hq : ∀ k, k < cnt (dy B n) W 288 → q k = decide (wv k ≠ 0)) (h14 : ctp q (cnt (dy B n) W 288) ≤ 14) (hl : gi B 35 47 = ld) (ht : gi B 35 48 = tl) (hl6 : 0 ≤ ld ∧ ld ≤ 6) (ht6 : 0 ≤ tl ∧ tl ≤ 6) (hnow : gi B 35 50 = now) (hg : gi B 35 77 = g) (hg4 : g ≤ 14)
    (cv : Nat → Nat → Int) (hcv : ∀ j i, j < ctp q (cnt (dy B n) W 288) → cv j i = cfv B (dy B n) W ld tl wv (sel q (cnt (dy B n) W 288) j) i) (way : Nat → Int) (hway : ∀ j, j < ctp q (cnt (dy B n) W 288) → way j = if ff (mtB B (cv j 1) (cv j 2) (cv j 3) (cv j 4)) g 0 ≠ -1 then 1 else 0) (may : Nat → Bool) (hm : ∀ j, j < ctp q (cnt (dy B n) W 288) → may j = decide (way j = 1 ∨ now ≤ cv j 7)) (v2 : Int)
    (hQ : ∀ N a4 a5 a6, nl a4 → nl a5 → nl a6 → YF pbS B N → gi N 35 62 = (ctp q (cnt (dy B n) W 288) : Nat) → (∀ j, j < ctp q (cnt (dy B n) W 288) → RW N cv way may j) → WP (mc (d + 5)) tX12_plan 402 [vr (some 35), vi (n : Nat), vi v2, vi (cnt (dy B n) W 288 : Nat), a4, a5, a6] [] N Q) :
    ∀ (r k : Nat) (N : mM) (a4 a5 a6 : mV), nl a4 → nl a5 → nl a6 → k + r = cnt (dy B n) W 288 → YF pbS B N → gi N 35 62 = (ctp q k : Nat) → (∀ j, j < ctp q k → RW N cv way may j) → WP (mc (d + 5)) tX12_plan 64 [vr (some 35), vi (n : Nat), vi v2, vi (k : Nat), a4, a5, a6] [] N Q := by
  have h := hT.1
  have hf := hT.2.2.2.1
  have i1 := hT.2.1
  have c6 := cnt_600 hf hn W
  have i37 := i1.2.2.1
  intro r
  induction r with
  | zero =>
    intro k N a4 a5 a6 n4 n5 n6 hr hN g62 hA
    have hNs := YF_SH hN h
    have g55 : gi N 35 55 = (cnt (dy B n) W 288 : Nat) := by rw [hN.2 35 55 (by unfold pbS; omega)]; exact hd.2.1
    have e : k = cnt (dy B n) W 288 := by omega
    rw [e] at g62 hA
    rw [eX12_plan_64, e]
    simp only [↓eX12_plan_65, ↓eX12_plan_66, ↓eX12_plan_69, hk35 hNs, g55, Int.le_refl, Int.cast_ofNat_Int, kd_si, gr_si, ln_si, gi_same, gi_na, gi_ni, nl_i, nl_r, nl_j, nj_i, nj_l, nj_r, true_and, and_true, and_self, cs_0, cs_1, cs_2, cs_3, cs_4, ↓reduceIte, Nat.reduceLeDiff, Nat.reduceEqDiff, Nat.reduceAdd, Int.reduceLE, Int.reduceLT, Int.reduceEq, Int.reduceAdd, Int.reduceNeg, Int.reduceToNat, Int.toNat_natCast, ne_eq, not_false_eq_true, not_true_eq_false, or_true, true_or, or_false, false_or]
    exact hQ N a4 a5 a6 n4 n5 n6 hN g62 hA
  | succ r ih =>
    intro k N a4 a5 a6 n4 n5 n6 hr hN g62 hA
    have hk : k < cnt (dy B n) W 288 := by omega
    have hNs := YF_SH hN h
    have o : ∀ a i, a < 71 → a ≠ 35 → gi N a i = gi B a i := fun a i q1 q2 => hN.2 a i (by unfold pbS; omega)
    have o35 : ∀ i, i ≠ 62 → gi N 35 i = gi B 35 i := fun i q1 => hN.2 35 i (by unfold pbS; omega)
    have fen : fe n B N := ⟨fun a k h1 h2 _ => o a k (by omega) (by omega), fun s _ => o 55 s (by decide) (by decide)⟩
    have hD := dyD hf hn fen
    have tN : TI N := TI_YF hN (fun a i w => by
      unfold pbS at w
      have hk2 := kd_267 h (a := a) (by omega)
      refine ⟨by omega, fun v => ?_⟩
      unfold toldG isRow t35 at v
      omega) hT
    have g55 : gi N 35 55 = (cnt (dy B n) W 288 : Nat) := by rw [o35 55 (by decide)]; exact hd.2.1
    have e1 : (((cnt (dy B n) W 288 : Nat) : Int) ≤ (k : Int)) = False := eq_false (by omega)
    have e2 : wr ((k : Int) + 1) = ((k + 1 : Nat) : Int) := by rw [wr_id (by omega) (by omega)]; omega
    have b9w : b9 (wv k) := by rw [hwv k hk]; exact wgh_bd hw.2.2.2.2.2.2.2 R 0 0 (by omega) ⟨by decide, by decide⟩
    have b0 := b9w.1
    have ew : wgh me mt (enP N (dy N n) W k) R 0 0 = wv k := by rw [hwv k hk, hD, (enP_fe hf hn fen hk).1]
    have wg := y_wt (d := d) (k := k) (M := N) (Q := fun v P => v ≠ vj ∧ WP (mc (d + 5)) tX12_plan 77 [vr (some 35), vi (n : Nat), vi v2, vi (k : Nat), a4, a5, a6] [v] P Q) tN (DAYM_f hf hn fen (o35 55 (by decide)) (fun a i h => o a i (by omega) (by omega)) hd) (by rw [o35 37 (by decide)]; exact hn) (YW_f (o35 18 (by decide)) (fun a i h => o a i (by omega) (by omega)) hw) (by rw [hD]; exact hk) (fun P dP => ⟨(fun x => by cases x), by
      have hP : YF pbS B P := YF_trans hN (YF_mono (fun a i w => Or.inl w) (YF_DF dP))
      have hPs := YF_SH hP h
      have p : ∀ a i, a ≠ 71 → gi P a i = gi N a i := fun a i w => dP.2 a i w
      have oP : ∀ a i, a < 71 → a ≠ 35 → gi P a i = gi B a i := fun a i q1 q2 => hP.2 a i (by unfold pbS; omega)
      have oP35 : ∀ i, i ≠ 62 → gi P 35 i = gi B 35 i := fun i q1 => hP.2 35 i (by unfold pbS; omega)
      have p62 : gi P 35 62 = (ctp q k : Nat) := by rw [p 35 62 (by decide)]; exact g62
      have hAP : ∀ j, j < ctp q k → RW P cv way may j := fun j hj => by
        have := hA j hj
        unfold RW at this ⊢
        rw [p 72 _ (by decide), p 73 _ (by decide), p 74 _ (by decide), p 75 _ (by decide), p 76 _ (by decide), p 77 _ (by decide), p 78 _ (by decide), p 79 _ (by decide), p 80 _ (by decide), p 81 _ (by decide)]
        exact this
      rw [ew]
      by_cases z : wv k = 0
      · have qk : ¬ q k = true := by rw [hq k hk]; simp [z]
        have cc : ctp q (k + 1) = ctp q k := by rw [ctp, if_neg qk]; rfl
        have nxt := ih (k + 1) P (vi (wv k)) a5 a6 (nlI _) n5 n6 (by omega) hP (by rw [cc]; exact p62) (by rw [cc]; exact hAP)
        rw [z] at nxt ⊢
        simp only [↓eX12_plan_77, ↓eX12_plan_79, ↓eX12_plan_81, ↓eX12_plan_84, ↓eX12_plan_396, ↓eX12_plan_399, n4, n5, n6, e2, Int.cast_ofNat_Int, kd_si, gr_si, ln_si, gi_same, gi_na, gi_ni, nl_i, nl_r, nl_j, nj_i, nj_l, nj_r, true_and, and_true, and_self, cs_0, cs_1, cs_2, cs_3, cs_4, ↓reduceIte, Nat.reduceLeDiff, Nat.reduceEqDiff, Nat.reduceAdd, Int.reduceLE, Int.reduceLT, Int.reduceEq, Int.reduceAdd, Int.reduceNeg, Int.reduceToNat, Int.toNat_natCast, ne_eq, not_false_eq_true, not_true_eq_false, or_true, true_or, or_false, false_or]
        exact nxt
      · have qk : q k = true := by rw [hq k hk]; exact decide_eq_true z
        have cc : ctp q (k + 1) = ctp q k + 1 := by rw [ctp, if_pos qk]
        have up := ctp_up (q := q) (show k + 1 ≤ cnt (dy B n) W 288 by omega)
        have c14 : ctp q k < 14 := by omega
        have cS : ctp q k < ctp q (cnt (dy B n) W 288) := by omega
        have sk : sel q (cnt (dy B n) W 288) (ctp q k) = k := sel_k qk hk
        have hc : ∀ i, cv (ctp q k) i = cfv B (dy B n) W ld tl wv k i := fun i => by rw [hcv _ i cS, sk]
        generalize ctp q k = c at *
        have ec0 : (0 ≤ (c : Int)) = True := eq_true (by omega)
        have ec1 : ((c : Int) < 14) = True := eq_true (by omega)
        have e3 : wr ((c : Int) + 1) = ((c + 1 : Nat) : Int) := by rw [wr_id (by omega) (by omega)]; omega
        have k0 : (0 ≤ (k : Int)) = True := eq_true (by omega)
        have k1 : ((k : Int) < 1728) = True := eq_true (by omega)
        obtain ⟨f, ef, f1, f2, -⟩ := sF_n hf hn hk
        have f0' : (0 ≤ (f : Int)) = True := eq_true (by omega)
        have f1' : ((f : Int) < 300) = True := eq_true (by omega)
        obtain ⟨l1, l2, l3, l4⟩ := hd.2.2 k hk
        have u := sU_ok hk
        have q67 : gi P 67 k = (f : Nat) := by rw [oP 67 k (by decide) (by decide), l1]; exact ef
        have q68 : gi P 68 k = (sC (dy B n) W k : Nat) := by rw [oP 68 k (by decide) (by decide)]; exact l2
        have q69 : gi P 69 k = (sT (dy B n) W k : Nat) := by rw [oP 69 k (by decide) (by decide)]; exact l3
        have q70 : gi P 70 k = (sU (dy B n) W k : Nat) := by rw [oP 70 k (by decide) (by decide)]; exact l4
        have q47 : gi P 35 47 = ld := by rw [oP35 47 (by decide)]; exact hl
        have q48 : gi P 35 48 = tl := by rw [oP35 48 (by decide)]; exact ht
        have w1 : wr (((sT (dy B n) W k : Nat) : Int) - ld) = ((sT (dy B n) W k : Nat) : Int) - ld := wr_id (by omega) (by omega)
        have w2 : wr (((sU (dy B n) W k : Nat) : Int) + tl) = ((sU (dy B n) W k : Nat) : Int) + tl := wr_id (by omega) (by omega)
        have q61 : gi P 61 f = gi B 61 f := oP 61 f (by decide) (by decide)
        have q62 : gi P 62 f = gi B 62 f := oP 62 f (by decide) (by decide)
        -- the values by their columns
        let V : Nat → Int := fun a => if a = 72 then cv c 0 else if a = 73 then cv c 6 else if a = 74 then cv c 7 else if a = 75 then cv c 8 else if a = 76 then cv c 4 else if a = 77 then cv c 1 else if a = 78 then cv c 2 else cv c 3
        have hV0 : cv c 0 = (k : Int) := by rw [hc]; rfl
        have hV6 : cv c 6 = wv k := by rw [hc]; rfl
        have hV4 : cv c 4 = ((sT (dy B n) W k : Nat) : Int) := by rw [hc]; rfl
        have hV1 : cv c 1 = ((sC (dy B n) W k : Nat) : Int) := by rw [hc]; rfl
        have hV2 : cv c 2 = gi B 61 f := by rw [hc]; show gi B 61 (sF (dy B n) W k).toNat = _; rw [ef, Int.toNat_natCast]
        have hV3 : cv c 3 = gi B 62 f := by rw [hc]; show gi B 62 (sF (dy B n) W k).toNat = _; rw [ef, Int.toNat_natCast]
        have hV7 : cv c 7 = mMax (((sT (dy B n) W k : Nat) : Int) - ld) 0 := by rw [hc]; rfl
        have hV8 : cv c 8 = mMin (((sU (dy B n) W k : Nat) : Int) + tl) 288 := by rw [hc]; rfl
        have eM : clM P c V = si (si (si (si (si (si (si (si P 72 c (k : Int)) 73 c (wv k)) 74 c (cv c 7)) 75 c (cv c 8)) 76 c ((sT (dy B n) W k : Nat) : Int)) 77 c ((sC (dy B n) W k : Nat) : Int)) 78 c (gi B 61 f)) 79 c (gi B 62 f) := by
          rw [← hV0, ← hV6, ← hV4, ← hV1, ← hV2, ← hV3]
          rfl
        have yc : YF pbS B (clM P c V) := YF_cl hP
        have sc : SH (clM P c V) := YF_SH yc h
        have gc35 : ∀ i, gi (clM P c V) 35 i = gi P 35 i := fun i => by rw [gi_cl, if_neg (by omega)]
        have gcv : ∀ a, 72 ≤ a → a ≤ 79 → gi (clM P c V) a c = V a := fun a h1 h2 => by rw [gi_cl, if_pos ⟨⟨h1, h2⟩, rfl⟩]
        have way1 := y_way_loop (C := mc (d + 5)) (P := clM P c V) (Q := Q) (g := g) (c := c) (v1 := (n : Nat)) (v2 := v2) (v3 := (k : Nat)) (v4 := wv k) sc (by rw [gc35, oP35 77 (by decide)]; exact hg) hg4 c14 g 0 0 (by omega) (Or.inl rfl)
        have eff : ff (mtB (clM P c V) (gi (clM P c V) 77 c) (gi (clM P c V) 78 c) (gi (clM P c V) 79 c) (gi (clM P c V) 76 c)) g 0 = ff (mtB B (cv c 1) (cv c 2) (cv c 3) (cv c 4)) g 0 := ff_congr g 0 (fun j _ _ => by
          have gB : ∀ a, 84 ≤ a → gi (clM P c V) a j = gi B a j := fun a h1 => by rw [gi_cl, if_neg (by omega), hP.2 a j (by unfold pbS; omega)]
          unfold mtB
          rw [gB 84 (by decide), gB 85 (by decide), gB 86 (by decide), gB 87 (by decide), gcv 77 (by decide) (by decide), gcv 78 (by decide) (by decide), gcv 79 (by decide) (by decide), gcv 76 (by decide) (by decide)]
          rfl)
        rw [eff, ← hway c cS] at way1
        have way1' : WP (mc (d + 5)) tX12_plan 259 [vr (some 35), vi (n : Nat), vi v2, vi (k : Nat), vi (wv k), vi (c : Nat), vi 0] [] (si (clM P c V) 80 c 0) Q = _ := way1
        -- late, and the next turn
        have fin : WP (mc (d + 5)) tX12_plan 350 [vr (some 35), vi (n : Nat), vi v2, vi (k : Nat), vi (wv k), vi (c : Nat), vi (g : Nat)] [] (si (clM P c V) 80 c (way c)) Q := by
          have nxt := ih (k + 1) (si (si (si (clM P c V) 80 c (way c)) 81 c (bi (!may c))) 35 62 ((c + 1 : Nat) : Int)) (vi (wv k)) (vi (c : Nat)) (vi (g : Nat)) (nlI _) (nlI _) (nlI _) (by omega) (YF_si (Or.inr (Or.inr ⟨rfl, rfl⟩)) (YF_si (Or.inr (Or.inl (by omega))) (YF_si (Or.inr (Or.inl (by omega))) yc))) (by rw [cc]; exact gi_same _ _ _ _) (by
            rw [cc]
            intro j hj
            have r1 : ∀ a, 72 ≤ a → a ≤ 79 → gi (si (si (si (clM P c V) 80 c (way c)) 81 c (bi (!may c))) 35 62 ((c + 1 : Nat) : Int)) a j = gi (clM P c V) a j := fun a h1 h2 => by rw [gi_na (by omega), gi_na (by omega), gi_na (by omega)]
            have r80 : gi (si (si (si (clM P c V) 80 c (way c)) 81 c (bi (!may c))) 35 62 ((c + 1 : Nat) : Int)) 80 j = gi (si (clM P c V) 80 c (way c)) 80 j := by rw [gi_na (by decide), gi_na (by decide)]
            have r81 : gi (si (si (si (clM P c V) 80 c (way c)) 81 c (bi (!may c))) 35 62 ((c + 1 : Nat) : Int)) 81 j = gi (si (si (clM P c V) 80 c (way c)) 81 c (bi (!may c))) 81 j := by rw [gi_na (by decide)]
            unfold RW
            rw [r80, r81, r1 72 (by decide) (by decide), r1 73 (by decide) (by decide), r1 74 (by decide) (by decide), r1 75 (by decide) (by decide), r1 76 (by decide) (by decide), r1 77 (by decide) (by decide), r1 78 (by decide) (by decide), r1 79 (by decide) (by decide)]
            by_cases w : j = c
            · subst w
              rw [gcv 72 (by decide) (by decide), gcv 73 (by decide) (by decide), gcv 74 (by decide) (by decide), gcv 75 (by decide) (by decide), gcv 76 (by decide) (by decide), gcv 77 (by decide) (by decide), gcv 78 (by decide) (by decide), gcv 79 (by decide) (by decide), gi_same, gi_same]
              exact ⟨⟨rfl, rfl, rfl, rfl, rfl, rfl, rfl, rfl⟩, rfl, rfl⟩
            · have oc : ∀ a, gi (clM P c V) a j = gi P a j := fun a => by rw [gi_cl, if_neg (fun x => w x.2)]
              rw [gi_ni w, gi_ni w, gi_na (by decide), oc, oc, oc, oc, oc, oc, oc, oc, oc, oc]
              exact hAP j (by omega))
          have gway : gi (si (clM P c V) 80 c (way c)) 80 c = way c := gi_same _ _ _ _
          have v74 : gi (clM P c V) 74 c = cv c 7 := gcv 74 (by decide) (by decide)
          have v50 : gi (clM P c V) 35 50 = now := by rw [gc35, oP35 50 (by decide)]; exact hnow
          have v62 : gi (clM P c V) 35 62 = (c : Nat) := by rw [gc35]; exact p62
          have hmc := hm c cS
          have hwc := hway c cS
          have hw01 : way c = 0 ∨ way c = 1 := by rw [hwc]; split
                                                  · exact Or.inr rfl
                                                  · exact Or.inl rfl
          by_cases y : now ≤ cv c 7
          · have mt' : may c = true := by rw [hmc]; exact decide_eq_true (Or.inr y)
            rw [mt'] at nxt
            have nxt' : WP (mc (d + 5)) tX12_plan 64 [vr (some 35), vi (n : Nat), vi v2, vi (k + 1 : Nat), vi (wv k), vi (c : Nat), vi (g : Nat)] [] (si (si (si (clM P c V) 80 c (way c)) 81 c 0) 35 62 ((c + 1 : Nat) : Int)) Q := nxt
            simp only [↓eX12_plan_350, ↓eX12_plan_351, ↓eX12_plan_354, ↓eX12_plan_356, ↓eX12_plan_357, ↓eX12_plan_360, ↓eX12_plan_362, ↓eX12_plan_363, ↓eX12_plan_364, ↓eX12_plan_367, ↓eX12_plan_370, ↓eX12_plan_371, ↓eX12_plan_374, ↓eX12_plan_376, ↓eX12_plan_377, ↓eX12_plan_380, ↓eX12_plan_381, ↓eX12_plan_384, ↓eX12_plan_385, ↓eX12_plan_386, ↓eX12_plan_387, ↓eX12_plan_388, ↓eX12_plan_391, ↓eX12_plan_392, ↓eX12_plan_393, ↓eX12_plan_396, ↓eX12_plan_399, hk35 sc, hr35_74 sc, hr35_67 sc, hr35_73 sc, hk81 sc, hl81 sc, hk74 sc, hl74 sc, hk80 sc, hl80 sc, ec0, ec1, v74, v50, v62, y, e2, e3, Int.cast_ofNat_Int, kd_si, gr_si, ln_si, gi_same, gi_na, gi_ni, nl_i, nl_r, nl_j, nj_i, nj_l, nj_r, true_and, and_true, and_self, cs_0, cs_1, cs_2, cs_3, cs_4, ↓reduceIte, Nat.reduceLeDiff, Nat.reduceEqDiff, Nat.reduceAdd, Int.reduceLE, Int.reduceLT, Int.reduceEq, Int.reduceAdd, Int.reduceNeg, Int.reduceToNat, Int.toNat_natCast, ne_eq, not_false_eq_true, not_true_eq_false, or_true, true_or, or_false, false_or]
            exact nxt'
          · rcases hw01 with x | x
            · have mt' : may c = false := by rw [hmc]; exact decide_eq_false (by omega)
              rw [mt', x] at nxt
              have nxt' : WP (mc (d + 5)) tX12_plan 64 [vr (some 35), vi (n : Nat), vi v2, vi (k + 1 : Nat), vi (wv k), vi (c : Nat), vi (g : Nat)] [] (si (si (si (clM P c V) 80 c 0) 81 c 1) 35 62 ((c + 1 : Nat) : Int)) Q := nxt
              rw [x]
              simp only [↓eX12_plan_350, ↓eX12_plan_351, ↓eX12_plan_354, ↓eX12_plan_356, ↓eX12_plan_357, ↓eX12_plan_360, ↓eX12_plan_362, ↓eX12_plan_363, ↓eX12_plan_364, ↓eX12_plan_367, ↓eX12_plan_370, ↓eX12_plan_371, ↓eX12_plan_374, ↓eX12_plan_376, ↓eX12_plan_377, ↓eX12_plan_380, ↓eX12_plan_381, ↓eX12_plan_384, ↓eX12_plan_385, ↓eX12_plan_386, ↓eX12_plan_387, ↓eX12_plan_388, ↓eX12_plan_391, ↓eX12_plan_392, ↓eX12_plan_393, ↓eX12_plan_396, ↓eX12_plan_399, hk35 sc, hr35_74 sc, hr35_67 sc, hr35_73 sc, hk81 sc, hl81 sc, hk74 sc, hl74 sc, hk80 sc, hl80 sc, ec0, ec1, v74, v50, v62, y, e2, e3, Int.cast_ofNat_Int, kd_si, gr_si, ln_si, gi_same, gi_na, gi_ni, nl_i, nl_r, nl_j, nj_i, nj_l, nj_r, true_and, and_true, and_self, cs_0, cs_1, cs_2, cs_3, cs_4, ↓reduceIte, Nat.reduceLeDiff, Nat.reduceEqDiff, Nat.reduceAdd, Int.reduceLE, Int.reduceLT, Int.reduceEq, Int.reduceAdd, Int.reduceNeg, Int.reduceToNat, Int.toNat_natCast, ne_eq, not_false_eq_true, not_true_eq_false, or_true, true_or, or_false, false_or]
              exact nxt'
            · have mt' : may c = true := by rw [hmc]; exact decide_eq_true (Or.inl x)
              rw [mt', x] at nxt
              have nxt' : WP (mc (d + 5)) tX12_plan 64 [vr (some 35), vi (n : Nat), vi v2, vi (k + 1 : Nat), vi (wv k), vi (c : Nat), vi (g : Nat)] [] (si (si (si (clM P c V) 80 c 1) 81 c 0) 35 62 ((c + 1 : Nat) : Int)) Q := nxt
              rw [x]
              simp only [↓eX12_plan_350, ↓eX12_plan_351, ↓eX12_plan_354, ↓eX12_plan_356, ↓eX12_plan_357, ↓eX12_plan_360, ↓eX12_plan_362, ↓eX12_plan_363, ↓eX12_plan_364, ↓eX12_plan_367, ↓eX12_plan_370, ↓eX12_plan_371, ↓eX12_plan_374, ↓eX12_plan_376, ↓eX12_plan_377, ↓eX12_plan_380, ↓eX12_plan_381, ↓eX12_plan_384, ↓eX12_plan_385, ↓eX12_plan_386, ↓eX12_plan_387, ↓eX12_plan_388, ↓eX12_plan_391, ↓eX12_plan_392, ↓eX12_plan_393, ↓eX12_plan_396, ↓eX12_plan_399, hk35 sc, hr35_74 sc, hr35_67 sc, hr35_73 sc, hk81 sc, hl81 sc, hk74 sc, hl74 sc, hk80 sc, hl80 sc, ec0, ec1, v74, v50, v62, y, e2, e3, Int.cast_ofNat_Int, kd_si, gr_si, ln_si, gi_same, gi_na, gi_ni, nl_i, nl_r, nl_j, nj_i, nj_l, nj_r, true_and, and_true, and_self, cs_0, cs_1, cs_2, cs_3, cs_4, ↓reduceIte, Nat.reduceLeDiff, Nat.reduceEqDiff, Nat.reduceAdd, Int.reduceLE, Int.reduceLT, Int.reduceEq, Int.reduceAdd, Int.reduceNeg, Int.reduceToNat, Int.toNat_natCast, ne_eq, not_false_eq_true, not_true_eq_false, or_true, true_or, or_false, false_or]
              exact nxt'
        rw [← way1', eM] at fin
        have z' : (wv k = 0) = False := eq_false z
        by_cases a : ((sT (dy B n) W k : Nat) : Int) < ld
        · have a' : (ld ≤ ((sT (dy B n) W k : Nat) : Int)) = False := eq_false (by omega)
          have v7 : cv c 7 = 0 := by rw [hV7]; exact mMax_r (by omega)
          by_cases b : 288 < ((sU (dy B n) W k : Nat) : Int) + tl
          · have b' : (((sU (dy B n) W k : Nat) : Int) + tl ≤ 288) = False := eq_false (by omega)
            have v8 : cv c 8 = 288 := by rw [hV8]; exact mMin_r (by omega)
            rw [v7, v8] at fin
            simp only [↓eX12_plan_77, ↓eX12_plan_79, ↓eX12_plan_81, ↓eX12_plan_84, ↓eX12_plan_87, ↓eX12_plan_88, ↓eX12_plan_91, ↓eX12_plan_93, ↓eX12_plan_94, ↓eX12_plan_97, ↓eX12_plan_99, ↓eX12_plan_100, ↓eX12_plan_101, ↓eX12_plan_102, ↓eX12_plan_105, ↓eX12_plan_107, ↓eX12_plan_109, ↓eX12_plan_110, ↓eX12_plan_111, ↓eX12_plan_114, ↓eX12_plan_116, ↓eX12_plan_117, ↓eX12_plan_120, ↓eX12_plan_121, ↓eX12_plan_122, ↓eX12_plan_123, ↓eX12_plan_126, ↓eX12_plan_129, ↓eX12_plan_130, ↓eX12_plan_133, ↓eX12_plan_134, ↓eX12_plan_137, ↓eX12_plan_138, ↓eX12_plan_139, ↓eX12_plan_140, ↓eX12_plan_143, ↓eX12_plan_144, ↓eX12_plan_145, ↓eX12_plan_146, ↓eX12_plan_149, ↓eX12_plan_151, ↓eX12_plan_152, ↓eX12_plan_155, ↓eX12_plan_156, ↓eX12_plan_157, ↓eX12_plan_158, ↓eX12_plan_161, ↓eX12_plan_162, ↓eX12_plan_165, ↓eX12_plan_168, ↓eX12_plan_171, ↓eX12_plan_174, ↓eX12_plan_175, ↓eX12_plan_178, ↓eX12_plan_179, ↓eX12_plan_180, ↓eX12_plan_181, ↓eX12_plan_184, ↓eX12_plan_185, ↓eX12_plan_186, ↓eX12_plan_187, ↓eX12_plan_190, ↓eX12_plan_192, ↓eX12_plan_193, ↓eX12_plan_196, ↓eX12_plan_197, ↓eX12_plan_198, ↓eX12_plan_199, ↓eX12_plan_200, ↓eX12_plan_203, ↓eX12_plan_205, ↓eX12_plan_206, ↓eX12_plan_209, ↓eX12_plan_210, ↓eX12_plan_211, ↓eX12_plan_212, ↓eX12_plan_213, ↓eX12_plan_216, ↓eX12_plan_218, ↓eX12_plan_219, ↓eX12_plan_222, ↓eX12_plan_223, ↓eX12_plan_226, ↓eX12_plan_227, ↓eX12_plan_228, ↓eX12_plan_229, ↓eX12_plan_230, ↓eX12_plan_231, ↓eX12_plan_234, ↓eX12_plan_236, ↓eX12_plan_237, ↓eX12_plan_240, ↓eX12_plan_241, ↓eX12_plan_244, ↓eX12_plan_245, ↓eX12_plan_246, ↓eX12_plan_247, ↓eX12_plan_248, ↓eX12_plan_249, ↓eX12_plan_252, ↓eX12_plan_254, ↓eX12_plan_255, ↓eX12_plan_256, ↓eX12_plan_257, n4, n5, n6, nlI, hk35 hPs, hr35_65 hPs, hr35_66 hPs, hr35_67 hPs, hr35_68 hPs, hr35_69 hPs, hr35_70 hPs, hr35_71 hPs, hr35_72 hPs, hr35_73 hPs, hr35_56 hPs, hr35_57 hPs, hr35_58 hPs, hr35_59 hPs, hr35_43 hPs, hr35_44 hPs, hk61 hPs, hl61 hPs, hk62 hPs, hl62 hPs, hk67 hPs, hl67 hPs, hk68 hPs, hl68 hPs, hk69 hPs, hl69 hPs, hk70 hPs, hl70 hPs, hk72 hPs, hl72 hPs, hk73 hPs, hl73 hPs, hk74 hPs, hl74 hPs, hk75 hPs, hl75 hPs, hk76 hPs, hl76 hPs, hk77 hPs, hl77 hPs, hk78 hPs, hl78 hPs, hk79 hPs, hl79 hPs, hk80 hPs, hl80 hPs, z', p62, ec0, ec1, k0, k1, f0', f1', q67, q68, q69, q70, q47, q48, q61, q62, a', b', w1, w2, Int.cast_ofNat_Int, kd_si, gr_si, ln_si, gi_same, gi_na, gi_ni, nl_i, nl_r, nl_j, nj_i, nj_l, nj_r, true_and, and_true, and_self, cs_0, cs_1, cs_2, cs_3, cs_4, ↓reduceIte, Nat.reduceLeDiff, Nat.reduceEqDiff, Nat.reduceAdd, Int.reduceLE, Int.reduceLT, Int.reduceEq, Int.reduceAdd, Int.reduceNeg, Int.reduceToNat, Int.toNat_natCast, ne_eq, not_false_eq_true, not_true_eq_false, or_true, true_or, or_false, false_or]
            exact fin
          · have b' : (((sU (dy B n) W k : Nat) : Int) + tl ≤ 288) = True := eq_true (by omega)
            have v8 : cv c 8 = ((sU (dy B n) W k : Nat) : Int) + tl := by rw [hV8]; exact mMin_l (by omega)
            rw [v7, v8] at fin
            simp only [↓eX12_plan_77, ↓eX12_plan_79, ↓eX12_plan_81, ↓eX12_plan_84, ↓eX12_plan_87, ↓eX12_plan_88, ↓eX12_plan_91, ↓eX12_plan_93, ↓eX12_plan_94, ↓eX12_plan_97, ↓eX12_plan_99, ↓eX12_plan_100, ↓eX12_plan_101, ↓eX12_plan_102, ↓eX12_plan_105, ↓eX12_plan_107, ↓eX12_plan_109, ↓eX12_plan_110, ↓eX12_plan_111, ↓eX12_plan_114, ↓eX12_plan_116, ↓eX12_plan_117, ↓eX12_plan_120, ↓eX12_plan_121, ↓eX12_plan_122, ↓eX12_plan_123, ↓eX12_plan_126, ↓eX12_plan_129, ↓eX12_plan_130, ↓eX12_plan_133, ↓eX12_plan_134, ↓eX12_plan_137, ↓eX12_plan_138, ↓eX12_plan_139, ↓eX12_plan_140, ↓eX12_plan_143, ↓eX12_plan_144, ↓eX12_plan_145, ↓eX12_plan_146, ↓eX12_plan_149, ↓eX12_plan_151, ↓eX12_plan_152, ↓eX12_plan_155, ↓eX12_plan_156, ↓eX12_plan_157, ↓eX12_plan_158, ↓eX12_plan_161, ↓eX12_plan_162, ↓eX12_plan_165, ↓eX12_plan_168, ↓eX12_plan_171, ↓eX12_plan_174, ↓eX12_plan_175, ↓eX12_plan_178, ↓eX12_plan_179, ↓eX12_plan_180, ↓eX12_plan_181, ↓eX12_plan_184, ↓eX12_plan_185, ↓eX12_plan_186, ↓eX12_plan_187, ↓eX12_plan_190, ↓eX12_plan_192, ↓eX12_plan_193, ↓eX12_plan_196, ↓eX12_plan_197, ↓eX12_plan_198, ↓eX12_plan_199, ↓eX12_plan_200, ↓eX12_plan_203, ↓eX12_plan_205, ↓eX12_plan_206, ↓eX12_plan_209, ↓eX12_plan_210, ↓eX12_plan_211, ↓eX12_plan_212, ↓eX12_plan_213, ↓eX12_plan_216, ↓eX12_plan_218, ↓eX12_plan_219, ↓eX12_plan_222, ↓eX12_plan_223, ↓eX12_plan_226, ↓eX12_plan_227, ↓eX12_plan_228, ↓eX12_plan_229, ↓eX12_plan_230, ↓eX12_plan_231, ↓eX12_plan_234, ↓eX12_plan_236, ↓eX12_plan_237, ↓eX12_plan_240, ↓eX12_plan_241, ↓eX12_plan_244, ↓eX12_plan_245, ↓eX12_plan_246, ↓eX12_plan_247, ↓eX12_plan_248, ↓eX12_plan_249, ↓eX12_plan_252, ↓eX12_plan_254, ↓eX12_plan_255, ↓eX12_plan_256, ↓eX12_plan_257, n4, n5, n6, nlI, hk35 hPs, hr35_65 hPs, hr35_66 hPs, hr35_67 hPs, hr35_68 hPs, hr35_69 hPs, hr35_70 hPs, hr35_71 hPs, hr35_72 hPs, hr35_73 hPs, hr35_56 hPs, hr35_57 hPs, hr35_58 hPs, hr35_59 hPs, hr35_43 hPs, hr35_44 hPs, hk61 hPs, hl61 hPs, hk62 hPs, hl62 hPs, hk67 hPs, hl67 hPs, hk68 hPs, hl68 hPs, hk69 hPs, hl69 hPs, hk70 hPs, hl70 hPs, hk72 hPs, hl72 hPs, hk73 hPs, hl73 hPs, hk74 hPs, hl74 hPs, hk75 hPs, hl75 hPs, hk76 hPs, hl76 hPs, hk77 hPs, hl77 hPs, hk78 hPs, hl78 hPs, hk79 hPs, hl79 hPs, hk80 hPs, hl80 hPs, z', p62, ec0, ec1, k0, k1, f0', f1', q67, q68, q69, q70, q47, q48, q61, q62, a', b', w1, w2, Int.cast_ofNat_Int, kd_si, gr_si, ln_si, gi_same, gi_na, gi_ni, nl_i, nl_r, nl_j, nj_i, nj_l, nj_r, true_and, and_true, and_self, cs_0, cs_1, cs_2, cs_3, cs_4, ↓reduceIte, Nat.reduceLeDiff, Nat.reduceEqDiff, Nat.reduceAdd, Int.reduceLE, Int.reduceLT, Int.reduceEq, Int.reduceAdd, Int.reduceNeg, Int.reduceToNat, Int.toNat_natCast, ne_eq, not_false_eq_true, not_true_eq_false, or_true, true_or, or_false, false_or]
            exact fin
        · have a' : (ld ≤ ((sT (dy B n) W k : Nat) : Int)) = True := eq_true (by omega)
          have v7 : cv c 7 = ((sT (dy B n) W k : Nat) : Int) - ld := by rw [hV7]; exact mMax_l (by omega)
          by_cases b : 288 < ((sU (dy B n) W k : Nat) : Int) + tl
          · have b' : (((sU (dy B n) W k : Nat) : Int) + tl ≤ 288) = False := eq_false (by omega)
            have v8 : cv c 8 = 288 := by rw [hV8]; exact mMin_r (by omega)
            rw [v7, v8] at fin
            simp only [↓eX12_plan_77, ↓eX12_plan_79, ↓eX12_plan_81, ↓eX12_plan_84, ↓eX12_plan_87, ↓eX12_plan_88, ↓eX12_plan_91, ↓eX12_plan_93, ↓eX12_plan_94, ↓eX12_plan_97, ↓eX12_plan_99, ↓eX12_plan_100, ↓eX12_plan_101, ↓eX12_plan_102, ↓eX12_plan_105, ↓eX12_plan_107, ↓eX12_plan_109, ↓eX12_plan_110, ↓eX12_plan_111, ↓eX12_plan_114, ↓eX12_plan_116, ↓eX12_plan_117, ↓eX12_plan_120, ↓eX12_plan_121, ↓eX12_plan_122, ↓eX12_plan_123, ↓eX12_plan_126, ↓eX12_plan_129, ↓eX12_plan_130, ↓eX12_plan_133, ↓eX12_plan_134, ↓eX12_plan_137, ↓eX12_plan_138, ↓eX12_plan_139, ↓eX12_plan_140, ↓eX12_plan_143, ↓eX12_plan_144, ↓eX12_plan_145, ↓eX12_plan_146, ↓eX12_plan_149, ↓eX12_plan_151, ↓eX12_plan_152, ↓eX12_plan_155, ↓eX12_plan_156, ↓eX12_plan_157, ↓eX12_plan_158, ↓eX12_plan_161, ↓eX12_plan_162, ↓eX12_plan_165, ↓eX12_plan_168, ↓eX12_plan_171, ↓eX12_plan_174, ↓eX12_plan_175, ↓eX12_plan_178, ↓eX12_plan_179, ↓eX12_plan_180, ↓eX12_plan_181, ↓eX12_plan_184, ↓eX12_plan_185, ↓eX12_plan_186, ↓eX12_plan_187, ↓eX12_plan_190, ↓eX12_plan_192, ↓eX12_plan_193, ↓eX12_plan_196, ↓eX12_plan_197, ↓eX12_plan_198, ↓eX12_plan_199, ↓eX12_plan_200, ↓eX12_plan_203, ↓eX12_plan_205, ↓eX12_plan_206, ↓eX12_plan_209, ↓eX12_plan_210, ↓eX12_plan_211, ↓eX12_plan_212, ↓eX12_plan_213, ↓eX12_plan_216, ↓eX12_plan_218, ↓eX12_plan_219, ↓eX12_plan_222, ↓eX12_plan_223, ↓eX12_plan_226, ↓eX12_plan_227, ↓eX12_plan_228, ↓eX12_plan_229, ↓eX12_plan_230, ↓eX12_plan_231, ↓eX12_plan_234, ↓eX12_plan_236, ↓eX12_plan_237, ↓eX12_plan_240, ↓eX12_plan_241, ↓eX12_plan_244, ↓eX12_plan_245, ↓eX12_plan_246, ↓eX12_plan_247, ↓eX12_plan_248, ↓eX12_plan_249, ↓eX12_plan_252, ↓eX12_plan_254, ↓eX12_plan_255, ↓eX12_plan_256, ↓eX12_plan_257, n4, n5, n6, nlI, hk35 hPs, hr35_65 hPs, hr35_66 hPs, hr35_67 hPs, hr35_68 hPs, hr35_69 hPs, hr35_70 hPs, hr35_71 hPs, hr35_72 hPs, hr35_73 hPs, hr35_56 hPs, hr35_57 hPs, hr35_58 hPs, hr35_59 hPs, hr35_43 hPs, hr35_44 hPs, hk61 hPs, hl61 hPs, hk62 hPs, hl62 hPs, hk67 hPs, hl67 hPs, hk68 hPs, hl68 hPs, hk69 hPs, hl69 hPs, hk70 hPs, hl70 hPs, hk72 hPs, hl72 hPs, hk73 hPs, hl73 hPs, hk74 hPs, hl74 hPs, hk75 hPs, hl75 hPs, hk76 hPs, hl76 hPs, hk77 hPs, hl77 hPs, hk78 hPs, hl78 hPs, hk79 hPs, hl79 hPs, hk80 hPs, hl80 hPs, z', p62, ec0, ec1, k0, k1, f0', f1', q67, q68, q69, q70, q47, q48, q61, q62, a', b', w1, w2, Int.cast_ofNat_Int, kd_si, gr_si, ln_si, gi_same, gi_na, gi_ni, nl_i, nl_r, nl_j, nj_i, nj_l, nj_r, true_and, and_true, and_self, cs_0, cs_1, cs_2, cs_3, cs_4, ↓reduceIte, Nat.reduceLeDiff, Nat.reduceEqDiff, Nat.reduceAdd, Int.reduceLE, Int.reduceLT, Int.reduceEq, Int.reduceAdd, Int.reduceNeg, Int.reduceToNat, Int.toNat_natCast, ne_eq, not_false_eq_true, not_true_eq_false, or_true, true_or, or_false, false_or]
            exact fin
          · have b' : (((sU (dy B n) W k : Nat) : Int) + tl ≤ 288) = True := eq_true (by omega)
            have v8 : cv c 8 = ((sU (dy B n) W k : Nat) : Int) + tl := by rw [hV8]; exact mMin_l (by omega)
            rw [v7, v8] at fin
            simp only [↓eX12_plan_77, ↓eX12_plan_79, ↓eX12_plan_81, ↓eX12_plan_84, ↓eX12_plan_87, ↓eX12_plan_88, ↓eX12_plan_91, ↓eX12_plan_93, ↓eX12_plan_94, ↓eX12_plan_97, ↓eX12_plan_99, ↓eX12_plan_100, ↓eX12_plan_101, ↓eX12_plan_102, ↓eX12_plan_105, ↓eX12_plan_107, ↓eX12_plan_109, ↓eX12_plan_110, ↓eX12_plan_111, ↓eX12_plan_114, ↓eX12_plan_116, ↓eX12_plan_117, ↓eX12_plan_120, ↓eX12_plan_121, ↓eX12_plan_122, ↓eX12_plan_123, ↓eX12_plan_126, ↓eX12_plan_129, ↓eX12_plan_130, ↓eX12_plan_133, ↓eX12_plan_134, ↓eX12_plan_137, ↓eX12_plan_138, ↓eX12_plan_139, ↓eX12_plan_140, ↓eX12_plan_143, ↓eX12_plan_144, ↓eX12_plan_145, ↓eX12_plan_146, ↓eX12_plan_149, ↓eX12_plan_151, ↓eX12_plan_152, ↓eX12_plan_155, ↓eX12_plan_156, ↓eX12_plan_157, ↓eX12_plan_158, ↓eX12_plan_161, ↓eX12_plan_162, ↓eX12_plan_165, ↓eX12_plan_168, ↓eX12_plan_171, ↓eX12_plan_174, ↓eX12_plan_175, ↓eX12_plan_178, ↓eX12_plan_179, ↓eX12_plan_180, ↓eX12_plan_181, ↓eX12_plan_184, ↓eX12_plan_185, ↓eX12_plan_186, ↓eX12_plan_187, ↓eX12_plan_190, ↓eX12_plan_192, ↓eX12_plan_193, ↓eX12_plan_196, ↓eX12_plan_197, ↓eX12_plan_198, ↓eX12_plan_199, ↓eX12_plan_200, ↓eX12_plan_203, ↓eX12_plan_205, ↓eX12_plan_206, ↓eX12_plan_209, ↓eX12_plan_210, ↓eX12_plan_211, ↓eX12_plan_212, ↓eX12_plan_213, ↓eX12_plan_216, ↓eX12_plan_218, ↓eX12_plan_219, ↓eX12_plan_222, ↓eX12_plan_223, ↓eX12_plan_226, ↓eX12_plan_227, ↓eX12_plan_228, ↓eX12_plan_229, ↓eX12_plan_230, ↓eX12_plan_231, ↓eX12_plan_234, ↓eX12_plan_236, ↓eX12_plan_237, ↓eX12_plan_240, ↓eX12_plan_241, ↓eX12_plan_244, ↓eX12_plan_245, ↓eX12_plan_246, ↓eX12_plan_247, ↓eX12_plan_248, ↓eX12_plan_249, ↓eX12_plan_252, ↓eX12_plan_254, ↓eX12_plan_255, ↓eX12_plan_256, ↓eX12_plan_257, n4, n5, n6, nlI, hk35 hPs, hr35_65 hPs, hr35_66 hPs, hr35_67 hPs, hr35_68 hPs, hr35_69 hPs, hr35_70 hPs, hr35_71 hPs, hr35_72 hPs, hr35_73 hPs, hr35_56 hPs, hr35_57 hPs, hr35_58 hPs, hr35_59 hPs, hr35_43 hPs, hr35_44 hPs, hk61 hPs, hl61 hPs, hk62 hPs, hl62 hPs, hk67 hPs, hl67 hPs, hk68 hPs, hl68 hPs, hk69 hPs, hl69 hPs, hk70 hPs, hl70 hPs, hk72 hPs, hl72 hPs, hk73 hPs, hl73 hPs, hk74 hPs, hl74 hPs, hk75 hPs, hl75 hPs, hk76 hPs, hl76 hPs, hk77 hPs, hl77 hPs, hk78 hPs, hl78 hPs, hk79 hPs, hl79 hPs, hk80 hPs, hl80 hPs, z', p62, ec0, ec1, k0, k1, f0', f1', q67, q68, q69, q70, q47, q48, q61, q62, a', b', w1, w2, Int.cast_ofNat_Int, kd_si, gr_si, ln_si, gi_same, gi_na, gi_ni, nl_i, nl_r, nl_j, nj_i, nj_l, nj_r, true_and, and_true, and_self, cs_0, cs_1, cs_2, cs_3, cs_4, ↓reduceIte, Nat.reduceLeDiff, Nat.reduceEqDiff, Nat.reduceAdd, Int.reduceLE, Int.reduceLT, Int.reduceEq, Int.reduceAdd, Int.reduceNeg, Int.reduceToNat, Int.toNat_natCast, ne_eq, not_false_eq_true, not_true_eq_false, or_true, true_or, or_false, false_or]
            exact fin⟩)
    rw [eX12_plan_64]
    simp only [↓eX12_plan_65, ↓eX12_plan_66, ↓eX12_plan_69, ↓eX12_plan_72, ↓eX12_plan_73, ↓eX12_plan_74, hk35 hNs, g55, e1, Int.cast_ofNat_Int, kd_si, gr_si, ln_si, gi_same, gi_na, gi_ni, nl_i, nl_r, nl_j, nj_i, nj_l, nj_r, true_and, and_true, and_self, cs_0, cs_1, cs_2, cs_3, cs_4, ↓reduceIte, Nat.reduceLeDiff, Nat.reduceEqDiff, Nat.reduceAdd, Int.reduceLE, Int.reduceLT, Int.reduceEq, Int.reduceAdd, Int.reduceNeg, Int.reduceToNat, Int.toNat_natCast, ne_eq, not_false_eq_true, not_true_eq_false, or_true, true_or, or_false, false_or]
    exact wg
end CANDS
