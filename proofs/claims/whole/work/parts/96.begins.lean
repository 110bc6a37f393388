/-! ===== the reference: what has begun ===== -/
def bgS (a i : Nat) : Prop := (84 ≤ a ∧ a ≤ 87) ∨ (a = 35 ∧ i = 77)
def mtB (N : mM) (c1 c2 c3 c4 : Int) (j : Nat) : Bool := decide (gi N 84 j = c1 ∧ gi N 85 j = c2 ∧ gi N 86 j = c3 ∧ gi N 87 j = c4)
def BGN (M N : mM) (os nh g : Nat) (now : Int) : Prop := gi N 35 77 = g ∧ g ≤ 14 ∧ ∀ c1 c2 c3 c4, (∃ j, j < g ∧ gi N 84 j = c1 ∧ gi N 85 j = c2 ∧ gi N 86 j = c3 ∧ gi N 87 j = c4) ↔ ∃ k, k < nh ∧ os.testBit k = true ∧ gi M 74 k < now ∧ gi M 77 k = c1 ∧ gi M 78 k = c2 ∧ gi M 79 k = c3 ∧ gi M 76 k = c4
theorem y_bg_loop {C : mC} {M : mM} {Q : mV → mM → Prop} {nh os : Nat} {now : Int} (h : SH M) (h62 : gi M 35 62 = nh) (h14 : nh ≤ 14) (h63 : gi M 35 63 = (os : Nat)) (hos : os < 16384) (hnow : gi M 35 50 = now)
    (hQ : ∀ N g, YF bgS M N → BGN M N os nh g now → Q vj N) :
    ∀ (r i g : Nat) (N : mM), i + r = nh → g ≤ i → YF bgS M N → BGN M N os i g now → WP C tX12_begins 16 [vr (some 35), vi (i : Nat)] [] N Q := by
  intro r
  induction r with
  | zero =>
    intro i g N hr hgi hN hB
    have e : i = nh := by omega
    subst e
    have hNs := YF_SH hN h
    have g62 : gi N 35 62 = i := by rw [hN.2 35 62 (by unfold bgS; omega)]; exact h62
    rw [eX12_begins_16]
    simp only [↓eX12_begins_17, ↓eX12_begins_18, ↓eX12_begins_21, ↓eX12_begins_127, hk35 hNs, g62, Int.le_refl, Int.cast_ofNat_Int, kd_si, gr_si, ln_si, gi_same, gi_na, gi_ni, nl_i, nl_r, nl_j, nj_i, nj_l, nj_r, true_and, and_true, and_self, cs_0, cs_1, cs_2, cs_3, cs_4, ↓reduceIte, Nat.reduceLeDiff, Nat.reduceEqDiff, Nat.reduceAdd, Int.reduceLE, Int.reduceLT, Int.reduceEq, Int.reduceAdd, Int.reduceNeg, Int.reduceToNat, Int.toNat_natCast, ne_eq, not_false_eq_true, not_true_eq_false, or_true, true_or, or_false, false_or]
    exact hQ N g hN hB
  | succ r ih =>
    intro i g N hr hgi hN hB
    have hin : i < nh := by omega
    have hNs := YF_SH hN h
    have o : ∀ a j, 36 ≤ a → a ≤ 83 → gi N a j = gi M a j := fun a j h1 h2 => hN.2 a j (by unfold bgS; omega)
    have g62 : gi N 35 62 = nh := by rw [hN.2 35 62 (by unfold bgS; omega)]; exact h62
    have g63 : gi N 35 63 = (os : Nat) := by rw [hN.2 35 63 (by unfold bgS; omega)]; exact h63
    have g50 : gi N 35 50 = now := by rw [hN.2 35 50 (by unfold bgS; omega)]; exact hnow
    obtain ⟨g77, g14, hB⟩ := hB
    have e1 : ((nh : Int) ≤ (i : Int)) = False := eq_false (by omega)
    have e2 : wr ((i : Int) + 1) = ((i + 1 : Nat) : Int) := by rw [wr_id (by omega) (by omega)]; omega
    have e3 : wr ((g : Int) + 1) = ((g + 1 : Nat) : Int) := by rw [wr_id (by omega) (by omega)]; omega
    have i0 : (0 ≤ (i : Int)) = True := eq_true (by omega)
    have i1 : ((i : Int) < 14) = True := eq_true (by omega)
    have j0 : (0 ≤ (g : Int)) = True := eq_true (by omega)
    have j1 : ((g : Int) < 14) = True := eq_true (by omega)
    have s1 := i_shr (s := os) (i := i) hos (by omega)
    have s2 := i_b1 (s := os) (i := i) hos
    have skip : (¬ (os.testBit i = true ∧ gi M 74 i < now)) → BGN M N os (i + 1) g now := fun hz => ⟨g77, g14, fun c1 c2 c3 c4 => by
      rw [hB]
      constructor
      · rintro ⟨k, a, b⟩
        exact ⟨k, by omega, b⟩
      · rintro ⟨k, a, b, c, e⟩
        refine ⟨k, ?_, b, c, e⟩
        rcases Nat.lt_or_ge k i with w | w
        · exact w
        · have : k = i := by omega
          subst this
          exact absurd ⟨b, c⟩ hz⟩
    rw [eX12_begins_16]
    by_cases q : os.testBit i = true
    · rw [tb_1 q] at s2
      by_cases z : gi M 74 i < now
      · have v74 : gi N 74 i < now := by rw [o 74 i (by decide) (by decide)]; exact z
        have nxt := ih (i + 1) (g + 1) (si (si (si (si (si N 84 g (gi N 77 i)) 85 g (gi N 78 i)) 86 g (gi N 79 i)) 87 g (gi N 76 i)) 35 77 ((g + 1 : Nat) : Int)) (by omega) (by omega) (YF_si (Or.inr ⟨rfl, rfl⟩) (YF_si (Or.inl (by omega)) (YF_si (Or.inl (by omega)) (YF_si (Or.inl (by omega)) (YF_si (Or.inl (by omega)) hN))))) ⟨gi_same _ _ _ _, by omega, fun c1 c2 c3 c4 => by
          have r84 : ∀ j, gi (si (si (si (si (si N 84 g (gi N 77 i)) 85 g (gi N 78 i)) 86 g (gi N 79 i)) 87 g (gi N 76 i)) 35 77 ((g + 1 : Nat) : Int)) 84 j = if j = g then gi M 77 i else gi N 84 j := fun j => by
            rw [gi_na (by decide), gi_na (by decide), gi_na (by decide), gi_na (by decide), gi_si]
            by_cases w : j = g
            · rw [if_pos ⟨rfl, w⟩, if_pos w, o 77 i (by decide) (by decide)]
            · rw [if_neg (fun x => w x.2), if_neg w]
          have r85 : ∀ j, gi (si (si (si (si (si N 84 g (gi N 77 i)) 85 g (gi N 78 i)) 86 g (gi N 79 i)) 87 g (gi N 76 i)) 35 77 ((g + 1 : Nat) : Int)) 85 j = if j = g then gi M 78 i else gi N 85 j := fun j => by
            rw [gi_na (by decide), gi_na (by decide), gi_na (by decide), gi_si]
            by_cases w : j = g
            · rw [if_pos ⟨rfl, w⟩, if_pos w, o 78 i (by decide) (by decide)]
            · rw [if_neg (fun x => w x.2), if_neg w, gi_na (by decide)]
          have r86 : ∀ j, gi (si (si (si (si (si N 84 g (gi N 77 i)) 85 g (gi N 78 i)) 86 g (gi N 79 i)) 87 g (gi N 76 i)) 35 77 ((g + 1 : Nat) : Int)) 86 j = if j = g then gi M 79 i else gi N 86 j := fun j => by
            rw [gi_na (by decide), gi_na (by decide), gi_si]
            by_cases w : j = g
            · rw [if_pos ⟨rfl, w⟩, if_pos w, o 79 i (by decide) (by decide)]
            · rw [if_neg (fun x => w x.2), if_neg w, gi_na (by decide), gi_na (by decide)]
          have r87 : ∀ j, gi (si (si (si (si (si N 84 g (gi N 77 i)) 85 g (gi N 78 i)) 86 g (gi N 79 i)) 87 g (gi N 76 i)) 35 77 ((g + 1 : Nat) : Int)) 87 j = if j = g then gi M 76 i else gi N 87 j := fun j => by
            rw [gi_na (by decide), gi_si]
            by_cases w : j = g
            · rw [if_pos ⟨rfl, w⟩, if_pos w, o 76 i (by decide) (by decide)]
            · rw [if_neg (fun x => w x.2), if_neg w, gi_na (by decide), gi_na (by decide), gi_na (by decide)]
          simp only [r84, r85, r86, r87]
          constructor
          · rintro ⟨j, hj, hm⟩
            by_cases w : j = g
            · rw [if_pos w, if_pos w, if_pos w, if_pos w] at hm
              exact ⟨i, by omega, q, z, hm⟩
            · rw [if_neg w, if_neg w, if_neg w, if_neg w] at hm
              obtain ⟨k, a, b⟩ := (hB c1 c2 c3 c4).mp ⟨j, by omega, hm⟩
              exact ⟨k, by omega, b⟩
          · rintro ⟨k, hk, b, c, hm⟩
            by_cases w : k = i
            · subst w
              refine ⟨g, by omega, ?_⟩
              rw [if_pos rfl, if_pos rfl, if_pos rfl, if_pos rfl]
              exact hm
            · obtain ⟨j, hj, hm'⟩ := (hB c1 c2 c3 c4).mpr ⟨k, by omega, b, c, hm⟩
              have w' : j ≠ g := by omega
              refine ⟨j, by omega, ?_⟩
              rw [if_neg w', if_neg w', if_neg w', if_neg w']
              exact hm'⟩
        simp only [↓eX12_begins_17, ↓eX12_begins_18, ↓eX12_begins_21, ↓eX12_begins_24, ↓eX12_begins_25, ↓eX12_begins_28, ↓eX12_begins_29, ↓eX12_begins_30, ↓eX12_begins_31, ↓eX12_begins_32, ↓eX12_begins_35, ↓eX12_begins_36, ↓eX12_begins_39, ↓eX12_begins_40, ↓eX12_begins_41, ↓eX12_begins_42, ↓eX12_begins_45, ↓eX12_begins_48, ↓eX12_begins_51, ↓eX12_begins_52, ↓eX12_begins_55, ↓eX12_begins_56, ↓eX12_begins_59, ↓eX12_begins_60, ↓eX12_begins_63, ↓eX12_begins_64, ↓eX12_begins_65, ↓eX12_begins_66, ↓eX12_begins_67, ↓eX12_begins_70, ↓eX12_begins_71, ↓eX12_begins_74, ↓eX12_begins_75, ↓eX12_begins_78, ↓eX12_begins_79, ↓eX12_begins_80, ↓eX12_begins_81, ↓eX12_begins_82, ↓eX12_begins_85, ↓eX12_begins_86, ↓eX12_begins_89, ↓eX12_begins_90, ↓eX12_begins_93, ↓eX12_begins_94, ↓eX12_begins_95, ↓eX12_begins_96, ↓eX12_begins_97, ↓eX12_begins_100, ↓eX12_begins_101, ↓eX12_begins_104, ↓eX12_begins_105, ↓eX12_begins_108, ↓eX12_begins_109, ↓eX12_begins_110, ↓eX12_begins_111, ↓eX12_begins_112, ↓eX12_begins_113, ↓eX12_begins_116, ↓eX12_begins_117, ↓eX12_begins_118, ↓eX12_begins_121, ↓eX12_begins_124, hk35 hNs, hr35_67 hNs, hk74 hNs, hl74 hNs, hr35_78 hNs, hr35_79 hNs, hr35_80 hNs, hr35_81 hNs, hr35_69 hNs, hr35_70 hNs, hr35_71 hNs, hr35_72 hNs, hk76 hNs, hl76 hNs, hk77 hNs, hl77 hNs, hk78 hNs, hl78 hNs, hk79 hNs, hl79 hNs, hk84 hNs, hl84 hNs, hk85 hNs, hl85 hNs, hk86 hNs, hl86 hNs, hk87 hNs, hl87 hNs, g62, g63, g50, g77, e1, e2, e3, i0, i1, j0, j1, s1, s2, v74, Int.cast_ofNat_Int, kd_si, gr_si, ln_si, gi_same, gi_na, gi_ni, nl_i, nl_r, nl_j, nj_i, nj_l, nj_r, true_and, and_true, and_self, cs_0, cs_1, cs_2, cs_3, cs_4, ↓reduceIte, Nat.reduceLeDiff, Nat.reduceEqDiff, Nat.reduceAdd, Int.reduceLE, Int.reduceLT, Int.reduceEq, Int.reduceAdd, Int.reduceNeg, Int.reduceToNat, Int.toNat_natCast, ne_eq, not_false_eq_true, not_true_eq_false, or_true, true_or, or_false, false_or]
        exact nxt
      · have v74 : ¬ gi N 74 i < now := by rw [o 74 i (by decide) (by decide)]; exact z
        have nxt := ih (i + 1) g N (by omega) (by omega) hN (skip (fun w => z w.2))
        simp only [↓eX12_begins_17, ↓eX12_begins_18, ↓eX12_begins_21, ↓eX12_begins_24, ↓eX12_begins_25, ↓eX12_begins_28, ↓eX12_begins_29, ↓eX12_begins_30, ↓eX12_begins_31, ↓eX12_begins_32, ↓eX12_begins_35, ↓eX12_begins_36, ↓eX12_begins_39, ↓eX12_begins_40, ↓eX12_begins_41, ↓eX12_begins_42, ↓eX12_begins_45, ↓eX12_begins_48, ↓eX12_begins_121, ↓eX12_begins_124, hk35 hNs, hr35_67 hNs, hk74 hNs, hl74 hNs, g62, g63, g50, e1, e2, i0, i1, s1, s2, v74, Int.cast_ofNat_Int, kd_si, gr_si, ln_si, gi_same, gi_na, gi_ni, nl_i, nl_r, nl_j, nj_i, nj_l, nj_r, true_and, and_true, and_self, cs_0, cs_1, cs_2, cs_3, cs_4, ↓reduceIte, Nat.reduceLeDiff, Nat.reduceEqDiff, Nat.reduceAdd, Int.reduceLE, Int.reduceLT, Int.reduceEq, Int.reduceAdd, Int.reduceNeg, Int.reduceToNat, Int.toNat_natCast, ne_eq, not_false_eq_true, not_true_eq_false, or_true, true_or, or_false, false_or]
        exact nxt
    · rw [tb_0 q] at s2
      have nxt := ih (i + 1) g N (by omega) (by omega) hN (skip (fun w => q w.1))
      simp only [↓eX12_begins_17, ↓eX12_begins_18, ↓eX12_begins_21, ↓eX12_begins_24, ↓eX12_begins_25, ↓eX12_begins_28, ↓eX12_begins_29, ↓eX12_begins_30, ↓eX12_begins_31, ↓eX12_begins_32, ↓eX12_begins_121, ↓eX12_begins_124, hk35 hNs, g62, g63, e1, e2, s1, s2, Int.cast_ofNat_Int, kd_si, gr_si, ln_si, gi_same, gi_na, gi_ni, nl_i, nl_r, nl_j, nj_i, nj_l, nj_r, true_and, and_true, and_self, cs_0, cs_1, cs_2, cs_3, cs_4, ↓reduceIte, Nat.reduceLeDiff, Nat.reduceEqDiff, Nat.reduceAdd, Int.reduceLE, Int.reduceLT, Int.reduceEq, Int.reduceAdd, Int.reduceNeg, Int.reduceToNat, Int.toNat_natCast, ne_eq, not_false_eq_true, not_true_eq_false, or_true, true_or, or_false, false_or]
      exact nxt
/-- the plan at hand of the reference: so many candidates, this set -/
def OLD (M : mM) (nh os : Nat) : Prop := (gi M 35 61 = -1 ∧ nh = 0 ∧ os = 0) ∨ (gi M 35 61 ≠ -1 ∧ gi M 35 62 = nh ∧ nh ≤ 14 ∧ gi M 35 63 = (os : Nat) ∧ os < 16384)
theorem y_begins {d nh os : Nat} {M : mM} {Q : mV → mM → Prop} {now : Int} (h : SH M) (hO : OLD M nh os) (hnow : gi M 35 50 = now) (hQ : ∀ N g, YF bgS M N → BGN M N os nh g now → Q vj N) : CP (mc (d + 1)) 171 [vr (some 35)] M Q := by
  have y0 : YF bgS M (si M 35 77 0) := YF_si (Or.inr ⟨rfl, rfl⟩) YF_refl
  have h0 : SH (si M 35 77 0) := h
  rcases hO with ⟨o1, o2, o3⟩ | ⟨o1, o2, o3, o4, o5⟩
  · have g61 : gi (si M 35 77 0) 35 61 = -1 := by rw [gi_ni (by decide)]; exact o1
    have fin := hQ (si M 35 77 0) 0 y0 ⟨gi_same _ _ _ _, by decide, fun c1 c2 c3 c4 => ⟨fun ⟨j, hj, _⟩ => absurd hj (Nat.not_lt_zero j), fun ⟨k, hk, _⟩ => by omega⟩⟩
    simp only [↓cpX12_begins, ↓eX12_begins_0, ↓eX12_begins_1, ↓eX12_begins_2, ↓eX12_begins_5, ↓eX12_begins_6, ↓eX12_begins_9, ↓eX12_begins_10, ↓eX12_begins_13, hk35 h, g61, Int.cast_ofNat_Int, kd_si, gr_si, ln_si, gi_same, gi_na, gi_ni, nl_i, nl_r, nl_j, nj_i, nj_l, nj_r, true_and, and_true, and_self, cs_0, cs_1, cs_2, cs_3, cs_4, ↓reduceIte, Nat.reduceLeDiff, Nat.reduceEqDiff, Nat.reduceAdd, Int.reduceLE, Int.reduceLT, Int.reduceEq, Int.reduceAdd, Int.reduceNeg, Int.reduceToNat, Int.toNat_natCast, ne_eq, not_false_eq_true, not_true_eq_false, or_true, true_or, or_false, false_or]
    exact fin
  · have g61 : (gi M 35 61 = -1) = False := eq_false o1
    have lp := y_bg_loop (C := mc d) (Q := Q) h o2 o3 o4 o5 hnow hQ nh 0 0 (si M 35 77 0) (by omega) (by omega) y0 ⟨gi_same _ _ _ _, by decide, fun c1 c2 c3 c4 => ⟨fun ⟨j, hj, _⟩ => absurd hj (Nat.not_lt_zero j), fun ⟨k, hk, _⟩ => absurd hk (Nat.not_lt_zero k)⟩⟩
    have lp' : WP (mc d) tX12_begins 16 [vr (some 35), vi 0] [] (si M 35 77 0) Q := lp
    simp only [↓cpX12_begins, ↓eX12_begins_0, ↓eX12_begins_1, ↓eX12_begins_2, ↓eX12_begins_5, ↓eX12_begins_6, ↓eX12_begins_9, ↓eX12_begins_10, ↓eX12_begins_13, ↓eX12_begins_14, ↓eX12_begins_15, hk35 h, g61, Int.cast_ofNat_Int, kd_si, gr_si, ln_si, gi_same, gi_na, gi_ni, nl_i, nl_r, nl_j, nj_i, nj_l, nj_r, true_and, and_true, and_self, cs_0, cs_1, cs_2, cs_3, cs_4, ↓reduceIte, Nat.reduceLeDiff, Nat.reduceEqDiff, Nat.reduceAdd, Int.reduceLE, Int.reduceLT, Int.reduceEq, Int.reduceAdd, Int.reduceNeg, Int.reduceToNat, Int.toNat_natCast, ne_eq, not_false_eq_true, not_true_eq_false, or_true, true_or, or_false, false_or]
    exact lp'
/-! how many, and too many -/
section MANY
variable {d n W sd R c : Nat} {M : mM} {Q : mV → mM → Prop} {me : Nat → Env → Int} {mt : Nat → Int}
/-- the reference weighs showing k -/
def YW (M : mM) (sd R c : Nat) (me : Nat → Env → Int) (mt : Nat → Int) : Prop := sd ≤ 1 ∧ gi M 35 18 = sd ∧ c ≤ 400 ∧ R ≤ 20 ∧ gi M 43 sd = R ∧ MRU M sd R me mt c ∧ fr M sd R ≤ 400 ∧ ∀ r, r < R → b9 (mt r)
theorem y_wt {k : Nat} (hT : TI M) (hd : DAYM M n W) (hn : (n : Int) ≤ gi M 35 37) (hw : YW M sd R c me mt) (hk : k < cnt (dy M n) W 288) (hQ : ∀ N, DF (fun b => b = 71) M N → Q (vi (wgh me mt (enP M (dy M n) W k) R 0 0)) N) : CP (mc (d + 5)) 167 [vr (some 35), vi (k : Nat)] M Q := by
  obtain ⟨w1, w2, w3, w4, w5, w6, w7, w8⟩ := hw
  have i1 := hT.2.1
  have hs := SFM_of hT.2.2.2.1 hn (by have := i1.2.2.1; omega) (by have := i1.2.1; omega) hd.2.2 hk
  rw [← enM_P hk hd.2.2] at hQ
  exact y_weightOf hT.1 hs w1 w2 w3 w4 w5 w6 w7 (enM_EV hs) (fun r hr => (w8 r hr).1) hQ
theorem YW_f {N : mM} (h18 : gi N 35 18 = gi M 35 18) (hm : ∀ a i, (43 ≤ a ∧ a ≤ 53) → gi N a i = gi M a i) (h : YW M sd R c me mt) : YW N sd R c me mt := by
  obtain ⟨w1, w2, w3, w4, w5, w6, w7, w8⟩ := h
  refine ⟨w1, by rw [h18]; exact w2, w3, w4, by rw [hm 43 _ (by decide)]; exact w5, MRU_f (fun r _ => hm 45 _ (by decide)) (fun r _ => hm 44 _ (by decide)) (fun a i h1 h2 _ => hm a _ (by omega)) (fun j _ => ⟨hm 52 j (by decide), hm 53 j (by decide)⟩) (Nat.le_refl _) w6, ?_, w8⟩
  unfold fr at w7 ⊢
  rw [hm 45 _ (by decide)]
  exact w7
theorem DAYM_f {N : mM} (hf : FM M) (hn : (n : Int) ≤ gi M 35 37) (hfe : fe n M N) (h55 : gi N 35 55 = gi M 35 55) (hg : ∀ a i, (a = 65 ∨ (67 ≤ a ∧ a ≤ 70)) → gi N a i = gi M a i) (h : DAYM M n W) : DAYM N n W := by
  have hD := dyD hf hn hfe
  obtain ⟨h1, h2, h3⟩ := h
  refine ⟨fun c t hc ht => ?_, ?_, ?_⟩
  · rw [hD, hg 65 _ (by omega)]; exact h1 c t hc ht
  · rw [hD, h55]; exact h2
  · rw [hD]; exact SHL_eq (fun a i q1 q2 => hg a i (by omega)) h3
theorem y_many_loop (hT : TI M) (hd : DAYM M n W) (hn : (n : Int) ≤ gi M 35 37) (hw : YW M sd R c me mt) (wv : Nat → Int) (hwv : ∀ k, k < cnt (dy M n) W 288 → wv k = wgh me mt (enP M (dy M n) W k) R 0 0) (q : Nat → Bool) (hq : ∀ k, k < cnt (dy M n) W 288 → q k = decide (wv k ≠ 0))
    (a4 a5 a6 : mV) (hQ : ∀ N, YF skS M N → WP (mc (d + 5)) tX12_plan 44 [vr (some 35), vi (n : Nat), vi (ctp q (cnt (dy M n) W 288) : Nat), vi (cnt (dy M n) W 288 : Nat), a4, a5, a6] [] N Q) :
    ∀ (r k : Nat) (N : mM), k + r = cnt (dy M n) W 288 → YF skS M N → WP (mc (d + 5)) tX12_plan 19 [vr (some 35), vi (n : Nat), vi (ctp q k : Nat), vi (k : Nat), a4, a5, a6] [] N Q := by
  have h := hT.1
  have hf := hT.2.2.2.1
  have i1 := hT.2.1
  have c6 := cnt_600 hf hn W
  have i37 := i1.2.2.1
  intro r
  induction r with
  | zero =>
    intro k N hr hN
    have hNs := YF_SH hN h
    have g55 : gi N 35 55 = (cnt (dy M n) W 288 : Nat) := by rw [hN.2 35 55 (by unfold skS; omega)]; exact hd.2.1
    have e : k = cnt (dy M n) W 288 := by omega
    rw [eX12_plan_19, e]
    simp only [↓eX12_plan_20, ↓eX12_plan_21, ↓eX12_plan_24, hk35 hNs, g55, Int.le_refl, Int.cast_ofNat_Int, kd_si, gr_si, ln_si, gi_same, gi_na, gi_ni, nl_i, nl_r, nl_j, nj_i, nj_l, nj_r, true_and, and_true, and_self, cs_0, cs_1, cs_2, cs_3, cs_4, ↓reduceIte, Nat.reduceLeDiff, Nat.reduceEqDiff, Nat.reduceAdd, Int.reduceLE, Int.reduceLT, Int.reduceEq, Int.reduceAdd, Int.reduceNeg, Int.reduceToNat, Int.toNat_natCast, ne_eq, not_false_eq_true, not_true_eq_false, or_true, true_or, or_false, false_or]
    exact hQ N hN
  | succ r ih =>
    intro k N hr hN
    have hk : k < cnt (dy M n) W 288 := by omega
    have hNs := YF_SH hN h
    have tN := TI_sk hN hT
    have o : ∀ a i, a ≠ 25 → a ≠ 30 → a ≠ 71 → gi N a i = gi M a i := fun a i q1 q2 q3 => hN.2 a i (by unfold skS; omega)
    have g55 : gi N 35 55 = (cnt (dy M n) W 288 : Nat) := by rw [o 35 55 (by decide) (by decide) (by decide)]; exact hd.2.1
    have fen : fe n M N := ⟨fun a k h1 h2 _ => o a k (by omega) (by omega) (by omega), fun s _ => o 55 s (by decide) (by decide) (by decide)⟩
    have hD := dyD hf hn fen
    have e1 : (((cnt (dy M n) W 288 : Nat) : Int) ≤ (k : Int)) = False := eq_false (by omega)
    have e2 : wr ((k : Int) + 1) = ((k + 1 : Nat) : Int) := by rw [wr_id (by omega) (by omega)]; omega
    have ck : ctp q k ≤ k := by
      clear hN hNs tN o g55 fen hD e1 e2 hr hk ih
      induction k with
      | zero => exact Nat.le_refl _
      | succ k ih => rw [ctp]; split <;> omega
    have e3 : wr (((ctp q k : Nat) : Int) + 1) = ((ctp q k + 1 : Nat) : Int) := by
      rw [wr_id (by omega) (by omega)]; omega
    have b9w : b9 (wv k) := by rw [hwv k hk]; exact wgh_bd hw.2.2.2.2.2.2.2 R 0 0 (by omega) ⟨by decide, by decide⟩
    have b0 := b9w.1
    have ew : wgh me mt (enP N (dy N n) W k) R 0 0 = wv k := by rw [hwv k hk, hD, (enP_fe hf hn fen hk).1]
    have wg := y_wt (d := d) (k := k) (M := N) (Q := fun v P => v ≠ vj ∧ WP (mc (d + 5)) tX12_plan 32 [vr (some 35), vi (n : Nat), vi (ctp q k : Nat), vi (k : Nat), a4, a5, a6] [v] P Q) tN (DAYM_f hf hn fen (o 35 55 (by decide) (by decide) (by decide)) (fun a i h => o a i (by omega) (by omega) (by omega)) hd) (by rw [o 35 37 (by decide) (by decide) (by decide)]; exact hn) (YW_f (o 35 18 (by decide) (by decide) (by decide)) (fun a i h => o a i (by omega) (by omega) (by omega)) hw) (by rw [hD]; exact hk) (fun P dP => ⟨(fun x => by cases x), by
      have hP : YF skS M P := YF_trans hN (YF_mono (fun a i w => Or.inr (Or.inr w)) (YF_DF dP))
      rw [ew]
      by_cases z : wv k = 0
      · have qk : ¬ q k = true := by rw [hq k hk]; simp [z]
        have cc : ctp q (k + 1) = ctp q k := by rw [ctp, if_neg qk]; rfl
        have nxt := ih (k + 1) P (by omega) hP
        rw [cc] at nxt
        rw [z]
        simp only [↓eX12_plan_32, ↓eX12_plan_35, ↓eX12_plan_38, ↓eX12_plan_41, e2, Int.le_refl, Int.cast_ofNat_Int, kd_si, gr_si, ln_si, gi_same, gi_na, gi_ni, nl_i, nl_r, nl_j, nj_i, nj_l, nj_r, true_and, and_true, and_self, cs_0, cs_1, cs_2, cs_3, cs_4, ↓reduceIte, Nat.reduceLeDiff, Nat.reduceEqDiff, Nat.reduceAdd, Int.reduceLE, Int.reduceLT, Int.reduceEq, Int.reduceAdd, Int.reduceNeg, Int.reduceToNat, Int.toNat_natCast, ne_eq, not_false_eq_true, not_true_eq_false, or_true, true_or, or_false, false_or]
        exact nxt
      · have qk : q k = true := by rw [hq k hk]; exact decide_eq_true z
        have cc : ctp q (k + 1) = ctp q k + 1 := by rw [ctp, if_pos qk]
        have z' : (wv k ≤ 0) = False := eq_false (by omega)
        have nxt := ih (k + 1) P (by omega) hP
        rw [cc] at nxt
        simp only [↓eX12_plan_32, ↓eX12_plan_35, ↓eX12_plan_38, ↓eX12_plan_41, e2, e3, z', Int.cast_ofNat_Int, kd_si, gr_si, ln_si, gi_same, gi_na, gi_ni, nl_i, nl_r, nl_j, nj_i, nj_l, nj_r, true_and, and_true, and_self, cs_0, cs_1, cs_2, cs_3, cs_4, ↓reduceIte, Nat.reduceLeDiff, Nat.reduceEqDiff, Nat.reduceAdd, Int.reduceLE, Int.reduceLT, Int.reduceEq, Int.reduceAdd, Int.reduceNeg, Int.reduceToNat, Int.toNat_natCast, ne_eq, not_false_eq_true, not_true_eq_false, or_true, true_or, or_false, false_or]
        exact nxt⟩)
    rw [eX12_plan_19]
    simp only [↓eX12_plan_20, ↓eX12_plan_21, ↓eX12_plan_24, ↓eX12_plan_27, ↓eX12_plan_28, ↓eX12_plan_29, hk35 hNs, g55, e1, Int.cast_ofNat_Int, kd_si, gr_si, ln_si, gi_same, gi_na, gi_ni, nl_i, nl_r, nl_j, nj_i, nj_l, nj_r, true_and, and_true, and_self, cs_0, cs_1, cs_2, cs_3, cs_4, ↓reduceIte, Nat.reduceLeDiff, Nat.reduceEqDiff, Nat.reduceAdd, Int.reduceLE, Int.reduceLT, Int.reduceEq, Int.reduceAdd, Int.reduceNeg, Int.reduceToNat, Int.toNat_natCast, ne_eq, not_false_eq_true, not_true_eq_false, or_true, true_or, or_false, false_or]
    exact wg
end MANY
