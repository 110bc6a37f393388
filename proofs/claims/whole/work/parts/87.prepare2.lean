def prS (n : Nat) (cl : Nat → Nat) (a i : Nat) : Prop := (i = 9 ∨ i = 10 ∨ (14 ≤ i ∧ i ≤ 17)) ∧ ∃ j, j < n ∧ a = cl j
section PREP2
variable {d p n h nh : Nat} {B : mM} {Q : mV → mM → Prop} {cl ch : Nat → Nat} {hin : Nat → Bool} {hf h1 h2 h3 h4 f1 f2 f3 f4 lo wt fr un way : Nat → Int} {may : Nat → Bool} {now : Int}
/-- what gather left of a candidate -/
def CG (B : mM) (n : Nat) (cl : Nat → Nat) (f1 f2 f3 f4 lo wt fr un : Nat → Int) : Prop := ∀ j, j < n → (gi B (cl j) 1 = f1 j ∧ gi B (cl j) 2 = f2 j ∧ gi B (cl j) 3 = f3 j ∧ gi B (cl j) 4 = f4 j) ∧ gi B (cl j) 5 = lo j ∧ gi B (cl j) 6 = wt j ∧ gi B (cl j) 7 = fr j ∧ gi B (cl j) 8 = un j
def CP9 (N : mM) (n : Nat) (cl : Nat → Nat) (lo wt fr un way : Nat → Int) (may : Nat → Bool) (k : Nat) : Prop := ∀ j, k ≤ j → j < n → gi N (cl j) 9 = way j ∧ gi N (cl j) 10 = bi (may j) ∧ gi N (cl j) 14 = (mkb (eoq fr un j) j : Nat) ∧ gi N (cl j) 15 = (mkb (ebq lo j) j : Nat) ∧ gi N (cl j) 16 = ahd way (n - j) j ∧ gi N (cl j) 17 = ahd (may0 may wt) (n - j) j
theorem x_pr_loop (hs : SH B) (hC : CB B p n cl) (hG : CG B n cl f1 f2 f3 f4 lo wt fr un) (hH : HP B h nh ch hin hf h1 h2 h3 h4) (hap : ∀ i j, i < nh → j < n → ch i ≠ cl j) (hS : SN n wt fr un way) (hw : ∀ j, j < n → way j = if ff (uwq hin hf h1 h2 h3 h4 now (f1 j) (f2 j) (f3 j) (f4 j)) nh 0 ≠ -1 then 1 else 0) (hm : ∀ j, j < n → may j = decide (way j = 1 ∨ now ≤ fr j))
    (hQ : ∀ N, YF (prS n cl) B N → CP9 N n cl lo wt fr un way may 0 → Q vj N) :
    ∀ (k : Nat) (N : mM) (a6 : mV), k ≤ n → YF (prS n cl) B N → CP9 N n cl lo wt fr un way may k → WP (mc (d + 2)) tX4_prepare 13 [vr (some p), vr (some h), vi now, vi (ahd way (n - k) k), vi (ahd (may0 may wt) (n - k) k), vi ((k : Int) - 1), a6] [] N Q := by
  have hC' := hC
  obtain ⟨hp, hn, h0, hc, hinj⟩ := hC'
  obtain ⟨k1, k2, k3, k4⟩ := CB_p (n := n) (cl := cl) hs hp
  obtain ⟨hCh, hHh⟩ := hH
  obtain ⟨hph, hnh, h0h, hch, hinjh⟩ := hCh
  obtain ⟨kh, -⟩ := CB_p (n := nh) (cl := ch) hs hph
  intro k
  induction k with
  | zero =>
    intro N a6 hk hN hA
    have e : (((0 : Nat) : Int) - 1 < 0) = True := eq_true (by omega)
    rw [eX4_prepare_13]
    simp only [↓eX4_prepare_15, ↓eX4_prepare_135, e, Int.cast_ofNat_Int, kd_si, gr_si, ln_si, gi_same, gi_na, gi_ni, nl_i, nl_r, nl_j, nj_i, nj_l, nj_r, true_and, and_true, and_self, cs_0, cs_1, cs_2, cs_3, cs_4, ↓reduceIte, Nat.reduceLeDiff, Nat.reduceEqDiff, Nat.reduceAdd, Int.reduceLE, Int.reduceLT, Int.reduceEq, Int.reduceAdd, Int.reduceNeg, Int.reduceToNat, Int.toNat_natCast, ne_eq, not_false_eq_true, not_true_eq_false, or_true, true_or, or_false, false_or]
    exact hQ N hN hA
  | succ k ih =>
    intro N a6 hk hN hA
    have hkn : k < n := by omega
    have e0 : (((k + 1 : Nat) : Int) - 1) = (k : Nat) := by omega
    have e1 : (((k : Nat) : Int) < 0) = False := eq_false (by omega)
    have e2 : wr ((k : Int) + (-1)) = (k : Int) - 1 := by rw [wr_id (by omega) (by omega)]; omega
    obtain ⟨c1, c2, c3⟩ := hc k hkn
    obtain ⟨⟨g1, g2, g3, g4⟩, g5, g6, g7, g8⟩ := hG k hkn
    have gk : ∀ a m, ¬ (m = 9 ∨ m = 10 ∨ (14 ≤ m ∧ m ≤ 17)) → gi N a m = gi B a m := fun a m q => hN.2 a m (fun w => q w.1)
    have hNs := YF_SH hN hs
    have kN : kd N p = 4 := by rw [YF_k hN]; exact k1
    have khN : kd N h = 4 := by rw [YF_k hN]; exact kh
    have kx : kd N (cl k) = 0 := by rw [YF_k hN]; exact c2
    have hCN := CB_f hN.1 (gk p 0 (by omega)) hC
    have fa := fun (Q : mV → mM → Prop) => x_cat (d := d + 1) (N := N) (Q := Q) (p := p) (n := n) (cl := cl) (j := k) hNs hCN hkn
    have hHN : HP N h nh ch hin hf h1 h2 h3 h4 := ⟨CB_f hN.1 (gk h 0 (by omega)) ⟨hph, hnh, h0h, hch, hinjh⟩, fun i hi => by
      rw [gk _ 11 (by omega), gk _ 7 (by omega), gk _ 1 (by omega), gk _ 2 (by omega), gk _ 3 (by omega), gk _ 4 (by omega)]
      exact hHh i hi⟩
    have fu := fun (Q : mV → mM → Prop) => x_hasUnderWay (d := d) (N := N) (Q := Q) hNs hHN kx (now := now)
    rw [gk _ 1 (by omega), gk _ 2 (by omega), gk _ 3 (by omega), gk _ 4 (by omega), g1, g2, g3, g4] at fu
    have n7 : gi N (cl k) 7 = fr k := by rw [gk _ 7 (by omega)]; exact g7
    have n6 : gi N (cl k) 6 = wt k := by rw [gk _ 6 (by omega)]; exact g6
    have sn := hS k hkn
    have bd := ahd_bd (f := way) (b := 1) (n := n) (n - (k + 1)) (k + 1) (by omega) (fun j h1 h2 => by have := (hS j h2).2.2; omega)
    have bd2 := ahd_bd (f := may0 may wt) (b := 9999) (n := n) (n - (k + 1)) (k + 1) (by omega) (fun j h1 h2 => by
      have := (hS j h2).1
      unfold may0
      split <;> omega)
    have a1 : ahd way (n - k) k = way k + ahd way (n - (k + 1)) (k + 1) := by rw [show n - k = (n - (k + 1)) + 1 by omega]; rfl
    have a2 : ahd (may0 may wt) (n - k) k = may0 may wt k + ahd (may0 may wt) (n - (k + 1)) (k + 1) := by rw [show n - k = (n - (k + 1)) + 1 by omega]; rfl
    have hmk := hm k hkn
    have hwk := hw k hkn
    -- the rest, once the two marks are known
    have nxt : ∀ w m : Int, w = way k → m = bi (may k) → WP (mc (d + 2)) tX4_prepare 121 [vr (some p), vr (some h), vi now, vi (ahd way (n - k) k), vi (ahd (may0 may wt) (n - k) k), vi (k : Nat), vr (some (cl k))] [] (si (si (si (si N (cl k) 9 w) (cl k) 10 m) (cl k) 16 (ahd way (n - k) k)) (cl k) 17 (ahd (may0 may wt) (n - k) k)) Q := fun w m hw' hm' => by
      have hP : YF (prS n cl) B (si (si (si (si N (cl k) 9 w) (cl k) 10 m) (cl k) 16 (ahd way (n - k) k)) (cl k) 17 (ahd (may0 may wt) (n - k) k)) := YF_si ⟨by omega, k, hkn, rfl⟩ (YF_si ⟨by omega, k, hkn, rfl⟩ (YF_si ⟨by omega, k, hkn, rfl⟩ (YF_si ⟨by omega, k, hkn, rfl⟩ hN)))
      have gP : ∀ a m', ¬ (m' = 9 ∨ m' = 10 ∨ (14 ≤ m' ∧ m' ≤ 17)) → gi (si (si (si (si N (cl k) 9 w) (cl k) 10 m) (cl k) 16 (ahd way (n - k) k)) (cl k) 17 (ahd (may0 may wt) (n - k) k)) a m' = gi B a m' := fun a m' q => hP.2 a m' (fun w => q w.1)
      have fm := fun (Q : mV → mM → Prop) => x_markEarlier (d := d) (N := si (si (si (si N (cl k) 9 w) (cl k) 10 m) (cl k) 16 (ahd way (n - k) k)) (cl k) 17 (ahd (may0 may wt) (n - k) k)) (Q := Q) (p := p) (n := n) (cl := cl) (fr := fr) (un := un) (lo := lo) (YF_SH hP hs) (CB_f hP.1 (gP p 0 (by omega)) hC) (fun j hj => by
        obtain ⟨-, q5, q6, q7, q8⟩ := hG j hj
        rw [gP _ 5 (by omega), gP _ 7 (by omega), gP _ 8 (by omega)]
        exact ⟨q5, q7, q8⟩) hkn
      have hM : YF (prS n cl) B (meM (si (si (si (si N (cl k) 9 w) (cl k) 10 m) (cl k) 16 (ahd way (n - k) k)) (cl k) 17 (ahd (may0 may wt) (n - k) k)) (cl k) (mkb (eoq fr un k) k : Nat) (mkb (ebq lo k) k : Nat)) := YF_si ⟨by omega, k, hkn, rfl⟩ (YF_si ⟨by omega, k, hkn, rfl⟩ hP)
      have fin := ih _ (vr (some (cl k))) (by omega) hM (fun j hj1 hj2 => by
        by_cases q : j = k
        · subst q
          refine ⟨?_, ?_, ?_, ?_, ?_, ?_⟩
          · rw [gi_meo (by omega), gi_ni (by decide), gi_ni (by decide), gi_ni (by decide), gi_same]; exact hw'
          · rw [gi_meo (by omega), gi_ni (by decide), gi_ni (by decide), gi_same]; exact hm'
          · exact gi_me14
          · exact gi_me15
          · rw [gi_meo (by omega), gi_ni (by decide), gi_same]
          · rw [gi_meo (by omega), gi_same]
        · have ne : cl j ≠ cl k := fun w => q (hinj j k hj2 hkn w)
          have o : ∀ m', gi (meM (si (si (si (si N (cl k) 9 w) (cl k) 10 m) (cl k) 16 (ahd way (n - k) k)) (cl k) 17 (ahd (may0 may wt) (n - k) k)) (cl k) (mkb (eoq fr un k) k : Nat) (mkb (ebq lo k) k : Nat)) (cl j) m' = gi N (cl j) m' := fun m' => by
            unfold meM
            rw [gi_na ne, gi_na ne, gi_na ne, gi_na ne, gi_na ne, gi_na ne]
          rw [o, o, o, o, o, o]
          exact hA j (by omega) hj2)
      simp only [↓eX4_prepare_121, ↓eX4_prepare_122, ↓eX4_prepare_124, ↓eX4_prepare_126, ↓eX4_prepare_129, ↓eX4_prepare_132, kd_si, kN, ↓fm, e2, Int.cast_ofNat_Int, kd_si, gr_si, ln_si, gi_same, gi_na, gi_ni, nl_i, nl_r, nl_j, nj_i, nj_l, nj_r, true_and, and_true, and_self, cs_0, cs_1, cs_2, cs_3, cs_4, ↓reduceIte, Nat.reduceLeDiff, Nat.reduceEqDiff, Nat.reduceAdd, Int.reduceLE, Int.reduceLT, Int.reduceEq, Int.reduceAdd, Int.reduceNeg, Int.reduceToNat, Int.toNat_natCast, ne_eq, not_false_eq_true, not_true_eq_false, or_true, true_or, or_false, false_or]
      exact fin
    rw [eX4_prepare_13, e0]
    by_cases q : ff (uwq hin hf h1 h2 h3 h4 now (f1 k) (f2 k) (f3 k) (f4 k)) nh 0 ≠ -1
    · simp only [if_pos q] at fu
      rw [if_pos q] at hwk
      have hmt : may k = true := by rw [hmk]; exact decide_eq_true (Or.inl hwk)
      have m0 : may0 may wt k = wt k := by unfold may0; rw [if_pos hmt]
      have v1 : wr (ahd way (n - (k + 1)) (k + 1) + 1) = ahd way (n - k) k := by rw [a1, hwk, wr_id (by omega) (by omega)]; omega
      have v2 : wr (ahd (may0 may wt) (n - (k + 1)) (k + 1) + wt k) = ahd (may0 may wt) (n - k) k := by rw [a2, m0, wr_id (by omega) (by omega)]; omega
      have fin := nxt 1 1 hwk.symm (by rw [hmt]; rfl)
      simp only [↓eX4_prepare_15, ↓eX4_prepare_18, ↓eX4_prepare_19, ↓eX4_prepare_21, ↓eX4_prepare_24, ↓eX4_prepare_26, ↓eX4_prepare_28, ↓eX4_prepare_31, ↓eX4_prepare_33, ↓eX4_prepare_34, ↓eX4_prepare_36, ↓eX4_prepare_37, ↓eX4_prepare_40, ↓eX4_prepare_43, ↓eX4_prepare_45, ↓eX4_prepare_47, ↓eX4_prepare_50, ↓eX4_prepare_53, ↓eX4_prepare_55, ↓eX4_prepare_58, ↓eX4_prepare_59, ↓eX4_prepare_62, ↓eX4_prepare_63, ↓eX4_prepare_66, ↓eX4_prepare_67, ↓eX4_prepare_70, ↓eX4_prepare_71, ↓eX4_prepare_73, ↓eX4_prepare_76, ↓eX4_prepare_79, ↓eX4_prepare_80, ↓eX4_prepare_83, ↓eX4_prepare_84, ↓eX4_prepare_85, ↓eX4_prepare_86, ↓eX4_prepare_88, ↓eX4_prepare_90, ↓eX4_prepare_93, ↓eX4_prepare_96, ↓eX4_prepare_98, ↓eX4_prepare_101, ↓eX4_prepare_104, ↓eX4_prepare_105, ↓eX4_prepare_106, ↓eX4_prepare_108, ↓eX4_prepare_110, ↓eX4_prepare_111, ↓eX4_prepare_114, ↓eX4_prepare_116, ↓eX4_prepare_118, e1, kN, khN, kx, ↓fa, ↓fu, n6, n7, v1, v2, reduceCtorEq, Int.cast_ofNat_Int, kd_si, gr_si, ln_si, gi_same, gi_na, gi_ni, nl_i, nl_r, nl_j, nj_i, nj_l, nj_r, true_and, and_true, and_self, cs_0, cs_1, cs_2, cs_3, cs_4, ↓reduceIte, Nat.reduceLeDiff, Nat.reduceEqDiff, Nat.reduceAdd, Int.reduceLE, Int.reduceLT, Int.reduceEq, Int.reduceAdd, Int.reduceNeg, Int.reduceToNat, Int.toNat_natCast, ne_eq, not_false_eq_true, not_true_eq_false, or_true, true_or, or_false, false_or]
      exact fin
    · simp only [if_neg q] at fu
      rw [if_neg q] at hwk
      have v1 : wr (ahd way (n - (k + 1)) (k + 1) + 0) = ahd way (n - k) k := by rw [a1, hwk, wr_id (by omega) (by omega)]; omega
      by_cases y : fr k < now
      · have hmt : may k = false := by rw [hmk]; exact decide_eq_false (by omega)
        have m0 : may0 may wt k = 0 := by unfold may0; rw [if_neg (by rw [hmt]; decide)]
        have v2 : wr (ahd (may0 may wt) (n - (k + 1)) (k + 1) + 0) = ahd (may0 may wt) (n - k) k := by rw [a2, m0, wr_id (by omega) (by omega)]; omega
        have fin := nxt 0 0 hwk.symm (by rw [hmt]; rfl)
        simp only [↓eX4_prepare_15, ↓eX4_prepare_18, ↓eX4_prepare_19, ↓eX4_prepare_21, ↓eX4_prepare_24, ↓eX4_prepare_26, ↓eX4_prepare_28, ↓eX4_prepare_31, ↓eX4_prepare_33, ↓eX4_prepare_34, ↓eX4_prepare_36, ↓eX4_prepare_37, ↓eX4_prepare_40, ↓eX4_prepare_43, ↓eX4_prepare_45, ↓eX4_prepare_47, ↓eX4_prepare_50, ↓eX4_prepare_53, ↓eX4_prepare_55, ↓eX4_prepare_58, ↓eX4_prepare_59, ↓eX4_prepare_62, ↓eX4_prepare_63, ↓eX4_prepare_66, ↓eX4_prepare_67, ↓eX4_prepare_70, ↓eX4_prepare_71, ↓eX4_prepare_73, ↓eX4_prepare_76, ↓eX4_prepare_79, ↓eX4_prepare_80, ↓eX4_prepare_83, ↓eX4_prepare_84, ↓eX4_prepare_85, ↓eX4_prepare_86, ↓eX4_prepare_88, ↓eX4_prepare_90, ↓eX4_prepare_93, ↓eX4_prepare_96, ↓eX4_prepare_98, ↓eX4_prepare_101, ↓eX4_prepare_104, ↓eX4_prepare_105, ↓eX4_prepare_106, ↓eX4_prepare_108, ↓eX4_prepare_110, ↓eX4_prepare_111, ↓eX4_prepare_114, ↓eX4_prepare_116, ↓eX4_prepare_118, e1, kN, khN, kx, ↓fa, ↓fu, n6, n7, y, v1, v2, reduceCtorEq, Int.cast_ofNat_Int, kd_si, gr_si, ln_si, gi_same, gi_na, gi_ni, nl_i, nl_r, nl_j, nj_i, nj_l, nj_r, true_and, and_true, and_self, cs_0, cs_1, cs_2, cs_3, cs_4, ↓reduceIte, Nat.reduceLeDiff, Nat.reduceEqDiff, Nat.reduceAdd, Int.reduceLE, Int.reduceLT, Int.reduceEq, Int.reduceAdd, Int.reduceNeg, Int.reduceToNat, Int.toNat_natCast, ne_eq, not_false_eq_true, not_true_eq_false, or_true, true_or, or_false, false_or]
        exact fin
      · have hmt : may k = true := by rw [hmk]; exact decide_eq_true (by omega)
        have m0 : may0 may wt k = wt k := by unfold may0; rw [if_pos hmt]
        have v2 : wr (ahd (may0 may wt) (n - (k + 1)) (k + 1) + wt k) = ahd (may0 may wt) (n - k) k := by rw [a2, m0, wr_id (by omega) (by omega)]; omega
        have fin := nxt 0 1 hwk.symm (by rw [hmt]; rfl)
        simp only [↓eX4_prepare_15, ↓eX4_prepare_18, ↓eX4_prepare_19, ↓eX4_prepare_21, ↓eX4_prepare_24, ↓eX4_prepare_26, ↓eX4_prepare_28, ↓eX4_prepare_31, ↓eX4_prepare_33, ↓eX4_prepare_34, ↓eX4_prepare_36, ↓eX4_prepare_37, ↓eX4_prepare_40, ↓eX4_prepare_43, ↓eX4_prepare_45, ↓eX4_prepare_47, ↓eX4_prepare_50, ↓eX4_prepare_53, ↓eX4_prepare_55, ↓eX4_prepare_58, ↓eX4_prepare_59, ↓eX4_prepare_62, ↓eX4_prepare_63, ↓eX4_prepare_66, ↓eX4_prepare_67, ↓eX4_prepare_70, ↓eX4_prepare_71, ↓eX4_prepare_73, ↓eX4_prepare_76, ↓eX4_prepare_79, ↓eX4_prepare_80, ↓eX4_prepare_83, ↓eX4_prepare_84, ↓eX4_prepare_85, ↓eX4_prepare_86, ↓eX4_prepare_88, ↓eX4_prepare_90, ↓eX4_prepare_93, ↓eX4_prepare_96, ↓eX4_prepare_98, ↓eX4_prepare_101, ↓eX4_prepare_104, ↓eX4_prepare_105, ↓eX4_prepare_106, ↓eX4_prepare_108, ↓eX4_prepare_110, ↓eX4_prepare_111, ↓eX4_prepare_114, ↓eX4_prepare_116, ↓eX4_prepare_118, e1, kN, khN, kx, ↓fa, ↓fu, n6, n7, y, v1, v2, reduceCtorEq, Int.cast_ofNat_Int, kd_si, gr_si, ln_si, gi_same, gi_na, gi_ni, nl_i, nl_r, nl_j, nj_i, nj_l, nj_r, true_and, and_true, and_self, cs_0, cs_1, cs_2, cs_3, cs_4, ↓reduceIte, Nat.reduceLeDiff, Nat.reduceEqDiff, Nat.reduceAdd, Int.reduceLE, Int.reduceLT, Int.reduceEq, Int.reduceAdd, Int.reduceNeg, Int.reduceToNat, Int.toNat_natCast, ne_eq, not_false_eq_true, not_true_eq_false, or_true, true_or, or_false, false_or]
        exact fin
theorem x_prepare (hs : SH B) (hC : CB B p n cl) (hG : CG B n cl f1 f2 f3 f4 lo wt fr un) (hH : HP B h nh ch hin hf h1 h2 h3 h4) (hap : ∀ i j, i < nh → j < n → ch i ≠ cl j) (hS : SN n wt fr un way) (hw : ∀ j, j < n → way j = if ff (uwq hin hf h1 h2 h3 h4 now (f1 j) (f2 j) (f3 j) (f4 j)) nh 0 ≠ -1 then 1 else 0) (hm : ∀ j, j < n → may j = decide (way j = 1 ∨ now ≤ fr j))
    (hQ : ∀ N, YF (prS n cl) B N → CA N p n cl wt fr un way may (fun i j => decide (lo i = lo j)) → Q vj N) : CP (mc (d + 3)) 37 [vr (some p), vr (some h), vi now] B Q := by
  have hC' := hC
  obtain ⟨hp, hn, h0, hc, hinj⟩ := hC'
  obtain ⟨k1, -⟩ := CB_p (n := n) (cl := cl) hs hp
  have lp := x_pr_loop (d := d) hs hC hG hH hap hS hw hm (fun N hN hA => hQ N hN ⟨hp, hn, by rw [hN.2 p 0 (fun w => by have := w.1; omega)]; exact h0, fun j hj => by
    obtain ⟨-, q5, q6, q7, q8⟩ := hG j hj
    obtain ⟨r9, r10, r14, r15, r16, r17⟩ := hA j (Nat.zero_le j) hj
    obtain ⟨c1, c2, c3⟩ := hc j hj
    have gk : ∀ a m, ¬ (m = 9 ∨ m = 10 ∨ (14 ≤ m ∧ m ≤ 17)) → gi N a m = gi B a m := fun a m q => hN.2 a m (fun w => q w.1)
    refine ⟨⟨by rw [YF_r hN]; exact c1, by rw [YF_k hN]; exact c2, c3⟩, ⟨by rw [gk _ 6 (by omega)]; exact q6, by rw [gk _ 7 (by omega)]; exact q7, by rw [gk _ 8 (by omega)]; exact q8, r9, r10⟩, ⟨_, r14, fun k => mkb_tb _ _ _⟩, ⟨_, r15, fun k => mkb_tb _ _ _⟩, r16, r17⟩⟩) n B vj (Nat.le_refl n) YF_refl (fun j h1 h2 => by omega)
  rw [Nat.sub_self] at lp
  have lp' : WP (mc (d + 2)) tX4_prepare 13 [vr (some p), vr (some h), vi now, vi 0, vi 0, vi ((n : Int) - 1), vj] [] B Q := lp
  have e : wr ((n : Int) - 1) = (n : Int) - 1 := wr_id (by omega) (by omega)
  simp only [↓cpX4_prepare, ↓eX4_prepare_0, ↓eX4_prepare_1, ↓eX4_prepare_2, ↓eX4_prepare_3, ↓eX4_prepare_5, ↓eX4_prepare_6, ↓eX4_prepare_9, ↓eX4_prepare_10, ↓eX4_prepare_11, k1, h0, e, Int.cast_ofNat_Int, kd_si, gr_si, ln_si, gi_same, gi_na, gi_ni, nl_i, nl_r, nl_j, nj_i, nj_l, nj_r, true_and, and_true, and_self, cs_0, cs_1, cs_2, cs_3, cs_4, ↓reduceIte, Nat.reduceLeDiff, Nat.reduceEqDiff, Nat.reduceAdd, Int.reduceLE, Int.reduceLT, Int.reduceEq, Int.reduceAdd, Int.reduceNeg, Int.reduceToNat, Int.toNat_natCast, ne_eq, not_false_eq_true, not_true_eq_false, or_true, true_or, or_false, false_or]
  exact lp'
end PREP2
