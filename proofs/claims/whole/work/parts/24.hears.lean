/-! ===== what a source says: the reference ===== -/
/-- the latest of the first k facts that is a notice of source s on channel c with slot t -/
def hrd (M : mM) (s c : Int) : Nat → Nat → Int
  | 0, _ => -1
  | k + 1, t => if gi M 56 k = 0 ∧ gi M 57 k = s ∧ gi M 58 k = c ∧ gi M 59 k ≤ t ∧ (t : Int) < gi M 60 k then k else hrd M s c k t
theorem sw_eq {M : mM} {a : Nat} {f g : Nat → Int} (h : ∀ j, f j = g j) : sw M a f = sw M a g := by
  rw [show f = g from funext h]
theorem y_hears_A {C : mC} {Q : mV → mM → Prop} {s c n : Int} {a5 : mV} : ∀ (r i : Nat) (M : mM), i + r = 288 → SH M → WP C tX12_hears 3 [vr (some 35), vi s, vi c, vi n, vi i, a5] [] M Q = WP C tX12_hears 25 [vr (some 35), vi s, vi c, vi n, vi 288, a5] [] (sw M 64 (fun j => if i ≤ j ∧ j < 288 then -1 else gi M 64 j)) Q := by
  intro r
  induction r with
  | zero =>
    intro i M hi h
    have e : i = 288 := by omega
    subst e
    simp only [↓eX12_hears_3, ↓eX12_hears_5, ↓eX12_hears_8, Int.cast_ofNat_Int, kd_si, gr_si, ln_si, gi_same, gi_na, gi_ni, nl_i, nl_r, nl_j, nj_i, nj_l, nj_r, true_and, and_true, and_self, cs_0, cs_1, cs_2, cs_3, cs_4, ↓reduceIte, Nat.reduceLeDiff, Nat.reduceEqDiff, Nat.reduceAdd, Int.reduceLE, Int.reduceLT, Int.reduceEq, Int.reduceAdd, Int.reduceNeg, Int.reduceToNat, Int.toNat_natCast, ne_eq, not_false_eq_true, not_true_eq_false, or_true, true_or, or_false, false_or]
    have e2 : (fun j => if 288 ≤ j ∧ j < 288 then (-1 : Int) else gi M 64 j) = fun j => gi M 64 j := by
      funext j
      rw [if_neg (by omega)]
    rw [e2, sw_id]
  | succ r ih =>
    intro i M hi h
    have e : ((288 : Int) ≤ (i : Int)) = False := eq_false (by omega)
    have e0 : 0 ≤ (i : Int) := by omega
    have e1 : (i : Int) < 288 := by omega
    have e2 : wr ((i : Int) + 1) = ((i + 1 : Nat) : Int) := by rw [wr_id (by omega) (by omega)]; omega
    rw [eX12_hears_3]
    simp only [↓eX12_hears_5, ↓eX12_hears_8, ↓eX12_hears_11, ↓eX12_hears_12, ↓eX12_hears_15, ↓eX12_hears_17, ↓eX12_hears_18, ↓eX12_hears_19, ↓eX12_hears_22, e, e0, e1, e2, hk35 h, hr35_52 h, hk64 h, hl64 h, Int.cast_ofNat_Int, kd_si, gr_si, ln_si, gi_same, gi_na, gi_ni, nl_i, nl_r, nl_j, nj_i, nj_l, nj_r, true_and, and_true, and_self, cs_0, cs_1, cs_2, cs_3, cs_4, ↓reduceIte, Nat.reduceLeDiff, Nat.reduceEqDiff, Nat.reduceAdd, Int.reduceLE, Int.reduceLT, Int.reduceEq, Int.reduceAdd, Int.reduceNeg, Int.reduceToNat, Int.toNat_natCast, ne_eq, not_false_eq_true, not_true_eq_false, or_true, true_or, or_false, false_or]
    rw [ih (i + 1) (si M 64 i (-1)) (by omega) h, sw_si]
    congr 1
    refine sw_eq (fun j => ?_)
    by_cases q : j = i
    · subst q
      rw [gi_same, if_neg (by omega), if_pos (by omega)]
    · rw [gi_ni q]
      by_cases q2 : i + 1 ≤ j ∧ j < 288
      · rw [if_pos q2, if_pos (by omega)]
      · rw [if_neg q2, if_neg (by omega)]
theorem y_hears_C {C : mC} {Q : mV → mM → Prop} {s c n : Int} {k u : Nat} (hu : u ≤ 288) (hk : k < 300) : ∀ (r i : Nat) (M : mM), i + r = u → SH M → gi M 60 k = u → WP C tX12_hears 75 [vr (some 35), vi s, vi c, vi n, vi k, vi i] [] M Q = WP C tX12_hears 102 [vr (some 35), vi s, vi c, vi n, vi k, vi u] [] (sw M 64 (fun j => if i ≤ j ∧ j < u then (k : Int) else gi M 64 j)) Q := by
  have k0 : 0 ≤ (k : Int) := by omega
  have k1 : (k : Int) < 300 := by omega
  intro r
  induction r with
  | zero =>
    intro i M hi h hg
    have e : i = u := by omega
    subst e
    simp only [↓eX12_hears_75, ↓eX12_hears_77, ↓eX12_hears_78, ↓eX12_hears_81, ↓eX12_hears_83, ↓eX12_hears_84, k0, k1, hk35 h, hr35_42 h, hk60 h, hl60 h, hg, Int.le_refl, Int.cast_ofNat_Int, kd_si, gr_si, ln_si, gi_same, gi_na, gi_ni, nl_i, nl_r, nl_j, nj_i, nj_l, nj_r, true_and, and_true, and_self, cs_0, cs_1, cs_2, cs_3, cs_4, ↓reduceIte, Nat.reduceLeDiff, Nat.reduceEqDiff, Nat.reduceAdd, Int.reduceLE, Int.reduceLT, Int.reduceEq, Int.reduceAdd, Int.reduceNeg, Int.reduceToNat, Int.toNat_natCast, ne_eq, not_false_eq_true, not_true_eq_false, or_true, true_or, or_false, false_or]
    have e2 : (fun j => if i ≤ j ∧ j < i then (k : Int) else gi M 64 j) = fun j => gi M 64 j := by
      funext j
      rw [if_neg (by omega)]
    rw [e2, sw_id]
  | succ r ih =>
    intro i M hi h hg
    have e : ((u : Int) ≤ (i : Int)) = False := eq_false (by omega)
    have e0 : 0 ≤ (i : Int) := by omega
    have e1 : (i : Int) < 288 := by omega
    have e2 : wr ((i : Int) + 1) = ((i + 1 : Nat) : Int) := by rw [wr_id (by omega) (by omega)]; omega
    rw [eX12_hears_75]
    simp only [↓eX12_hears_77, ↓eX12_hears_78, ↓eX12_hears_81, ↓eX12_hears_83, ↓eX12_hears_84, ↓eX12_hears_87, ↓eX12_hears_88, ↓eX12_hears_91, ↓eX12_hears_93, ↓eX12_hears_95, ↓eX12_hears_96, ↓eX12_hears_99, k0, k1, e, e0, e1, e2, hk35 h, hr35_52 h, hk64 h, hl64 h, hr35_42 h, hk60 h, hl60 h, hg, Int.cast_ofNat_Int, kd_si, gr_si, ln_si, gi_same, gi_na, gi_ni, nl_i, nl_r, nl_j, nj_i, nj_l, nj_r, true_and, and_true, and_self, cs_0, cs_1, cs_2, cs_3, cs_4, ↓reduceIte, Nat.reduceLeDiff, Nat.reduceEqDiff, Nat.reduceAdd, Int.reduceLE, Int.reduceLT, Int.reduceEq, Int.reduceAdd, Int.reduceNeg, Int.reduceToNat, Int.toNat_natCast, ne_eq, not_false_eq_true, not_true_eq_false, or_true, true_or, or_false, false_or]
    rw [ih (i + 1) (si M 64 i k) (by omega) h (by rw [gi_na (by decide)]; exact hg), sw_si]
    congr 1
    refine sw_eq (fun j => ?_)
    by_cases q : j = i
    · subst q
      rw [gi_same, if_neg (by omega), if_pos (by omega)]
    · rw [gi_ni q]
      by_cases q2 : i + 1 ≤ j ∧ j < u
      · rw [if_pos q2, if_pos (by omega)]
      · rw [if_neg q2, if_neg (by omega)]
/-- the reference's facts are such as the calls let in -/
def FM (M : mM) : Prop := ∀ k : Nat, (k : Int) < gi M 35 37 → (gi M 56 k = 0 ∨ gi M 56 k = 1) ∧ (0 ≤ gi M 58 k ∧ gi M 58 k < gi M 35 34) ∧ (gi M 56 k = 0 → (0 ≤ gi M 57 k ∧ gi M 57 k < gi M 35 35) ∧ (0 ≤ gi M 59 k ∧ gi M 59 k < gi M 60 k ∧ gi M 60 k ≤ 288) ∧ (0 ≤ gi M 61 k ∧ gi M 61 k ≤ 31) ∧ (0 ≤ gi M 62 k ∧ gi M 62 k ≤ 31) ∧ (gi M 63 k = 0 ∨ gi M 63 k = 1)) ∧ (gi M 56 k = 1 → (1 ≤ gi M 59 k ∧ gi M 59 k ≤ 287) ∧ 1 ≤ gi M 60 k ∧ gi M 60 k ≤ 48)
theorem y_hears_B {C : mC} {Q : mV → mM → Prop} {s c : Int} {n : Nat} {M : mM} (h : SH M) (hf : FM M) (hn : (n : Int) ≤ gi M 35 37) (h3 : gi M 35 37 ≤ 300) : ∀ (r k : Nat) (a5 : mV), k + r = n → WP C tX12_hears 28 [vr (some 35), vi s, vi c, vi n, vi k, a5] [] (sw M 64 (fun t => if t < 288 then hrd M s c k t else gi M 64 t)) Q = Q vj (sw M 64 (fun t => if t < 288 then hrd M s c n t else gi M 64 t)) := by
  intro r
  induction r with
  | zero =>
    intro k a5 hk
    have e : k = n := by omega
    subst e
    simp only [↓eX12_hears_28, ↓eX12_hears_30, ↓eX12_hears_31, eX12_hears_108, Int.le_refl, Int.cast_ofNat_Int, kd_si, gr_si, ln_si, gi_same, gi_na, gi_ni, nl_i, nl_r, nl_j, nj_i, nj_l, nj_r, true_and, and_true, and_self, cs_0, cs_1, cs_2, cs_3, cs_4, ↓reduceIte, Nat.reduceLeDiff, Nat.reduceEqDiff, Nat.reduceAdd, Int.reduceLE, Int.reduceLT, Int.reduceEq, Int.reduceAdd, Int.reduceNeg, Int.reduceToNat, Int.toNat_natCast, ne_eq, not_false_eq_true, not_true_eq_false, or_true, true_or, or_false, false_or]
  | succ r ih =>
    intro k a5 hk
    have e : ((n : Int) ≤ (k : Int)) = False := eq_false (by omega)
    have k0 : 0 ≤ (k : Int) := by omega
    have k1 : (k : Int) < 300 := by omega
    have e2 : wr ((k : Int) + 1) = ((k + 1 : Nat) : Int) := by rw [wr_id (by omega) (by omega)]; omega
    obtain ⟨f1, f2, f3, -⟩ := hf k (by omega)
    have key : ∀ a5 : mV, WP C tX12_hears 102 [vr (some 35), vi s, vi c, vi n, vi k, a5] [] (sw M 64 (fun t => if t < 288 then hrd M s c (k + 1) t else gi M 64 t)) Q = Q vj (sw M 64 (fun t => if t < 288 then hrd M s c n t else gi M 64 t)) := by
      intro a5
      rw [eX12_hears_102 (nlI _ : nl (vi n)), e2, eX12_hears_105]
      exact ih (k + 1) a5 (by omega)
    rw [eX12_hears_28]
    simp only [↓eX12_hears_30, ↓eX12_hears_31, ↓eX12_hears_34, ↓eX12_hears_35, ↓eX12_hears_38, ↓eX12_hears_40, ↓eX12_hears_41, ↓eX12_hears_44, ↓eX12_hears_45, ↓eX12_hears_48, ↓eX12_hears_50, ↓eX12_hears_51, ↓eX12_hears_52, ↓eX12_hears_55, ↓eX12_hears_56, ↓eX12_hears_59, ↓eX12_hears_61, ↓eX12_hears_62, ↓eX12_hears_63, ↓eX12_hears_66, ↓eX12_hears_67, ↓eX12_hears_70, ↓eX12_hears_72, ↓eX12_hears_73, e, k0, k1, hk35 h, hr35_38 h, hk56 h, hl56 h, hr35_39 h, hk57 h, hl57 h, hr35_40 h, hk58 h, hl58 h, hr35_41 h, hk59 h, hl59 h, kd_sw, gr_sw, ln_sw, gi_swn, Int.cast_ofNat_Int, kd_si, gr_si, ln_si, gi_same, gi_na, gi_ni, nl_i, nl_r, nl_j, nj_i, nj_l, nj_r, true_and, and_true, and_self, cs_0, cs_1, cs_2, cs_3, cs_4, ↓reduceIte, Nat.reduceLeDiff, Nat.reduceEqDiff, Nat.reduceAdd, Int.reduceLE, Int.reduceLT, Int.reduceEq, Int.reduceAdd, Int.reduceNeg, Int.reduceToNat, Int.toNat_natCast, ne_eq, not_false_eq_true, not_true_eq_false, or_true, true_or, or_false, false_or]
    by_cases q : gi M 56 k = 0 ∧ gi M 57 k = s ∧ gi M 58 k = c
    · rw [if_pos q.1, if_pos q.2.1, if_pos q.2.2]
      obtain ⟨-, ⟨g1, g2, g3⟩, -⟩ := f3 q.1
      obtain ⟨i, hi⟩ : ∃ i : Nat, gi M 59 k = i := ⟨(gi M 59 k).toNat, by omega⟩
      obtain ⟨u, hu⟩ : ∃ u : Nat, gi M 60 k = u := ⟨(gi M 60 k).toNat, by omega⟩
      have hc := y_hears_C (C := C) (Q := Q) (s := s) (c := c) (n := n) (k := k) (u := u) (by omega) (by omega) (u - i) i (sw M 64 (fun t => if t < 288 then hrd M s c k t else gi M 64 t)) (by omega) h (by rw [gi_swn (by decide)]; exact hu)
      rw [hi, hc, sw_sw]
      refine Eq.trans ?_ (key (vi u))
      congr 1
      refine sw_eq (fun j => ?_)
      rw [gi_sws, hrd]
      by_cases z : i ≤ j ∧ j < u
      · rw [if_pos z, if_pos (by omega), if_pos ⟨q.1, q.2.1, q.2.2, by omega, by omega⟩]
      · rw [if_neg z]
        by_cases z2 : j < 288
        · rw [if_pos z2, if_pos z2, if_neg (by omega)]
        · rw [if_neg z2, if_neg z2]
    · have e3 : (fun t : Nat => if t < 288 then hrd M s c (k + 1) t else gi M 64 t) = fun t => if t < 288 then hrd M s c k t else gi M 64 t := by
        have hno : ∀ t, hrd M s c (k + 1) t = hrd M s c k t := fun t => by
          rw [hrd]
          exact if_neg (fun w => q ⟨w.1, w.2.1, w.2.2.1⟩)
        funext t
        rw [hno]
      rw [e3] at key
      by_cases q1 : gi M 56 k = 0
      · rw [if_pos q1]
        by_cases q2 : gi M 57 k = s
        · rw [if_pos q2, if_neg (fun w => q ⟨q1, q2, w⟩)]
          exact key a5
        · rw [if_neg q2]
          exact key a5
      · rw [if_neg q1]
        exact key a5
theorem y_hears {d : Nat} {M : mM} {Q : mV → mM → Prop} {s c : Int} {n : Nat} (h : SH M) (hf : FM M) (hn : (n : Int) ≤ gi M 35 37) (h3 : gi M 35 37 ≤ 300) : CP (mc (d + 1)) 155 [vr (some 35), vi s, vi c, vi n] M Q = Q vj (sw M 64 (fun t => if t < 288 then hrd M s c n t else gi M 64 t)) := by
  simp only [↓cpX12_hears, ↓eX12_hears_0, ↓eX12_hears_1, Int.cast_ofNat_Int, kd_si, gr_si, ln_si, gi_same, gi_na, gi_ni, nl_i, nl_r, nl_j, nj_i, nj_l, nj_r, true_and, and_true, and_self, cs_0, cs_1, cs_2, cs_3, cs_4, ↓reduceIte, Nat.reduceLeDiff, Nat.reduceEqDiff, Nat.reduceAdd, Int.reduceLE, Int.reduceLT, Int.reduceEq, Int.reduceAdd, Int.reduceNeg, Int.reduceToNat, Int.toNat_natCast, ne_eq, not_false_eq_true, not_true_eq_false, or_true, true_or, or_false, false_or]
  have a := y_hears_A (C := mc d) (Q := Q) (s := s) (c := c) (n := n) (a5 := vj) 288 0 M (by omega) h
  have e0 : ((0 : Nat) : Int) = 0 := rfl
  rw [e0] at a
  rw [a]
  simp only [↓eX12_hears_25, ↓eX12_hears_26, Int.cast_ofNat_Int, kd_si, gr_si, ln_si, gi_same, gi_na, gi_ni, nl_i, nl_r, nl_j, nj_i, nj_l, nj_r, true_and, and_true, and_self, cs_0, cs_1, cs_2, cs_3, cs_4, ↓reduceIte, Nat.reduceLeDiff, Nat.reduceEqDiff, Nat.reduceAdd, Int.reduceLE, Int.reduceLT, Int.reduceEq, Int.reduceAdd, Int.reduceNeg, Int.reduceToNat, Int.toNat_natCast, ne_eq, not_false_eq_true, not_true_eq_false, or_true, true_or, or_false, false_or]
  have b := y_hears_B (C := mc d) (Q := Q) (s := s) (c := c) h hf hn h3 n 0 vj (by omega)
  rw [e0] at b
  rw [← b]
  congr 1
  refine sw_eq (fun j => ?_)
  rw [hrd]
  by_cases q : j < 288
  · rw [if_pos ⟨Nat.zero_le _, q⟩, if_pos q]
  · rw [if_neg (fun w => q w.2), if_neg q]
