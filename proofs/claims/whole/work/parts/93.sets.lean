/-! ===== the reference's sets ===== -/
def RD (M : mM) (n : Nat) (wt fr un ti ep way : Nat → Int) (may : Nat → Bool) : Prop := SH M ∧ gi M 35 62 = n ∧ n ≤ 14 ∧ ∀ j, j < n → gi M 73 j = wt j ∧ gi M 74 j = fr j ∧ gi M 75 j = un j ∧ gi M 78 j = ti j ∧ gi M 79 j = ep j ∧ gi M 80 j = way j ∧ gi M 81 j = bi (!may j)
def alk (ti ep : Nat → Int) (i j : Nat) : Bool := decide (ti i = ti j ∧ ep i = ep j ∧ ep i ≠ 0)
def alQ (ti ep : Nat → Int) (s i j : Nat) : Bool := s.testBit j && alk ti ep i j
def thQ (fr un : Nat → Int) (tu : Int) (n s i : Nat) : Bool := s.testBit i && decide (tu < sm (onN fr un i) s n)
def plQ (ti ep : Nat → Int) (may : Nat → Bool) (s i : Nat) : Bool := s.testBit i && (!may i || decide (ff (alQ ti ep s i) i 0 ≠ -1))
section SETS
variable {d n s : Nat} {M : mM} {Q : mV → mM → Prop} {wt fr un ti ep way : Nat → Int} {may : Nat → Bool}
theorem y_room_loop {C : mC} (hD : RD M n wt fr un ti ep way may) (hS : SN n wt fr un way) (hs : s < 16384) : ∀ r i : Nat, i + r = n → WP C tX12_roomOf 4 [vr (some 35), vi (s : Nat), vi (sm (spn fr un) s i), vi (i : Nat)] [] M Q = Q (vi (sm (spn fr un) s n)) M := by
  obtain ⟨h, h0, hn, hj⟩ := hD
  intro r
  induction r with
  | zero =>
    intro i hr
    have e : i = n := by omega
    subst e
    rw [eX12_roomOf_4]
    simp only [↓eX12_roomOf_5, ↓eX12_roomOf_6, ↓eX12_roomOf_9, ↓eX12_roomOf_43, ↓eX12_roomOf_44, hk35 h, h0, Int.le_refl, Int.cast_ofNat_Int, kd_si, gr_si, ln_si, gi_same, gi_na, gi_ni, nl_i, nl_r, nl_j, nj_i, nj_l, nj_r, true_and, and_true, and_self, cs_0, cs_1, cs_2, cs_3, cs_4, ↓reduceIte, Nat.reduceLeDiff, Nat.reduceEqDiff, Nat.reduceAdd, Int.reduceLE, Int.reduceLT, Int.reduceEq, Int.reduceAdd, Int.reduceNeg, Int.reduceToNat, Int.toNat_natCast, ne_eq, not_false_eq_true, not_true_eq_false, or_true, true_or, or_false, false_or]
  | succ r ih =>
    intro i hr
    have hin : i < n := by omega
    obtain ⟨j1, j2, j3, -⟩ := hj i hin
    have sn := hS i hin
    have e1 : ((n : Int) ≤ (i : Int)) = False := eq_false (by omega)
    have e2 : wr ((i : Int) + 1) = ((i + 1 : Nat) : Int) := by rw [wr_id (by omega) (by omega)]; omega
    have i0 : (0 ≤ (i : Int)) = True := eq_true (by omega)
    have i1 : ((i : Int) < 14) = True := eq_true (by omega)
    have s1 := i_shr (s := s) (i := i) hs (by omega)
    have s2 := i_b1 (s := s) (i := i) hs
    have b3 := sm_bd (f := spn fr un) (s := s) (b := 288) (by decide) i (fun j hj => by have := (hS j (by omega)).2.1; unfold spn; omega)
    have w1 : wr (un i - fr i) = un i - fr i := wr_id (by omega) (by omega)
    rw [← ih (i + 1) (by omega), sm_s, eX12_roomOf_4]
    by_cases q : s.testBit i = true
    · rw [tb_1 q] at s2
      have w2 : wr (sm (spn fr un) s i + (un i - fr i)) = sm (spn fr un) s i + spn fr un i := by
        unfold spn at *
        exact wr_id (by omega) (by omega)
      rw [if_pos q]
      simp only [↓eX12_roomOf_5, ↓eX12_roomOf_6, ↓eX12_roomOf_9, ↓eX12_roomOf_12, ↓eX12_roomOf_13, ↓eX12_roomOf_14, ↓eX12_roomOf_15, ↓eX12_roomOf_16, ↓eX12_roomOf_17, ↓eX12_roomOf_18, ↓eX12_roomOf_21, ↓eX12_roomOf_22, ↓eX12_roomOf_23, ↓eX12_roomOf_26, ↓eX12_roomOf_27, ↓eX12_roomOf_28, ↓eX12_roomOf_29, ↓eX12_roomOf_32, ↓eX12_roomOf_33, ↓eX12_roomOf_34, ↓eX12_roomOf_35, ↓eX12_roomOf_36, ↓eX12_roomOf_37, ↓eX12_roomOf_40, hk35 h, h0, hr35_67 h, hr35_68 h, hk74 h, hl74 h, hk75 h, hl75 h, e1, e2, i0, i1, s1, s2, j2, j3, w1, w2, Int.cast_ofNat_Int, kd_si, gr_si, ln_si, gi_same, gi_na, gi_ni, nl_i, nl_r, nl_j, nj_i, nj_l, nj_r, true_and, and_true, and_self, cs_0, cs_1, cs_2, cs_3, cs_4, ↓reduceIte, Nat.reduceLeDiff, Nat.reduceEqDiff, Nat.reduceAdd, Int.reduceLE, Int.reduceLT, Int.reduceEq, Int.reduceAdd, Int.reduceNeg, Int.reduceToNat, Int.toNat_natCast, ne_eq, not_false_eq_true, not_true_eq_false, or_true, true_or, or_false, false_or]
    · rw [tb_0 q] at s2
      rw [if_neg q, Int.add_zero]
      simp only [↓eX12_roomOf_5, ↓eX12_roomOf_6, ↓eX12_roomOf_9, ↓eX12_roomOf_12, ↓eX12_roomOf_13, ↓eX12_roomOf_14, ↓eX12_roomOf_15, ↓eX12_roomOf_16, ↓eX12_roomOf_17, ↓eX12_roomOf_18, ↓eX12_roomOf_21, ↓eX12_roomOf_22, ↓eX12_roomOf_23, ↓eX12_roomOf_26, ↓eX12_roomOf_27, ↓eX12_roomOf_28, ↓eX12_roomOf_29, ↓eX12_roomOf_32, ↓eX12_roomOf_33, ↓eX12_roomOf_34, ↓eX12_roomOf_35, ↓eX12_roomOf_36, ↓eX12_roomOf_37, ↓eX12_roomOf_40, hk35 h, h0, e1, e2, s1, s2, Int.cast_ofNat_Int, kd_si, gr_si, ln_si, gi_same, gi_na, gi_ni, nl_i, nl_r, nl_j, nj_i, nj_l, nj_r, true_and, and_true, and_self, cs_0, cs_1, cs_2, cs_3, cs_4, ↓reduceIte, Nat.reduceLeDiff, Nat.reduceEqDiff, Nat.reduceAdd, Int.reduceLE, Int.reduceLT, Int.reduceEq, Int.reduceAdd, Int.reduceNeg, Int.reduceToNat, Int.toNat_natCast, ne_eq, not_false_eq_true, not_true_eq_false, or_true, true_or, or_false, false_or]
theorem y_roomOf (hD : RD M n wt fr un ti ep way may) (hS : SN n wt fr un way) (hs : s < 16384) : CP (mc (d + 1)) 174 [vr (some 35), vi (s : Nat)] M Q = Q (vi (sm (spn fr un) s n)) M := by
  have lp := y_room_loop (C := mc d) (Q := Q) hD hS hs n 0 (by omega)
  have lp' : WP (mc d) tX12_roomOf 4 [vr (some 35), vi (s : Nat), vi 0, vi 0] [] M Q = Q (vi (sm (spn fr un) s n)) M := lp
  rw [← lp']
  simp only [↓cpX12_roomOf, ↓eX12_roomOf_0, ↓eX12_roomOf_1, ↓eX12_roomOf_2, ↓eX12_roomOf_3, Int.cast_ofNat_Int, kd_si, gr_si, ln_si, gi_same, gi_na, gi_ni, nl_i, nl_r, nl_j, nj_i, nj_l, nj_r, true_and, and_true, and_self, cs_0, cs_1, cs_2, cs_3, cs_4, ↓reduceIte, Nat.reduceLeDiff, Nat.reduceEqDiff, Nat.reduceAdd, Int.reduceLE, Int.reduceLT, Int.reduceEq, Int.reduceAdd, Int.reduceNeg, Int.reduceToNat, Int.toNat_natCast, ne_eq, not_false_eq_true, not_true_eq_false, or_true, true_or, or_false, false_or]
theorem y_thin_in {C : mC} (hD : RD M n wt fr un ti ep way may) (hs : s < 16384) {i : Nat} (hi : i < n) : ∀ r j : Nat, j + r = n → WP C tX12_isThin 26 [vr (some 35), vi (s : Nat), vi (i : Nat), vi (sm (onN fr un i) s j), vi (j : Nat)] [] M Q = WP C tX12_isThin 86 [vr (some 35), vi (s : Nat), vi (i : Nat), vi (sm (onN fr un i) s n), vi (n : Nat)] [] M Q := by
  obtain ⟨h, h0, hn, hj⟩ := hD
  intro r
  induction r with
  | zero =>
    intro j hr
    have e : j = n := by omega
    subst e
    rw [eX12_isThin_26]
    simp only [↓eX12_isThin_28, ↓eX12_isThin_29, ↓eX12_isThin_32, hk35 h, h0, Int.le_refl, Int.cast_ofNat_Int, kd_si, gr_si, ln_si, gi_same, gi_na, gi_ni, nl_i, nl_r, nl_j, nj_i, nj_l, nj_r, true_and, and_true, and_self, cs_0, cs_1, cs_2, cs_3, cs_4, ↓reduceIte, Nat.reduceLeDiff, Nat.reduceEqDiff, Nat.reduceAdd, Int.reduceLE, Int.reduceLT, Int.reduceEq, Int.reduceAdd, Int.reduceNeg, Int.reduceToNat, Int.toNat_natCast, ne_eq, not_false_eq_true, not_true_eq_false, or_true, true_or, or_false, false_or]
  | succ r ih =>
    intro j hr
    have hjn : j < n := by omega
    obtain ⟨-, i2, i3, -⟩ := hj i hi
    obtain ⟨-, j2, j3, -⟩ := hj j hjn
    have e1 : ((n : Int) ≤ (j : Int)) = False := eq_false (by omega)
    have e2 : wr ((j : Int) + 1) = ((j + 1 : Nat) : Int) := by rw [wr_id (by omega) (by omega)]; omega
    have i0 : (0 ≤ (i : Int)) = True := eq_true (by omega)
    have i1 : ((i : Int) < 14) = True := eq_true (by omega)
    have i0' : (0 ≤ (j : Int)) = True := eq_true (by omega)
    have i1' : ((j : Int) < 14) = True := eq_true (by omega)
    have s1 := i_shr (s := s) (i := j) hs (by omega)
    have s2 := i_b1 (s := s) (i := j) hs
    have b3 := sm_bd (f := onN fr un i) (s := s) (b := 1) (by decide) j (fun k _ => onN_01 fr un i k)
    rw [← ih (j + 1) (by omega), sm_s, eX12_isThin_26]
    by_cases q : s.testBit j = true
    · rw [tb_1 q] at s2
      rw [if_pos q]
      unfold onN at *
      by_cases z1 : fr i < fr j
      · rw [if_neg (by omega), Int.add_zero]
        simp only [↓eX12_isThin_28, ↓eX12_isThin_29, ↓eX12_isThin_32, ↓eX12_isThin_35, ↓eX12_isThin_36, ↓eX12_isThin_38, ↓eX12_isThin_39, ↓eX12_isThin_40, ↓eX12_isThin_41, ↓eX12_isThin_42, ↓eX12_isThin_45, ↓eX12_isThin_46, ↓eX12_isThin_49, ↓eX12_isThin_51, ↓eX12_isThin_52, ↓eX12_isThin_53, ↓eX12_isThin_56, ↓eX12_isThin_57, ↓eX12_isThin_58, ↓eX12_isThin_61, ↓eX12_isThin_62, ↓eX12_isThin_65, ↓eX12_isThin_66, ↓eX12_isThin_67, ↓eX12_isThin_68, ↓eX12_isThin_71, ↓eX12_isThin_73, ↓eX12_isThin_74, ↓eX12_isThin_77, ↓eX12_isThin_80, ↓eX12_isThin_83, hk35 h, h0, hr35_67 h, hr35_68 h, hk74 h, hl74 h, hk75 h, hl75 h, e1, e2, i0, i1, i0', i1', s1, s2, i2, j2, j3, z1, Int.cast_ofNat_Int, kd_si, gr_si, ln_si, gi_same, gi_na, gi_ni, nl_i, nl_r, nl_j, nj_i, nj_l, nj_r, true_and, and_true, and_self, cs_0, cs_1, cs_2, cs_3, cs_4, ↓reduceIte, Nat.reduceLeDiff, Nat.reduceEqDiff, Nat.reduceAdd, Int.reduceLE, Int.reduceLT, Int.reduceEq, Int.reduceAdd, Int.reduceNeg, Int.reduceToNat, Int.toNat_natCast, ne_eq, not_false_eq_true, not_true_eq_false, or_true, true_or, or_false, false_or]
      · by_cases z2 : un j ≤ fr i
        · rw [if_neg (by omega), Int.add_zero]
          simp only [↓eX12_isThin_28, ↓eX12_isThin_29, ↓eX12_isThin_32, ↓eX12_isThin_35, ↓eX12_isThin_36, ↓eX12_isThin_38, ↓eX12_isThin_39, ↓eX12_isThin_40, ↓eX12_isThin_41, ↓eX12_isThin_42, ↓eX12_isThin_45, ↓eX12_isThin_46, ↓eX12_isThin_49, ↓eX12_isThin_51, ↓eX12_isThin_52, ↓eX12_isThin_53, ↓eX12_isThin_56, ↓eX12_isThin_57, ↓eX12_isThin_58, ↓eX12_isThin_61, ↓eX12_isThin_62, ↓eX12_isThin_65, ↓eX12_isThin_66, ↓eX12_isThin_67, ↓eX12_isThin_68, ↓eX12_isThin_71, ↓eX12_isThin_73, ↓eX12_isThin_74, ↓eX12_isThin_77, ↓eX12_isThin_80, ↓eX12_isThin_83, hk35 h, h0, hr35_67 h, hr35_68 h, hk74 h, hl74 h, hk75 h, hl75 h, e1, e2, i0, i1, i0', i1', s1, s2, i2, j2, j3, z1, z2, Int.cast_ofNat_Int, kd_si, gr_si, ln_si, gi_same, gi_na, gi_ni, nl_i, nl_r, nl_j, nj_i, nj_l, nj_r, true_and, and_true, and_self, cs_0, cs_1, cs_2, cs_3, cs_4, ↓reduceIte, Nat.reduceLeDiff, Nat.reduceEqDiff, Nat.reduceAdd, Int.reduceLE, Int.reduceLT, Int.reduceEq, Int.reduceAdd, Int.reduceNeg, Int.reduceToNat, Int.toNat_natCast, ne_eq, not_false_eq_true, not_true_eq_false, or_true, true_or, or_false, false_or]
        · have w2 : wr (sm (fun j => if fr j ≤ fr i ∧ fr i < un j then 1 else 0) s j + 1) = sm (fun j => if fr j ≤ fr i ∧ fr i < un j then 1 else 0) s j + 1 := wr_id (by omega) (by omega)
          rw [if_pos (by omega)]
          simp only [↓eX12_isThin_28, ↓eX12_isThin_29, ↓eX12_isThin_32, ↓eX12_isThin_35, ↓eX12_isThin_36, ↓eX12_isThin_38, ↓eX12_isThin_39, ↓eX12_isThin_40, ↓eX12_isThin_41, ↓eX12_isThin_42, ↓eX12_isThin_45, ↓eX12_isThin_46, ↓eX12_isThin_49, ↓eX12_isThin_51, ↓eX12_isThin_52, ↓eX12_isThin_53, ↓eX12_isThin_56, ↓eX12_isThin_57, ↓eX12_isThin_58, ↓eX12_isThin_61, ↓eX12_isThin_62, ↓eX12_isThin_65, ↓eX12_isThin_66, ↓eX12_isThin_67, ↓eX12_isThin_68, ↓eX12_isThin_71, ↓eX12_isThin_73, ↓eX12_isThin_74, ↓eX12_isThin_77, ↓eX12_isThin_80, ↓eX12_isThin_83, hk35 h, h0, hr35_67 h, hr35_68 h, hk74 h, hl74 h, hk75 h, hl75 h, e1, e2, i0, i1, i0', i1', s1, s2, i2, j2, j3, z1, z2, w2, Int.cast_ofNat_Int, kd_si, gr_si, ln_si, gi_same, gi_na, gi_ni, nl_i, nl_r, nl_j, nj_i, nj_l, nj_r, true_and, and_true, and_self, cs_0, cs_1, cs_2, cs_3, cs_4, ↓reduceIte, Nat.reduceLeDiff, Nat.reduceEqDiff, Nat.reduceAdd, Int.reduceLE, Int.reduceLT, Int.reduceEq, Int.reduceAdd, Int.reduceNeg, Int.reduceToNat, Int.toNat_natCast, ne_eq, not_false_eq_true, not_true_eq_false, or_true, true_or, or_false, false_or]
    · rw [tb_0 q] at s2
      rw [if_neg q, Int.add_zero]
      simp only [↓eX12_isThin_28, ↓eX12_isThin_29, ↓eX12_isThin_32, ↓eX12_isThin_35, ↓eX12_isThin_36, ↓eX12_isThin_38, ↓eX12_isThin_39, ↓eX12_isThin_40, ↓eX12_isThin_41, ↓eX12_isThin_42, ↓eX12_isThin_45, ↓eX12_isThin_46, ↓eX12_isThin_49, ↓eX12_isThin_51, ↓eX12_isThin_52, ↓eX12_isThin_53, ↓eX12_isThin_56, ↓eX12_isThin_57, ↓eX12_isThin_58, ↓eX12_isThin_61, ↓eX12_isThin_62, ↓eX12_isThin_65, ↓eX12_isThin_66, ↓eX12_isThin_67, ↓eX12_isThin_68, ↓eX12_isThin_71, ↓eX12_isThin_73, ↓eX12_isThin_74, ↓eX12_isThin_77, ↓eX12_isThin_80, ↓eX12_isThin_83, hk35 h, h0, e1, e2, s1, s2, Int.cast_ofNat_Int, kd_si, gr_si, ln_si, gi_same, gi_na, gi_ni, nl_i, nl_r, nl_j, nj_i, nj_l, nj_r, true_and, and_true, and_self, cs_0, cs_1, cs_2, cs_3, cs_4, ↓reduceIte, Nat.reduceLeDiff, Nat.reduceEqDiff, Nat.reduceAdd, Int.reduceLE, Int.reduceLT, Int.reduceEq, Int.reduceAdd, Int.reduceNeg, Int.reduceToNat, Int.toNat_natCast, ne_eq, not_false_eq_true, not_true_eq_false, or_true, true_or, or_false, false_or]
theorem y_thin_loop {C : mC} {tu : Int} (hD : RD M n wt fr un ti ep way may) (hs : s < 16384) (htu : gi M 35 46 = tu) : ∀ (r i : Nat) (a3 a4 : mV), i + r = n → nl a3 → WP C tX12_isThin 2 [vr (some 35), vi (s : Nat), vi (i : Nat), a3, a4] [] M Q = if ff (thQ fr un tu n s) r i ≠ -1 then Q (vi 0) M else Q (vi 1) M := by
  have hD0 := hD
  obtain ⟨h, h0, hn, hj⟩ := hD
  intro r
  induction r with
  | zero =>
    intro i a3 a4 hr n3
    have e : i = n := by omega
    subst e
    rw [ff, if_neg (fun w => w rfl), eX12_isThin_2]
    simp only [↓eX12_isThin_3, ↓eX12_isThin_4, ↓eX12_isThin_7, ↓eX12_isThin_102, ↓eX12_isThin_103, hk35 h, h0, Int.le_refl, Int.cast_ofNat_Int, kd_si, gr_si, ln_si, gi_same, gi_na, gi_ni, nl_i, nl_r, nl_j, nj_i, nj_l, nj_r, true_and, and_true, and_self, cs_0, cs_1, cs_2, cs_3, cs_4, ↓reduceIte, Nat.reduceLeDiff, Nat.reduceEqDiff, Nat.reduceAdd, Int.reduceLE, Int.reduceLT, Int.reduceEq, Int.reduceAdd, Int.reduceNeg, Int.reduceToNat, Int.toNat_natCast, ne_eq, not_false_eq_true, not_true_eq_false, or_true, true_or, or_false, false_or]
  | succ r ih =>
    intro i a3 a4 hr n3
    have hin : i < n := by omega
    have e1 : ((n : Int) ≤ (i : Int)) = False := eq_false (by omega)
    have e2 : wr ((i : Int) + 1) = ((i + 1 : Nat) : Int) := by rw [wr_id (by omega) (by omega)]; omega
    have s1 := i_shr (s := s) (i := i) hs (by omega)
    have s2 := i_b1 (s := s) (i := i) hs
    have inn := y_thin_in (C := C) (Q := Q) hD0 hs hin n 0 (by omega)
    have inn' : WP C tX12_isThin 26 [vr (some 35), vi (s : Nat), vi (i : Nat), vi 0, vi 0] [] M Q = _ := inn
    rw [ff, eX12_isThin_2]
    by_cases q : s.testBit i = true
    · rw [tb_1 q] at s2
      by_cases z : sm (onN fr un i) s n ≤ tu
      · have zq : ¬ thQ fr un tu n s i = true := by
          unfold thQ; intro v; rw [Bool.and_eq_true, decide_eq_true_eq] at v; omega
        rw [if_neg zq, ← ih (i + 1) (vi (sm (onN fr un i) s n)) (vi n) (by omega) (nlI _)]
        simp only [↓eX12_isThin_3, ↓eX12_isThin_4, ↓eX12_isThin_7, ↓eX12_isThin_10, ↓eX12_isThin_11, ↓eX12_isThin_12, ↓eX12_isThin_13, ↓eX12_isThin_14, ↓eX12_isThin_15, ↓eX12_isThin_18, ↓eX12_isThin_21, ↓eX12_isThin_22, ↓eX12_isThin_23, ↓eX12_isThin_24, n3, hk35 h, h0, e1, s1, s2, Int.cast_ofNat_Int, kd_si, gr_si, ln_si, gi_same, gi_na, gi_ni, nl_i, nl_r, nl_j, nj_i, nj_l, nj_r, true_and, and_true, and_self, cs_0, cs_1, cs_2, cs_3, cs_4, ↓reduceIte, Nat.reduceLeDiff, Nat.reduceEqDiff, Nat.reduceAdd, Int.reduceLE, Int.reduceLT, Int.reduceEq, Int.reduceAdd, Int.reduceNeg, Int.reduceToNat, Int.toNat_natCast, ne_eq, not_false_eq_true, not_true_eq_false, or_true, true_or, or_false, false_or]
        rw [inn']
        simp only [↓eX12_isThin_86, ↓eX12_isThin_87, ↓eX12_isThin_88, ↓eX12_isThin_91, ↓eX12_isThin_94, ↓eX12_isThin_95, ↓eX12_isThin_96, ↓eX12_isThin_99, hk35 h, htu, z, e2, Int.cast_ofNat_Int, kd_si, gr_si, ln_si, gi_same, gi_na, gi_ni, nl_i, nl_r, nl_j, nj_i, nj_l, nj_r, true_and, and_true, and_self, cs_0, cs_1, cs_2, cs_3, cs_4, ↓reduceIte, Nat.reduceLeDiff, Nat.reduceEqDiff, Nat.reduceAdd, Int.reduceLE, Int.reduceLT, Int.reduceEq, Int.reduceAdd, Int.reduceNeg, Int.reduceToNat, Int.toNat_natCast, ne_eq, not_false_eq_true, not_true_eq_false, or_true, true_or, or_false, false_or]
      · have zq : thQ fr un tu n s i = true := by
          unfold thQ; rw [q, Bool.true_and, decide_eq_true_eq]; omega
        rw [if_pos zq, if_pos (by omega)]
        simp only [↓eX12_isThin_3, ↓eX12_isThin_4, ↓eX12_isThin_7, ↓eX12_isThin_10, ↓eX12_isThin_11, ↓eX12_isThin_12, ↓eX12_isThin_13, ↓eX12_isThin_14, ↓eX12_isThin_15, ↓eX12_isThin_18, ↓eX12_isThin_21, ↓eX12_isThin_22, ↓eX12_isThin_23, ↓eX12_isThin_24, n3, hk35 h, h0, e1, s1, s2, Int.cast_ofNat_Int, kd_si, gr_si, ln_si, gi_same, gi_na, gi_ni, nl_i, nl_r, nl_j, nj_i, nj_l, nj_r, true_and, and_true, and_self, cs_0, cs_1, cs_2, cs_3, cs_4, ↓reduceIte, Nat.reduceLeDiff, Nat.reduceEqDiff, Nat.reduceAdd, Int.reduceLE, Int.reduceLT, Int.reduceEq, Int.reduceAdd, Int.reduceNeg, Int.reduceToNat, Int.toNat_natCast, ne_eq, not_false_eq_true, not_true_eq_false, or_true, true_or, or_false, false_or]
        rw [inn']
        simp only [↓eX12_isThin_86, ↓eX12_isThin_87, ↓eX12_isThin_88, ↓eX12_isThin_91, ↓eX12_isThin_94, ↓eX12_isThin_95, ↓eX12_isThin_96, ↓eX12_isThin_99, hk35 h, htu, z, e2, Int.cast_ofNat_Int, kd_si, gr_si, ln_si, gi_same, gi_na, gi_ni, nl_i, nl_r, nl_j, nj_i, nj_l, nj_r, true_and, and_true, and_self, cs_0, cs_1, cs_2, cs_3, cs_4, ↓reduceIte, Nat.reduceLeDiff, Nat.reduceEqDiff, Nat.reduceAdd, Int.reduceLE, Int.reduceLT, Int.reduceEq, Int.reduceAdd, Int.reduceNeg, Int.reduceToNat, Int.toNat_natCast, ne_eq, not_false_eq_true, not_true_eq_false, or_true, true_or, or_false, false_or]
    · rw [tb_0 q] at s2
      have zq : ¬ thQ fr un tu n s i = true := by
        unfold thQ; intro v; rw [Bool.and_eq_true] at v; exact q v.1
      rw [if_neg zq, ← ih (i + 1) a3 a4 (by omega) n3]
      simp only [↓eX12_isThin_3, ↓eX12_isThin_4, ↓eX12_isThin_7, ↓eX12_isThin_10, ↓eX12_isThin_11, ↓eX12_isThin_12, ↓eX12_isThin_13, ↓eX12_isThin_14, ↓eX12_isThin_15, ↓eX12_isThin_18, ↓eX12_isThin_96, ↓eX12_isThin_99, hk35 h, h0, e1, e2, s1, s2, Int.cast_ofNat_Int, kd_si, gr_si, ln_si, gi_same, gi_na, gi_ni, nl_i, nl_r, nl_j, nj_i, nj_l, nj_r, true_and, and_true, and_self, cs_0, cs_1, cs_2, cs_3, cs_4, ↓reduceIte, Nat.reduceLeDiff, Nat.reduceEqDiff, Nat.reduceAdd, Int.reduceLE, Int.reduceLT, Int.reduceEq, Int.reduceAdd, Int.reduceNeg, Int.reduceToNat, Int.toNat_natCast, ne_eq, not_false_eq_true, not_true_eq_false, or_true, true_or, or_false, false_or]
theorem y_isThin {tu : Int} (hD : RD M n wt fr un ti ep way may) (hs : s < 16384) (htu : gi M 35 46 = tu) : CP (mc (d + 1)) 175 [vr (some 35), vi (s : Nat)] M Q = if ff (thQ fr un tu n s) n 0 ≠ -1 then Q (vi 0) M else Q (vi 1) M := by
  have lp := y_thin_loop (C := mc d) (Q := Q) hD hs htu n 0 vj vj (by omega) nlJ
  have lp' : WP (mc d) tX12_isThin 2 [vr (some 35), vi (s : Nat), vi 0, vj, vj] [] M Q = _ := lp
  rw [← lp']
  simp only [↓cpX12_isThin, ↓eX12_isThin_0, ↓eX12_isThin_1, Int.cast_ofNat_Int, kd_si, gr_si, ln_si, gi_same, gi_na, gi_ni, nl_i, nl_r, nl_j, nj_i, nj_l, nj_r, true_and, and_true, and_self, cs_0, cs_1, cs_2, cs_3, cs_4, ↓reduceIte, Nat.reduceLeDiff, Nat.reduceEqDiff, Nat.reduceAdd, Int.reduceLE, Int.reduceLT, Int.reduceEq, Int.reduceAdd, Int.reduceNeg, Int.reduceToNat, Int.toNat_natCast, ne_eq, not_false_eq_true, not_true_eq_false, or_true, true_or, or_false, false_or]
theorem y_areAlike (hD : RD M n wt fr un ti ep way may) {i j : Nat} (hi : i < n) (hjn : j < n) : CP (mc (d + 1)) 173 [vr (some 35), vi (i : Nat), vi (j : Nat)] M Q = if alk ti ep i j = true then Q (vi 1) M else Q (vi 0) M := by
  obtain ⟨h, h0, hn, hj⟩ := hD
  obtain ⟨-, -, -, i4, i5, -⟩ := hj i hi
  obtain ⟨-, -, -, j4, j5, -⟩ := hj j hjn
  have i0 : (0 ≤ (i : Int)) = True := eq_true (by omega)
  have i1 : ((i : Int) < 14) = True := eq_true (by omega)
  have i0' : (0 ≤ (j : Int)) = True := eq_true (by omega)
  have i1' : ((j : Int) < 14) = True := eq_true (by omega)
  unfold alk
  simp only [decide_eq_true_eq]
  by_cases z1 : ti i = ti j
  · by_cases z2 : ep i = ep j
    · by_cases z3 : ep i = 0
      · rw [if_neg (fun w => w.2.2 z3)]
        simp only [↓cpX12_areAlike, ↓eX12_areAlike_0, ↓eX12_areAlike_1, ↓eX12_areAlike_4, ↓eX12_areAlike_5, ↓eX12_areAlike_6, ↓eX12_areAlike_7, ↓eX12_areAlike_10, ↓eX12_areAlike_11, ↓eX12_areAlike_12, ↓eX12_areAlike_15, ↓eX12_areAlike_16, ↓eX12_areAlike_19, ↓eX12_areAlike_20, ↓eX12_areAlike_21, ↓eX12_areAlike_22, ↓eX12_areAlike_25, ↓eX12_areAlike_26, ↓eX12_areAlike_27, ↓eX12_areAlike_30, ↓eX12_areAlike_31, ↓eX12_areAlike_34, ↓eX12_areAlike_35, ↓eX12_areAlike_36, ↓eX12_areAlike_39, ↓eX12_areAlike_40, ↓eX12_areAlike_43, ↓eX12_areAlike_44, hk35 h, hr35_71 h, hr35_72 h, hk78 h, hl78 h, hk79 h, hl79 h, i0, i1, i0', i1', i4, i5, j4, j5, z1, z3, z2.symm.trans z3, Int.cast_ofNat_Int, kd_si, gr_si, ln_si, gi_same, gi_na, gi_ni, nl_i, nl_r, nl_j, nj_i, nj_l, nj_r, true_and, and_true, and_self, cs_0, cs_1, cs_2, cs_3, cs_4, ↓reduceIte, Nat.reduceLeDiff, Nat.reduceEqDiff, Nat.reduceAdd, Int.reduceLE, Int.reduceLT, Int.reduceEq, Int.reduceAdd, Int.reduceNeg, Int.reduceToNat, Int.toNat_natCast, ne_eq, not_false_eq_true, not_true_eq_false, or_true, true_or, or_false, false_or]
      · rw [if_pos ⟨z1, z2, z3⟩]
        have z4 : (ep j = 0) = False := eq_false (fun w => z3 (z2.trans w))
        simp only [↓cpX12_areAlike, ↓eX12_areAlike_0, ↓eX12_areAlike_1, ↓eX12_areAlike_4, ↓eX12_areAlike_5, ↓eX12_areAlike_6, ↓eX12_areAlike_7, ↓eX12_areAlike_10, ↓eX12_areAlike_11, ↓eX12_areAlike_12, ↓eX12_areAlike_15, ↓eX12_areAlike_16, ↓eX12_areAlike_19, ↓eX12_areAlike_20, ↓eX12_areAlike_21, ↓eX12_areAlike_22, ↓eX12_areAlike_25, ↓eX12_areAlike_26, ↓eX12_areAlike_27, ↓eX12_areAlike_30, ↓eX12_areAlike_31, ↓eX12_areAlike_34, ↓eX12_areAlike_35, ↓eX12_areAlike_36, ↓eX12_areAlike_39, ↓eX12_areAlike_40, ↓eX12_areAlike_43, ↓eX12_areAlike_44, hk35 h, hr35_71 h, hr35_72 h, hk78 h, hl78 h, hk79 h, hl79 h, i0, i1, i0', i1', i4, i5, j4, j5, z1, z2, z4, Int.cast_ofNat_Int, kd_si, gr_si, ln_si, gi_same, gi_na, gi_ni, nl_i, nl_r, nl_j, nj_i, nj_l, nj_r, true_and, and_true, and_self, cs_0, cs_1, cs_2, cs_3, cs_4, ↓reduceIte, Nat.reduceLeDiff, Nat.reduceEqDiff, Nat.reduceAdd, Int.reduceLE, Int.reduceLT, Int.reduceEq, Int.reduceAdd, Int.reduceNeg, Int.reduceToNat, Int.toNat_natCast, ne_eq, not_false_eq_true, not_true_eq_false, or_true, true_or, or_false, false_or]
    · rw [if_neg (fun w => z2 w.2.1)]
      simp only [↓cpX12_areAlike, ↓eX12_areAlike_0, ↓eX12_areAlike_1, ↓eX12_areAlike_4, ↓eX12_areAlike_5, ↓eX12_areAlike_6, ↓eX12_areAlike_7, ↓eX12_areAlike_10, ↓eX12_areAlike_11, ↓eX12_areAlike_12, ↓eX12_areAlike_15, ↓eX12_areAlike_16, ↓eX12_areAlike_19, ↓eX12_areAlike_20, ↓eX12_areAlike_21, ↓eX12_areAlike_22, ↓eX12_areAlike_25, ↓eX12_areAlike_26, ↓eX12_areAlike_27, ↓eX12_areAlike_30, ↓eX12_areAlike_31, ↓eX12_areAlike_34, ↓eX12_areAlike_35, ↓eX12_areAlike_36, ↓eX12_areAlike_39, ↓eX12_areAlike_40, ↓eX12_areAlike_43, ↓eX12_areAlike_44, hk35 h, hr35_71 h, hr35_72 h, hk78 h, hl78 h, hk79 h, hl79 h, i0, i1, i0', i1', i4, i5, j4, j5, z1, z2, Int.cast_ofNat_Int, kd_si, gr_si, ln_si, gi_same, gi_na, gi_ni, nl_i, nl_r, nl_j, nj_i, nj_l, nj_r, true_and, and_true, and_self, cs_0, cs_1, cs_2, cs_3, cs_4, ↓reduceIte, Nat.reduceLeDiff, Nat.reduceEqDiff, Nat.reduceAdd, Int.reduceLE, Int.reduceLT, Int.reduceEq, Int.reduceAdd, Int.reduceNeg, Int.reduceToNat, Int.toNat_natCast, ne_eq, not_false_eq_true, not_true_eq_false, or_true, true_or, or_false, false_or]
  · rw [if_neg (fun w => z1 w.1)]
    simp only [↓cpX12_areAlike, ↓eX12_areAlike_0, ↓eX12_areAlike_1, ↓eX12_areAlike_4, ↓eX12_areAlike_5, ↓eX12_areAlike_6, ↓eX12_areAlike_7, ↓eX12_areAlike_10, ↓eX12_areAlike_11, ↓eX12_areAlike_12, ↓eX12_areAlike_15, ↓eX12_areAlike_16, ↓eX12_areAlike_19, ↓eX12_areAlike_20, ↓eX12_areAlike_21, ↓eX12_areAlike_22, ↓eX12_areAlike_25, ↓eX12_areAlike_26, ↓eX12_areAlike_27, ↓eX12_areAlike_30, ↓eX12_areAlike_31, ↓eX12_areAlike_34, ↓eX12_areAlike_35, ↓eX12_areAlike_36, ↓eX12_areAlike_39, ↓eX12_areAlike_40, ↓eX12_areAlike_43, ↓eX12_areAlike_44, hk35 h, hr35_71 h, hr35_72 h, hk78 h, hl78 h, hk79 h, hl79 h, i0, i1, i0', i1', i4, i5, j4, j5, z1, Int.cast_ofNat_Int, kd_si, gr_si, ln_si, gi_same, gi_na, gi_ni, nl_i, nl_r, nl_j, nj_i, nj_l, nj_r, true_and, and_true, and_self, cs_0, cs_1, cs_2, cs_3, cs_4, ↓reduceIte, Nat.reduceLeDiff, Nat.reduceEqDiff, Nat.reduceAdd, Int.reduceLE, Int.reduceLT, Int.reduceEq, Int.reduceAdd, Int.reduceNeg, Int.reduceToNat, Int.toNat_natCast, ne_eq, not_false_eq_true, not_true_eq_false, or_true, true_or, or_false, false_or]
theorem y_pl_in (hD : RD M n wt fr un ti ep way may) (hs : s < 16384) {i : Nat} (hi : i < n) : ∀ r j : Nat, j + r = i → WP (mc (d + 1)) tX12_isPlan 34 [vr (some 35), vi (s : Nat), vi (i : Nat), vi (j : Nat)] [] M Q = if ff (alQ ti ep s i) r j ≠ -1 then Q (vi 0) M else WP (mc (d + 1)) tX12_isPlan 65 [vr (some 35), vi (s : Nat), vi (i : Nat), vi (i : Nat)] [] M Q := by
  have hD0 := hD
  obtain ⟨h, h0, hn, hj⟩ := hD
  intro r
  induction r with
  | zero =>
    intro j hr
    have e : j = i := by omega
    subst e
    rw [ff, if_neg (fun w => w rfl), eX12_isPlan_34]
    simp only [↓eX12_isPlan_35, ↓eX12_isPlan_36, Int.le_refl, Int.cast_ofNat_Int, kd_si, gr_si, ln_si, gi_same, gi_na, gi_ni, nl_i, nl_r, nl_j, nj_i, nj_l, nj_r, true_and, and_true, and_self, cs_0, cs_1, cs_2, cs_3, cs_4, ↓reduceIte, Nat.reduceLeDiff, Nat.reduceEqDiff, Nat.reduceAdd, Int.reduceLE, Int.reduceLT, Int.reduceEq, Int.reduceAdd, Int.reduceNeg, Int.reduceToNat, Int.toNat_natCast, ne_eq, not_false_eq_true, not_true_eq_false, or_true, true_or, or_false, false_or]
  | succ r ih =>
    intro j hr
    have hjn : j < n := by omega
    have e1 : ((i : Int) ≤ (j : Int)) = False := eq_false (by omega)
    have e2 : wr ((j : Int) + 1) = ((j + 1 : Nat) : Int) := by rw [wr_id (by omega) (by omega)]; omega
    have s1 := i_shr (s := s) (i := j) hs (by omega)
    have s2 := i_b1 (s := s) (i := j) hs
    have fal := fun (Q : mV → mM → Prop) => y_areAlike (d := d) (Q := Q) hD0 hi hjn
    have hih := ih (j + 1) (by omega)
    rw [ff, eX12_isPlan_34]
    by_cases q : s.testBit j = true
    · rw [tb_1 q] at s2
      by_cases z : alk ti ep i j = true
      · have zq : alQ ti ep s i j = true := by unfold alQ; rw [q, z]; rfl
        simp only [if_pos z] at fal
        rw [if_pos zq, if_pos (by omega)]
        simp only [↓eX12_isPlan_35, ↓eX12_isPlan_36, ↓eX12_isPlan_39, ↓eX12_isPlan_40, ↓eX12_isPlan_41, ↓eX12_isPlan_42, ↓eX12_isPlan_43, ↓eX12_isPlan_44, ↓eX12_isPlan_45, ↓eX12_isPlan_48, ↓eX12_isPlan_49, ↓eX12_isPlan_50, ↓eX12_isPlan_51, ↓eX12_isPlan_54, ↓eX12_isPlan_57, ↓eX12_isPlan_58, ↓eX12_isPlan_59, ↓eX12_isPlan_62, hk35 h, e1, e2, s1, s2, ↓fal, Int.cast_ofNat_Int, kd_si, gr_si, ln_si, gi_same, gi_na, gi_ni, nl_i, nl_r, nl_j, nj_i, nj_l, nj_r, true_and, and_true, and_self, cs_0, cs_1, cs_2, cs_3, cs_4, ↓reduceIte, Nat.reduceLeDiff, Nat.reduceEqDiff, Nat.reduceAdd, Int.reduceLE, Int.reduceLT, Int.reduceEq, Int.reduceAdd, Int.reduceNeg, Int.reduceToNat, Int.toNat_natCast, ne_eq, not_false_eq_true, not_true_eq_false, or_true, true_or, or_false, false_or]
      · have zq : ¬ alQ ti ep s i j = true := by unfold alQ; intro v; rw [Bool.and_eq_true] at v; exact z v.2
        simp only [if_neg z] at fal
        rw [if_neg zq, ← hih]
        simp only [↓eX12_isPlan_35, ↓eX12_isPlan_36, ↓eX12_isPlan_39, ↓eX12_isPlan_40, ↓eX12_isPlan_41, ↓eX12_isPlan_42, ↓eX12_isPlan_43, ↓eX12_isPlan_44, ↓eX12_isPlan_45, ↓eX12_isPlan_48, ↓eX12_isPlan_49, ↓eX12_isPlan_50, ↓eX12_isPlan_51, ↓eX12_isPlan_54, ↓eX12_isPlan_57, ↓eX12_isPlan_58, ↓eX12_isPlan_59, ↓eX12_isPlan_62, hk35 h, e1, e2, s1, s2, ↓fal, Int.cast_ofNat_Int, kd_si, gr_si, ln_si, gi_same, gi_na, gi_ni, nl_i, nl_r, nl_j, nj_i, nj_l, nj_r, true_and, and_true, and_self, cs_0, cs_1, cs_2, cs_3, cs_4, ↓reduceIte, Nat.reduceLeDiff, Nat.reduceEqDiff, Nat.reduceAdd, Int.reduceLE, Int.reduceLT, Int.reduceEq, Int.reduceAdd, Int.reduceNeg, Int.reduceToNat, Int.toNat_natCast, ne_eq, not_false_eq_true, not_true_eq_false, or_true, true_or, or_false, false_or]
    · rw [tb_0 q] at s2
      have zq : ¬ alQ ti ep s i j = true := by unfold alQ; intro v; rw [Bool.and_eq_true] at v; exact q v.1
      rw [if_neg zq, ← hih]
      simp only [↓eX12_isPlan_35, ↓eX12_isPlan_36, ↓eX12_isPlan_39, ↓eX12_isPlan_40, ↓eX12_isPlan_41, ↓eX12_isPlan_42, ↓eX12_isPlan_43, ↓eX12_isPlan_44, ↓eX12_isPlan_45, ↓eX12_isPlan_48, ↓eX12_isPlan_49, ↓eX12_isPlan_50, ↓eX12_isPlan_51, ↓eX12_isPlan_54, ↓eX12_isPlan_57, ↓eX12_isPlan_58, ↓eX12_isPlan_59, ↓eX12_isPlan_62, hk35 h, e1, e2, s1, s2, Int.cast_ofNat_Int, kd_si, gr_si, ln_si, gi_same, gi_na, gi_ni, nl_i, nl_r, nl_j, nj_i, nj_l, nj_r, true_and, and_true, and_self, cs_0, cs_1, cs_2, cs_3, cs_4, ↓reduceIte, Nat.reduceLeDiff, Nat.reduceEqDiff, Nat.reduceAdd, Int.reduceLE, Int.reduceLT, Int.reduceEq, Int.reduceAdd, Int.reduceNeg, Int.reduceToNat, Int.toNat_natCast, ne_eq, not_false_eq_true, not_true_eq_false, or_true, true_or, or_false, false_or]
def vldQ (n : Nat) (fr un ti ep : Nat → Int) (may : Nat → Bool) (tu room : Int) (s : Nat) : Prop := ff (plQ ti ep may s) n 0 = -1 ∧ sm (spn fr un) s n ≤ room ∧ ff (thQ fr un tu n s) n 0 = -1
theorem y_pl_loop (hD : RD M n wt fr un ti ep way may) (hS : SN n wt fr un way) (hs : s < 16384) {tu room : Int} (htu : gi M 35 46 = tu) (hro : gi M 35 49 = room) (A : Prop) (hA1 : sm (spn fr un) s n ≤ room ∧ ff (thQ fr un tu n s) n 0 = -1 → (Q (vi 1) M) = A) (hA0 : ¬ (sm (spn fr un) s n ≤ room ∧ ff (thQ fr un tu n s) n 0 = -1) → (Q (vi 0) M) = A) : ∀ (r i : Nat) (a3 : mV), i + r = n → nl a3 → WP (mc (d + 1)) tX12_isPlan 2 [vr (some 35), vi (s : Nat), vi (i : Nat), a3] [] M Q = if ff (plQ ti ep may s) r i ≠ -1 then Q (vi 0) M else A := by
  have hD0 := hD
  obtain ⟨h, h0, hn, hj⟩ := hD
  intro r
  induction r with
  | zero =>
    intro i a3 hr n3
    have e : i = n := by omega
    subst e
    have f1 := fun (Q : mV → mM → Prop) => y_roomOf (d := d) (Q := Q) hD0 hS hs
    have f2 := fun (Q : mV → mM → Prop) => y_isThin (d := d) (Q := Q) hD0 hs htu
    rw [ff, if_neg (fun w => w rfl), eX12_isPlan_2]
    by_cases z1 : room < sm (spn fr un) s i
    · rw [← hA0 (by omega)]
      simp only [↓eX12_isPlan_3, ↓eX12_isPlan_4, ↓eX12_isPlan_7, ↓eX12_isPlan_71, ↓eX12_isPlan_72, ↓eX12_isPlan_73, ↓eX12_isPlan_76, ↓eX12_isPlan_77, ↓eX12_isPlan_80, ↓eX12_isPlan_83, ↓eX12_isPlan_84, ↓eX12_isPlan_85, ↓eX12_isPlan_88, ↓eX12_isPlan_91, ↓eX12_isPlan_92, ↓eX12_isPlan_95, ↓eX12_isPlan_96, hk35 h, h0, Int.le_refl, ↓f1, hro, z1, Int.cast_ofNat_Int, kd_si, gr_si, ln_si, gi_same, gi_na, gi_ni, nl_i, nl_r, nl_j, nj_i, nj_l, nj_r, true_and, and_true, and_self, cs_0, cs_1, cs_2, cs_3, cs_4, ↓reduceIte, Nat.reduceLeDiff, Nat.reduceEqDiff, Nat.reduceAdd, Int.reduceLE, Int.reduceLT, Int.reduceEq, Int.reduceAdd, Int.reduceNeg, Int.reduceToNat, Int.toNat_natCast, ne_eq, not_false_eq_true, not_true_eq_false, or_true, true_or, or_false, false_or]
    · by_cases z2 : ff (thQ fr un tu i s) i 0 = -1
      · rw [← hA1 ⟨by omega, z2⟩]
        simp only [z2, ne_eq, not_true_eq_false, if_false] at f2
        simp only [↓eX12_isPlan_3, ↓eX12_isPlan_4, ↓eX12_isPlan_7, ↓eX12_isPlan_71, ↓eX12_isPlan_72, ↓eX12_isPlan_73, ↓eX12_isPlan_76, ↓eX12_isPlan_77, ↓eX12_isPlan_80, ↓eX12_isPlan_83, ↓eX12_isPlan_84, ↓eX12_isPlan_85, ↓eX12_isPlan_88, ↓eX12_isPlan_91, ↓eX12_isPlan_92, ↓eX12_isPlan_95, ↓eX12_isPlan_96, hk35 h, h0, Int.le_refl, ↓f1, ↓f2, hro, z1, Int.cast_ofNat_Int, kd_si, gr_si, ln_si, gi_same, gi_na, gi_ni, nl_i, nl_r, nl_j, nj_i, nj_l, nj_r, true_and, and_true, and_self, cs_0, cs_1, cs_2, cs_3, cs_4, ↓reduceIte, Nat.reduceLeDiff, Nat.reduceEqDiff, Nat.reduceAdd, Int.reduceLE, Int.reduceLT, Int.reduceEq, Int.reduceAdd, Int.reduceNeg, Int.reduceToNat, Int.toNat_natCast, ne_eq, not_false_eq_true, not_true_eq_false, or_true, true_or, or_false, false_or]
      · rw [← hA0 (fun w => z2 w.2)]
        simp only [z2, ne_eq, not_false_eq_true, if_true] at f2
        simp only [↓eX12_isPlan_3, ↓eX12_isPlan_4, ↓eX12_isPlan_7, ↓eX12_isPlan_71, ↓eX12_isPlan_72, ↓eX12_isPlan_73, ↓eX12_isPlan_76, ↓eX12_isPlan_77, ↓eX12_isPlan_80, ↓eX12_isPlan_83, ↓eX12_isPlan_84, ↓eX12_isPlan_85, ↓eX12_isPlan_88, ↓eX12_isPlan_91, ↓eX12_isPlan_92, ↓eX12_isPlan_95, ↓eX12_isPlan_96, hk35 h, h0, Int.le_refl, ↓f1, ↓f2, hro, z1, Int.cast_ofNat_Int, kd_si, gr_si, ln_si, gi_same, gi_na, gi_ni, nl_i, nl_r, nl_j, nj_i, nj_l, nj_r, true_and, and_true, and_self, cs_0, cs_1, cs_2, cs_3, cs_4, ↓reduceIte, Nat.reduceLeDiff, Nat.reduceEqDiff, Nat.reduceAdd, Int.reduceLE, Int.reduceLT, Int.reduceEq, Int.reduceAdd, Int.reduceNeg, Int.reduceToNat, Int.toNat_natCast, ne_eq, not_false_eq_true, not_true_eq_false, or_true, true_or, or_false, false_or]
  | succ r ih =>
    intro i a3 hr n3
    have hin : i < n := by omega
    obtain ⟨-, -, -, -, -, -, i7⟩ := hj i hin
    have e1 : ((n : Int) ≤ (i : Int)) = False := eq_false (by omega)
    have e2 : wr ((i : Int) + 1) = ((i + 1 : Nat) : Int) := by rw [wr_id (by omega) (by omega)]; omega
    have i0 : (0 ≤ (i : Int)) = True := eq_true (by omega)
    have i1 : ((i : Int) < 14) = True := eq_true (by omega)
    have s1 := i_shr (s := s) (i := i) hs (by omega)
    have s2 := i_b1 (s := s) (i := i) hs
    have inn := y_pl_in (d := d) (Q := Q) hD0 hs hin i 0 (by omega)
    have inn' : WP (mc (d + 1)) tX12_isPlan 34 [vr (some 35), vi (s : Nat), vi (i : Nat), vi 0] [] M Q = _ := inn
    rw [ff, eX12_isPlan_2]
    by_cases q : s.testBit i = true
    · rw [tb_1 q] at s2
      cases hm : may i with
      | false =>
        have i7' : gi M 81 i = 1 := by rw [i7, hm]; rfl
        have zq : plQ ti ep may s i = true := by unfold plQ; rw [q, hm]; rfl
        rw [if_pos zq, if_pos (by omega)]
        simp only [↓eX12_isPlan_3, ↓eX12_isPlan_4, ↓eX12_isPlan_7, ↓eX12_isPlan_10, ↓eX12_isPlan_11, ↓eX12_isPlan_12, ↓eX12_isPlan_13, ↓eX12_isPlan_14, ↓eX12_isPlan_15, ↓eX12_isPlan_18, ↓eX12_isPlan_21, ↓eX12_isPlan_22, ↓eX12_isPlan_25, ↓eX12_isPlan_26, ↓eX12_isPlan_27, ↓eX12_isPlan_30, ↓eX12_isPlan_31, hk35 h, h0, hr35_74 h, hk81 h, hl81 h, i0, i1, e1, s1, s2, i7', Int.cast_ofNat_Int, kd_si, gr_si, ln_si, gi_same, gi_na, gi_ni, nl_i, nl_r, nl_j, nj_i, nj_l, nj_r, true_and, and_true, and_self, cs_0, cs_1, cs_2, cs_3, cs_4, ↓reduceIte, Nat.reduceLeDiff, Nat.reduceEqDiff, Nat.reduceAdd, Int.reduceLE, Int.reduceLT, Int.reduceEq, Int.reduceAdd, Int.reduceNeg, Int.reduceToNat, Int.toNat_natCast, ne_eq, not_false_eq_true, not_true_eq_false, or_true, true_or, or_false, false_or]
      | true =>
        have i7' : gi M 81 i = 0 := by rw [i7, hm]; rfl
        by_cases z : ff (alQ ti ep s i) i 0 = -1
        · have zq : ¬ plQ ti ep may s i = true := by unfold plQ; rw [q, hm, z]; decide
          rw [if_neg zq, ← ih (i + 1) (vi (i : Nat)) (by omega) (nlI _)]
          rw [if_neg (fun w => w z)] at inn'
          simp only [↓eX12_isPlan_3, ↓eX12_isPlan_4, ↓eX12_isPlan_7, ↓eX12_isPlan_10, ↓eX12_isPlan_11, ↓eX12_isPlan_12, ↓eX12_isPlan_13, ↓eX12_isPlan_14, ↓eX12_isPlan_15, ↓eX12_isPlan_18, ↓eX12_isPlan_21, ↓eX12_isPlan_22, ↓eX12_isPlan_25, ↓eX12_isPlan_26, ↓eX12_isPlan_27, ↓eX12_isPlan_30, ↓eX12_isPlan_31, ↓eX12_isPlan_32, ↓eX12_isPlan_33, n3, hk35 h, h0, hr35_74 h, hk81 h, hl81 h, i0, i1, e1, s1, s2, i7', Int.cast_ofNat_Int, kd_si, gr_si, ln_si, gi_same, gi_na, gi_ni, nl_i, nl_r, nl_j, nj_i, nj_l, nj_r, true_and, and_true, and_self, cs_0, cs_1, cs_2, cs_3, cs_4, ↓reduceIte, Nat.reduceLeDiff, Nat.reduceEqDiff, Nat.reduceAdd, Int.reduceLE, Int.reduceLT, Int.reduceEq, Int.reduceAdd, Int.reduceNeg, Int.reduceToNat, Int.toNat_natCast, ne_eq, not_false_eq_true, not_true_eq_false, or_true, true_or, or_false, false_or]
          rw [inn']
          simp only [↓eX12_isPlan_65, ↓eX12_isPlan_68, e2, Int.cast_ofNat_Int, kd_si, gr_si, ln_si, gi_same, gi_na, gi_ni, nl_i, nl_r, nl_j, nj_i, nj_l, nj_r, true_and, and_true, and_self, cs_0, cs_1, cs_2, cs_3, cs_4, ↓reduceIte, Nat.reduceLeDiff, Nat.reduceEqDiff, Nat.reduceAdd, Int.reduceLE, Int.reduceLT, Int.reduceEq, Int.reduceAdd, Int.reduceNeg, Int.reduceToNat, Int.toNat_natCast, ne_eq, not_false_eq_true, not_true_eq_false, or_true, true_or, or_false, false_or]
        · have zq : plQ ti ep may s i = true := by unfold plQ; rw [q, hm, decide_eq_true z]; rfl
          rw [if_pos zq, if_pos (by omega)]
          rw [if_pos z] at inn'
          simp only [↓eX12_isPlan_3, ↓eX12_isPlan_4, ↓eX12_isPlan_7, ↓eX12_isPlan_10, ↓eX12_isPlan_11, ↓eX12_isPlan_12, ↓eX12_isPlan_13, ↓eX12_isPlan_14, ↓eX12_isPlan_15, ↓eX12_isPlan_18, ↓eX12_isPlan_21, ↓eX12_isPlan_22, ↓eX12_isPlan_25, ↓eX12_isPlan_26, ↓eX12_isPlan_27, ↓eX12_isPlan_30, ↓eX12_isPlan_31, ↓eX12_isPlan_32, ↓eX12_isPlan_33, n3, hk35 h, h0, hr35_74 h, hk81 h, hl81 h, i0, i1, e1, s1, s2, i7', Int.cast_ofNat_Int, kd_si, gr_si, ln_si, gi_same, gi_na, gi_ni, nl_i, nl_r, nl_j, nj_i, nj_l, nj_r, true_and, and_true, and_self, cs_0, cs_1, cs_2, cs_3, cs_4, ↓reduceIte, Nat.reduceLeDiff, Nat.reduceEqDiff, Nat.reduceAdd, Int.reduceLE, Int.reduceLT, Int.reduceEq, Int.reduceAdd, Int.reduceNeg, Int.reduceToNat, Int.toNat_natCast, ne_eq, not_false_eq_true, not_true_eq_false, or_true, true_or, or_false, false_or]
          rw [inn']
    · rw [tb_0 q] at s2
      have zq : ¬ plQ ti ep may s i = true := by unfold plQ; intro v; rw [Bool.and_eq_true] at v; exact q v.1
      rw [if_neg zq, ← ih (i + 1) a3 (by omega) n3]
      simp only [↓eX12_isPlan_3, ↓eX12_isPlan_4, ↓eX12_isPlan_7, ↓eX12_isPlan_10, ↓eX12_isPlan_11, ↓eX12_isPlan_12, ↓eX12_isPlan_13, ↓eX12_isPlan_14, ↓eX12_isPlan_15, ↓eX12_isPlan_18, ↓eX12_isPlan_65, ↓eX12_isPlan_68, hk35 h, h0, e1, e2, s1, s2, Int.cast_ofNat_Int, kd_si, gr_si, ln_si, gi_same, gi_na, gi_ni, nl_i, nl_r, nl_j, nj_i, nj_l, nj_r, true_and, and_true, and_self, cs_0, cs_1, cs_2, cs_3, cs_4, ↓reduceIte, Nat.reduceLeDiff, Nat.reduceEqDiff, Nat.reduceAdd, Int.reduceLE, Int.reduceLT, Int.reduceEq, Int.reduceAdd, Int.reduceNeg, Int.reduceToNat, Int.toNat_natCast, ne_eq, not_false_eq_true, not_true_eq_false, or_true, true_or, or_false, false_or]
theorem y_isPlan (hD : RD M n wt fr un ti ep way may) (hS : SN n wt fr un way) (hs : s < 16384) {tu room : Int} (htu : gi M 35 46 = tu) (hro : gi M 35 49 = room) : (vldQ n fr un ti ep may tu room s → CP (mc (d + 2)) 176 [vr (some 35), vi (s : Nat)] M Q = Q (vi 1) M) ∧ (¬ vldQ n fr un ti ep may tu room s → CP (mc (d + 2)) 176 [vr (some 35), vi (s : Nat)] M Q = Q (vi 0) M) := by
  have e : CP (mc (d + 2)) 176 [vr (some 35), vi (s : Nat)] M Q = WP (mc (d + 1)) tX12_isPlan 2 [vr (some 35), vi (s : Nat), vi 0, vj] [] M Q := by
    simp only [↓cpX12_isPlan, ↓eX12_isPlan_0, ↓eX12_isPlan_1, Int.cast_ofNat_Int, kd_si, gr_si, ln_si, gi_same, gi_na, gi_ni, nl_i, nl_r, nl_j, nj_i, nj_l, nj_r, true_and, and_true, and_self, cs_0, cs_1, cs_2, cs_3, cs_4, ↓reduceIte, Nat.reduceLeDiff, Nat.reduceEqDiff, Nat.reduceAdd, Int.reduceLE, Int.reduceLT, Int.reduceEq, Int.reduceAdd, Int.reduceNeg, Int.reduceToNat, Int.toNat_natCast, ne_eq, not_false_eq_true, not_true_eq_false, or_true, true_or, or_false, false_or]
  rw [e]
  constructor
  · rintro ⟨v1, v2, v3⟩
    have lp := y_pl_loop (d := d) (Q := Q) hD hS hs htu hro (Q (vi 1) M) (fun _ => rfl) (fun w => absurd ⟨v2, v3⟩ w) n 0 vj (by omega) nlJ
    have lp' : WP (mc (d + 1)) tX12_isPlan 2 [vr (some 35), vi (s : Nat), vi 0, vj] [] M Q = _ := lp
    rw [lp', if_neg (fun w => w v1)]
  · intro hv
    by_cases v1 : ff (plQ ti ep may s) n 0 = -1
    · have hv' : ¬ (sm (spn fr un) s n ≤ room ∧ ff (thQ fr un tu n s) n 0 = -1) := fun w => hv ⟨v1, w.1, w.2⟩
      have lp := y_pl_loop (d := d) (Q := Q) hD hS hs htu hro (Q (vi 0) M) (fun w => absurd w hv') (fun _ => rfl) n 0 vj (by omega) nlJ
      have lp' : WP (mc (d + 1)) tX12_isPlan 2 [vr (some 35), vi (s : Nat), vi 0, vj] [] M Q = _ := lp
      rw [lp', if_neg (fun w => w v1)]
    · have lp := y_pl_loop (d := d) (Q := Q) hD hS hs htu hro (if sm (spn fr un) s n ≤ room ∧ ff (thQ fr un tu n s) n 0 = -1 then Q (vi 1) M else Q (vi 0) M) (fun w => by rw [if_pos w]) (fun w => by rw [if_neg w]) n 0 vj (by omega) nlJ
      have lp' : WP (mc (d + 1)) tX12_isPlan 2 [vr (some 35), vi (s : Nat), vi 0, vj] [] M Q = _ := lp
      rw [lp', if_pos v1]
end SETS
