/-! ===== the class prepares ===== -/
def mkb (q : Nat → Bool) : Nat → Nat
  | 0 => 0
  | k + 1 => if q k = true then mkb q k ||| 2 ^ k else mkb q k
theorem mkb_lt (q : Nat → Bool) : ∀ k, mkb q k < 2 ^ k := by
  intro k
  induction k with
  | zero => exact Nat.one_pos
  | succ k ih =>
    rw [mkb]
    have h1 : mkb q k < 2 ^ (k + 1) := Nat.lt_of_lt_of_le ih (Nat.pow_le_pow_right (by decide) (by omega))
    split
    · exact Nat.or_lt_two_pow h1 (Nat.pow_lt_pow_right (by decide) (by omega))
    · exact h1
theorem mkb_tb (q : Nat → Bool) : ∀ k j, (mkb q k).testBit j = (decide (j < k) && q j) := by
  intro k
  induction k with
  | zero => intro j; rw [mkb, Nat.zero_testBit]; simp
  | succ k ih =>
    intro j
    rw [mkb]
    by_cases z : q k = true
    · rw [if_pos z, Nat.testBit_or, ih, Nat.testBit_two_pow]
      by_cases y : j = k
      · subst y
        simp [z]
      · have y' : ¬ k = j := fun w => y w.symm
        by_cases x : j < k
        · simp [x, y', show j < k + 1 by omega]
        · simp [x, y', show ¬ j < k + 1 by omega]
    · rw [if_neg z, ih]
      by_cases y : j = k
      · subst y
        simp [z]
      · by_cases x : j < k
        · simp [x, show j < k + 1 by omega]
        · simp [x, show ¬ j < k + 1 by omega]
/-- a plan ahead, and whether it has one under way -/
def uwq (hin : Nat → Bool) (hf h1 h2 h3 h4 : Nat → Int) (now c1 c2 c3 c4 : Int) (i : Nat) : Bool := hin i && decide (hf i < now ∧ h1 i = c1 ∧ h2 i = c2 ∧ h3 i = c3 ∧ h4 i = c4)
def HP (N : mM) (h nh : Nat) (ch : Nat → Nat) (hin : Nat → Bool) (hf h1 h2 h3 h4 : Nat → Int) : Prop := CB N h nh ch ∧ ∀ i, i < nh → gi N (ch i) 11 = bi (hin i) ∧ gi N (ch i) 7 = hf i ∧ gi N (ch i) 1 = h1 i ∧ gi N (ch i) 2 = h2 i ∧ gi N (ch i) 3 = h3 i ∧ gi N (ch i) 4 = h4 i
theorem x_isSameAs {d a b : Nat} {M : mM} {Q : mV → mM → Prop} (h : kd M a = 0) (hb : kd M b = 0) : CP (mc (d + 1)) 6 [vr (some a), vr (some b)] M Q = if gi M a 1 = gi M b 1 ∧ gi M a 2 = gi M b 2 ∧ gi M a 3 = gi M b 3 ∧ gi M a 4 = gi M b 4 then Q (vi 1) M else Q (vi 0) M := by
  simp only [↓cpX0_isSameAs, ↓eX0_isSameAs_0, ↓eX0_isSameAs_1, ↓eX0_isSameAs_4, ↓eX0_isSameAs_5, ↓eX0_isSameAs_8, ↓eX0_isSameAs_11, ↓eX0_isSameAs_12, ↓eX0_isSameAs_15, ↓eX0_isSameAs_16, ↓eX0_isSameAs_19, ↓eX0_isSameAs_22, ↓eX0_isSameAs_23, ↓eX0_isSameAs_26, ↓eX0_isSameAs_27, ↓eX0_isSameAs_30, ↓eX0_isSameAs_33, ↓eX0_isSameAs_34, ↓eX0_isSameAs_37, ↓eX0_isSameAs_38, ↓eX0_isSameAs_41, ↓eX0_isSameAs_44, ↓eX0_isSameAs_45, ↓eX0_isSameAs_48, ↓eX0_isSameAs_49, h, hb, Int.cast_ofNat_Int, kd_si, gr_si, ln_si, gi_same, gi_na, gi_ni, nl_i, nl_r, nl_j, nj_i, nj_l, nj_r, true_and, and_true, and_self, cs_0, cs_1, cs_2, cs_3, cs_4, ↓reduceIte, Nat.reduceLeDiff, Nat.reduceEqDiff, Nat.reduceAdd, Int.reduceLE, Int.reduceLT, Int.reduceEq, Int.reduceAdd, Int.reduceNeg, Int.reduceToNat, Int.toNat_natCast, ne_eq, not_false_eq_true, not_true_eq_false, or_true, true_or, or_false, false_or]
  by_cases z1 : gi M a 1 = gi M b 1
  · rw [if_pos z1]
    by_cases z2 : gi M a 2 = gi M b 2
    · rw [if_pos z2]
      by_cases z3 : gi M a 3 = gi M b 3
      · rw [if_pos z3]
        by_cases z4 : gi M a 4 = gi M b 4
        · rw [if_pos z4, if_pos ⟨z1, z2, z3, z4⟩]
        · rw [if_neg z4, if_neg (fun w => z4 w.2.2.2)]
      · rw [if_neg z3, if_neg (fun w => z3 w.2.2.1)]
    · rw [if_neg z2, if_neg (fun w => z2 w.2.1)]
  · rw [if_neg z1, if_neg (fun w => z1 w.1)]
section PREP
variable {d : Nat} {N : mM} {Q : mV → mM → Prop} {h nh : Nat} {ch : Nat → Nat} {hin : Nat → Bool} {hf h1 h2 h3 h4 : Nat → Int}
theorem x_uw_loop (hs : SH N) (hH : HP N h nh ch hin hf h1 h2 h3 h4) {x : Nat} (hx : kd N x = 0) {now : Int} : ∀ (r i : Nat) (a4 : mV), i + r = nh → WP (mc (d + 1)) tX4_hasUnderWay 2 [vr (some h), vr (some x), vi now, vi (i : Nat), a4] [] N Q = if ff (uwq hin hf h1 h2 h3 h4 now (gi N x 1) (gi N x 2) (gi N x 3) (gi N x 4)) r i ≠ -1 then Q (vi 1) N else Q (vi 0) N := by
  obtain ⟨hC, hj⟩ := hH
  have hC' := hC
  obtain ⟨hp, hn, h0, hc, -⟩ := hC'
  obtain ⟨k1, k2, k3, k4⟩ := CB_p (n := nh) (cl := ch) hs hp
  intro r
  induction r with
  | zero =>
    intro i a4 hr
    have e : i = nh := by omega
    subst e
    rw [ff, if_neg (fun w => w rfl), eX4_hasUnderWay_2]
    simp only [↓eX4_hasUnderWay_3, ↓eX4_hasUnderWay_4, ↓eX4_hasUnderWay_7, ↓eX4_hasUnderWay_56, ↓eX4_hasUnderWay_57, k1, h0, Int.le_refl, Int.cast_ofNat_Int, kd_si, gr_si, ln_si, gi_same, gi_na, gi_ni, nl_i, nl_r, nl_j, nj_i, nj_l, nj_r, true_and, and_true, and_self, cs_0, cs_1, cs_2, cs_3, cs_4, ↓reduceIte, Nat.reduceLeDiff, Nat.reduceEqDiff, Nat.reduceAdd, Int.reduceLE, Int.reduceLT, Int.reduceEq, Int.reduceAdd, Int.reduceNeg, Int.reduceToNat, Int.toNat_natCast, ne_eq, not_false_eq_true, not_true_eq_false, or_true, true_or, or_false, false_or]
  | succ r ih =>
    intro i a4 hr
    have hin' : i < nh := by omega
    obtain ⟨c1, c2, c3⟩ := hc i hin'
    obtain ⟨i11, i7, i1, i2, i3, i4⟩ := hj i hin'
    have e1 : ((nh : Int) ≤ (i : Int)) = False := eq_false (by omega)
    have e2 : wr ((i : Int) + 1) = ((i + 1 : Nat) : Int) := by rw [wr_id (by omega) (by omega)]; omega
    have fa := fun (Q : mV → mM → Prop) => x_cat (d := d) (N := N) (Q := Q) (p := h) (n := nh) (cl := ch) (j := i) hs hC hin'
    have fs := fun (Q : mV → mM → Prop) => x_isSameAs (d := d) (M := N) (Q := Q) (a := ch i) (b := x) c2 hx
    rw [i1, i2, i3, i4] at fs
    have hih := ih (i + 1) (vr (some (ch i))) (by omega)
    rw [ff, eX4_hasUnderWay_2]
    cases hb : hin i with
    | false =>
      have i11' : gi N (ch i) 11 = 0 := by rw [i11, hb]; rfl
      have z : ¬ uwq hin hf h1 h2 h3 h4 now (gi N x 1) (gi N x 2) (gi N x 3) (gi N x 4) i = true := by unfold uwq; rw [hb]; simp
      rw [if_neg z, ← hih]
      simp only [↓eX4_hasUnderWay_3, ↓eX4_hasUnderWay_4, ↓eX4_hasUnderWay_7, ↓eX4_hasUnderWay_10, ↓eX4_hasUnderWay_11, ↓eX4_hasUnderWay_12, ↓eX4_hasUnderWay_15, ↓eX4_hasUnderWay_17, ↓eX4_hasUnderWay_19, ↓eX4_hasUnderWay_22, ↓eX4_hasUnderWay_24, ↓eX4_hasUnderWay_27, ↓eX4_hasUnderWay_30, ↓eX4_hasUnderWay_32, ↓eX4_hasUnderWay_35, ↓eX4_hasUnderWay_36, ↓eX4_hasUnderWay_39, ↓eX4_hasUnderWay_41, ↓eX4_hasUnderWay_42, ↓eX4_hasUnderWay_45, ↓eX4_hasUnderWay_48, ↓eX4_hasUnderWay_49, ↓eX4_hasUnderWay_50, ↓eX4_hasUnderWay_53, k1, h0, c2, e1, e2, i11', ↓fa, reduceCtorEq, Int.cast_ofNat_Int, kd_si, gr_si, ln_si, gi_same, gi_na, gi_ni, nl_i, nl_r, nl_j, nj_i, nj_l, nj_r, true_and, and_true, and_self, cs_0, cs_1, cs_2, cs_3, cs_4, ↓reduceIte, Nat.reduceLeDiff, Nat.reduceEqDiff, Nat.reduceAdd, Int.reduceLE, Int.reduceLT, Int.reduceEq, Int.reduceAdd, Int.reduceNeg, Int.reduceToNat, Int.toNat_natCast, ne_eq, not_false_eq_true, not_true_eq_false, or_true, true_or, or_false, false_or]
    | true =>
      have i11' : gi N (ch i) 11 = 1 := by rw [i11, hb]; rfl
      by_cases y : hf i < now
      · have y' : (now ≤ hf i) = False := eq_false (by omega)
        by_cases w : h1 i = gi N x 1 ∧ h2 i = gi N x 2 ∧ h3 i = gi N x 3 ∧ h4 i = gi N x 4
        · simp only [if_pos w] at fs
          have z : uwq hin hf h1 h2 h3 h4 now (gi N x 1) (gi N x 2) (gi N x 3) (gi N x 4) i = true := by
            unfold uwq
            rw [hb, decide_eq_true ⟨y, w⟩]
            rfl
          rw [if_pos z, if_pos (by omega)]
          simp only [↓eX4_hasUnderWay_3, ↓eX4_hasUnderWay_4, ↓eX4_hasUnderWay_7, ↓eX4_hasUnderWay_10, ↓eX4_hasUnderWay_11, ↓eX4_hasUnderWay_12, ↓eX4_hasUnderWay_15, ↓eX4_hasUnderWay_17, ↓eX4_hasUnderWay_19, ↓eX4_hasUnderWay_22, ↓eX4_hasUnderWay_24, ↓eX4_hasUnderWay_27, ↓eX4_hasUnderWay_30, ↓eX4_hasUnderWay_32, ↓eX4_hasUnderWay_35, ↓eX4_hasUnderWay_36, ↓eX4_hasUnderWay_39, ↓eX4_hasUnderWay_41, ↓eX4_hasUnderWay_42, ↓eX4_hasUnderWay_45, ↓eX4_hasUnderWay_48, ↓eX4_hasUnderWay_49, ↓eX4_hasUnderWay_50, ↓eX4_hasUnderWay_53, k1, h0, c2, e1, e2, i7, i11', y', ↓fa, ↓fs, reduceCtorEq, Int.cast_ofNat_Int, kd_si, gr_si, ln_si, gi_same, gi_na, gi_ni, nl_i, nl_r, nl_j, nj_i, nj_l, nj_r, true_and, and_true, and_self, cs_0, cs_1, cs_2, cs_3, cs_4, ↓reduceIte, Nat.reduceLeDiff, Nat.reduceEqDiff, Nat.reduceAdd, Int.reduceLE, Int.reduceLT, Int.reduceEq, Int.reduceAdd, Int.reduceNeg, Int.reduceToNat, Int.toNat_natCast, ne_eq, not_false_eq_true, not_true_eq_false, or_true, true_or, or_false, false_or]
        · simp only [if_neg w] at fs
          have z : ¬ uwq hin hf h1 h2 h3 h4 now (gi N x 1) (gi N x 2) (gi N x 3) (gi N x 4) i = true := by
            unfold uwq
            rw [decide_eq_false (fun v => w v.2)]
            simp
          rw [if_neg z, ← hih]
          simp only [↓eX4_hasUnderWay_3, ↓eX4_hasUnderWay_4, ↓eX4_hasUnderWay_7, ↓eX4_hasUnderWay_10, ↓eX4_hasUnderWay_11, ↓eX4_hasUnderWay_12, ↓eX4_hasUnderWay_15, ↓eX4_hasUnderWay_17, ↓eX4_hasUnderWay_19, ↓eX4_hasUnderWay_22, ↓eX4_hasUnderWay_24, ↓eX4_hasUnderWay_27, ↓eX4_hasUnderWay_30, ↓eX4_hasUnderWay_32, ↓eX4_hasUnderWay_35, ↓eX4_hasUnderWay_36, ↓eX4_hasUnderWay_39, ↓eX4_hasUnderWay_41, ↓eX4_hasUnderWay_42, ↓eX4_hasUnderWay_45, ↓eX4_hasUnderWay_48, ↓eX4_hasUnderWay_49, ↓eX4_hasUnderWay_50, ↓eX4_hasUnderWay_53, k1, h0, c2, e1, e2, i7, i11', y', ↓fa, ↓fs, reduceCtorEq, Int.cast_ofNat_Int, kd_si, gr_si, ln_si, gi_same, gi_na, gi_ni, nl_i, nl_r, nl_j, nj_i, nj_l, nj_r, true_and, and_true, and_self, cs_0, cs_1, cs_2, cs_3, cs_4, ↓reduceIte, Nat.reduceLeDiff, Nat.reduceEqDiff, Nat.reduceAdd, Int.reduceLE, Int.reduceLT, Int.reduceEq, Int.reduceAdd, Int.reduceNeg, Int.reduceToNat, Int.toNat_natCast, ne_eq, not_false_eq_true, not_true_eq_false, or_true, true_or, or_false, false_or]
      · have y' : (now ≤ hf i) = True := eq_true (by omega)
        have z : ¬ uwq hin hf h1 h2 h3 h4 now (gi N x 1) (gi N x 2) (gi N x 3) (gi N x 4) i = true := by
          unfold uwq
          rw [decide_eq_false (fun v => y v.1)]
          simp
        rw [if_neg z, ← hih]
        simp only [↓eX4_hasUnderWay_3, ↓eX4_hasUnderWay_4, ↓eX4_hasUnderWay_7, ↓eX4_hasUnderWay_10, ↓eX4_hasUnderWay_11, ↓eX4_hasUnderWay_12, ↓eX4_hasUnderWay_15, ↓eX4_hasUnderWay_17, ↓eX4_hasUnderWay_19, ↓eX4_hasUnderWay_22, ↓eX4_hasUnderWay_24, ↓eX4_hasUnderWay_27, ↓eX4_hasUnderWay_30, ↓eX4_hasUnderWay_32, ↓eX4_hasUnderWay_35, ↓eX4_hasUnderWay_36, ↓eX4_hasUnderWay_39, ↓eX4_hasUnderWay_41, ↓eX4_hasUnderWay_42, ↓eX4_hasUnderWay_45, ↓eX4_hasUnderWay_48, ↓eX4_hasUnderWay_49, ↓eX4_hasUnderWay_50, ↓eX4_hasUnderWay_53, k1, h0, c2, e1, e2, i7, i11', y', ↓fa, reduceCtorEq, Int.cast_ofNat_Int, kd_si, gr_si, ln_si, gi_same, gi_na, gi_ni, nl_i, nl_r, nl_j, nj_i, nj_l, nj_r, true_and, and_true, and_self, cs_0, cs_1, cs_2, cs_3, cs_4, ↓reduceIte, Nat.reduceLeDiff, Nat.reduceEqDiff, Nat.reduceAdd, Int.reduceLE, Int.reduceLT, Int.reduceEq, Int.reduceAdd, Int.reduceNeg, Int.reduceToNat, Int.toNat_natCast, ne_eq, not_false_eq_true, not_true_eq_false, or_true, true_or, or_false, false_or]
theorem x_hasUnderWay (hs : SH N) (hH : HP N h nh ch hin hf h1 h2 h3 h4) {x : Nat} (hx : kd N x = 0) {now : Int} : CP (mc (d + 2)) 38 [vr (some h), vr (some x), vi now] N Q = if ff (uwq hin hf h1 h2 h3 h4 now (gi N x 1) (gi N x 2) (gi N x 3) (gi N x 4)) nh 0 ≠ -1 then Q (vi 1) N else Q (vi 0) N := by
  have lp := x_uw_loop (d := d) (Q := Q) hs hH hx (now := now) nh 0 vj (by omega)
  have lp' : WP (mc (d + 1)) tX4_hasUnderWay 2 [vr (some h), vr (some x), vi now, vi 0, vj] [] N Q = _ := lp
  rw [← lp']
  simp only [↓cpX4_hasUnderWay, ↓eX4_hasUnderWay_0, ↓eX4_hasUnderWay_1, Int.cast_ofNat_Int, kd_si, gr_si, ln_si, gi_same, gi_na, gi_ni, nl_i, nl_r, nl_j, nj_i, nj_l, nj_r, true_and, and_true, and_self, cs_0, cs_1, cs_2, cs_3, cs_4, ↓reduceIte, Nat.reduceLeDiff, Nat.reduceEqDiff, Nat.reduceAdd, Int.reduceLE, Int.reduceLT, Int.reduceEq, Int.reduceAdd, Int.reduceNeg, Int.reduceToNat, Int.toNat_natCast, ne_eq, not_false_eq_true, not_true_eq_false, or_true, true_or, or_false, false_or]
end PREP
/-- earlier ones that are on, and that are one -/
def eoq (fr un : Nat → Int) (j k : Nat) : Bool := decide (fr k ≤ fr j ∧ fr j < un k)
def ebq (lo : Nat → Int) (j k : Nat) : Bool := decide (lo k = lo j)
def meM (N : mM) (x : Nat) (a b : Int) : mM := si (si N x 14 a) x 15 b
theorem si_comm {M : mM} {a i b j : Nat} {y z : Int} (h : ¬ (a = b ∧ i = j)) : si (si M a i y) b j z = si (si M b j z) a i y := by
  unfold si
  congr 1
  funext c k
  simp only
  by_cases z1 : c = b ∧ k = j
  · by_cases z2 : c = a ∧ k = i
    · exact absurd ⟨z2.1.symm.trans z1.1, z2.2.symm.trans z1.2⟩ h
    · rw [if_pos z1, if_neg z2, if_pos z1]
  · by_cases z2 : c = a ∧ k = i
    · rw [if_neg z1, if_pos z2, if_pos z2]
    · rw [if_neg z1, if_neg z2, if_neg z2, if_neg z1]
theorem meM14 {N : mM} {x : Nat} {a b c : Int} : si (meM N x a b) x 14 c = meM N x c b := by
  unfold meM
  rw [si_comm (by omega), si_si]
theorem meM15 {N : mM} {x : Nat} {a b c : Int} : si (meM N x a b) x 15 c = meM N x a c := by
  unfold meM
  rw [si_si]
theorem gi_me14 {N : mM} {x : Nat} {a b : Int} : gi (meM N x a b) x 14 = a := by unfold meM; rw [gi_ni (by decide), gi_same]
theorem gi_me15 {N : mM} {x : Nat} {a b : Int} : gi (meM N x a b) x 15 = b := by unfold meM; rw [gi_same]
theorem gi_meo {N : mM} {x y i : Nat} {a b : Int} (h : ¬ (i = 14 ∨ i = 15)) : gi (meM N x a b) y i = gi N y i := by
  unfold meM
  rw [gi_si, if_neg (fun w => h (Or.inr w.2)), gi_si, if_neg (fun w => h (Or.inl w.2))]
section MARK
variable {d p n : Nat} {N : mM} {Q : mV → mM → Prop} {cl : Nat → Nat} {fr un lo : Nat → Int}
theorem x_me_loop (hs : SH N) (hC : CB N p n cl) (hx : ∀ j, j < n → gi N (cl j) 5 = lo j ∧ gi N (cl j) 7 = fr j ∧ gi N (cl j) 8 = un j) {i : Nat} (hi : i < n) : ∀ (r j : Nat) (a4 : mV), j + r = i → WP (mc (d + 1)) tX4_markEarlier 12 [vr (some p), vr (some (cl i)), vi (i : Nat), vi (j : Nat), a4] [] (meM N (cl i) (mkb (eoq fr un i) j : Nat) (mkb (ebq lo i) j : Nat)) Q = Q vj (meM N (cl i) (mkb (eoq fr un i) i : Nat) (mkb (ebq lo i) i : Nat)) := by
  have hC' := hC
  obtain ⟨hp, hn, h0, hc, hinj⟩ := hC'
  obtain ⟨k1, k2, k3, k4⟩ := CB_p (n := n) (cl := cl) hs hp
  obtain ⟨c1, c2, c3⟩ := hc i hi
  obtain ⟨x5, x7, x8⟩ := hx i hi
  intro r
  induction r with
  | zero =>
    intro j a4 hr
    have e : j = i := by omega
    subst e
    rw [eX4_markEarlier_12]
    simp only [↓eX4_markEarlier_13, ↓eX4_markEarlier_14, ↓eX4_markEarlier_85, Int.le_refl, Int.cast_ofNat_Int, kd_si, gr_si, ln_si, gi_same, gi_na, gi_ni, nl_i, nl_r, nl_j, nj_i, nj_l, nj_r, true_and, and_true, and_self, cs_0, cs_1, cs_2, cs_3, cs_4, ↓reduceIte, Nat.reduceLeDiff, Nat.reduceEqDiff, Nat.reduceAdd, Int.reduceLE, Int.reduceLT, Int.reduceEq, Int.reduceAdd, Int.reduceNeg, Int.reduceToNat, Int.toNat_natCast, ne_eq, not_false_eq_true, not_true_eq_false, or_true, true_or, or_false, false_or]
  | succ r ih =>
    intro j a4 hr
    have hjn : j < n := by omega
    obtain ⟨d1, d2, d3⟩ := hc j hjn
    obtain ⟨y5, y7, y8⟩ := hx j hjn
    have e1 : ((i : Int) ≤ (j : Int)) = False := eq_false (by omega)
    have e2 : wr ((j : Int) + 1) = ((j + 1 : Nat) : Int) := by rw [wr_id (by omega) (by omega)]; omega
    rw [← ih (j + 1) (vr (some (cl j))) (by omega), mkb, mkb, eX4_markEarlier_12]
    have b1 := mkb_lt (eoq fr un i) j
    have b2 := mkb_lt (ebq lo i) j
    generalize mkb (eoq fr un i) j = u at *
    generalize mkb (ebq lo i) j = v at *
    have p1 : 2 ^ j < 16384 := Nat.pow_lt_pow_right (a := 2) (n := 14) (by decide) (by omega)
    have s1 := i_shl (i := j) (by omega)
    have o1 := i_or (a := u) (b := 2 ^ j) (by omega) p1
    have o2 := i_or (a := v) (b := 2 ^ j) (by omega) p1
    have hM : ∀ a b : Int, SH (meM N (cl i) a b) := fun a b => hs
    have fa := fun (Q : mV → mM → Prop) => x_cat (d := d) (N := meM N (cl i) u v) (Q := Q) (p := p) (n := n) (cl := cl) (j := j) (hM _ _) (CB_f (B := N) rfl (gi_meo (by omega)) hC) hjn
    have fs := fun (Q : mV → mM → Prop) => x_spansSlot (d := d) (M := meM N (cl i) u v) (Q := Q) (a := cl j) (x := fr i) d2
    rw [gi_meo (by omega), gi_meo (by omega), y7, y8] at fs
    have fo := fun (Q : mV → mM → Prop) (a : Int) => x_isOneWith (d := d) (M := meM N (cl i) a v) (Q := Q) (a := cl j) (b := cl i) d2 c2
    have kk : ∀ (a b : Int) (z : Nat), kd (meM N (cl i) a b) z = kd N z := fun _ _ _ => rfl
    have g7 : ∀ a b : Int, gi (meM N (cl i) a b) (cl i) 7 = fr i := fun a b => by rw [gi_meo (by omega)]; exact x7
    have o5 : ∀ a : Int, (gi (meM N (cl i) a v) (cl j) 5 = gi (meM N (cl i) a v) (cl i) 5) = (lo j = lo i) := fun a => by rw [gi_meo (by omega), gi_meo (by omega), x5, y5]
    simp only [o5] at fo
    by_cases q1 : fr j ≤ fr i ∧ fr i < un j
    · have z1 : eoq fr un i j = true := decide_eq_true q1
      rw [if_pos z1]
      simp only [if_pos q1] at fs
      by_cases q2 : lo j = lo i
      · have z2 : ebq lo i j = true := decide_eq_true q2
        rw [if_pos z2]
        simp only [if_pos q2] at fo
        simp only [↓eX4_markEarlier_13, ↓eX4_markEarlier_14, ↓eX4_markEarlier_17, ↓eX4_markEarlier_18, ↓eX4_markEarlier_19, ↓eX4_markEarlier_22, ↓eX4_markEarlier_24, ↓eX4_markEarlier_26, ↓eX4_markEarlier_29, ↓eX4_markEarlier_31, ↓eX4_markEarlier_32, ↓eX4_markEarlier_35, ↓eX4_markEarlier_38, ↓eX4_markEarlier_41, ↓eX4_markEarlier_42, ↓eX4_markEarlier_43, ↓eX4_markEarlier_46, ↓eX4_markEarlier_47, ↓eX4_markEarlier_48, ↓eX4_markEarlier_49, ↓eX4_markEarlier_50, ↓eX4_markEarlier_53, ↓eX4_markEarlier_55, ↓eX4_markEarlier_58, ↓eX4_markEarlier_60, ↓eX4_markEarlier_61, ↓eX4_markEarlier_64, ↓eX4_markEarlier_67, ↓eX4_markEarlier_68, ↓eX4_markEarlier_69, ↓eX4_markEarlier_72, ↓eX4_markEarlier_73, ↓eX4_markEarlier_74, ↓eX4_markEarlier_75, ↓eX4_markEarlier_76, ↓eX4_markEarlier_79, ↓eX4_markEarlier_82, e1, e2, k1, c2, d2, kk, g7, gi_me14, gi_me15, meM14, meM15, s1, o1, o2, ↓fa, ↓fs, ↓fo, reduceCtorEq, Int.cast_ofNat_Int, kd_si, gr_si, ln_si, gi_same, gi_na, gi_ni, nl_i, nl_r, nl_j, nj_i, nj_l, nj_r, true_and, and_true, and_self, cs_0, cs_1, cs_2, cs_3, cs_4, ↓reduceIte, Nat.reduceLeDiff, Nat.reduceEqDiff, Nat.reduceAdd, Int.reduceLE, Int.reduceLT, Int.reduceEq, Int.reduceAdd, Int.reduceNeg, Int.reduceToNat, Int.toNat_natCast, ne_eq, not_false_eq_true, not_true_eq_false, or_true, true_or, or_false, false_or]
      · have z2 : ¬ ebq lo i j = true := by unfold ebq; rw [decide_eq_false q2]; decide
        rw [if_neg z2]
        simp only [if_neg q2] at fo
        simp only [↓eX4_markEarlier_13, ↓eX4_markEarlier_14, ↓eX4_markEarlier_17, ↓eX4_markEarlier_18, ↓eX4_markEarlier_19, ↓eX4_markEarlier_22, ↓eX4_markEarlier_24, ↓eX4_markEarlier_26, ↓eX4_markEarlier_29, ↓eX4_markEarlier_31, ↓eX4_markEarlier_32, ↓eX4_markEarlier_35, ↓eX4_markEarlier_38, ↓eX4_markEarlier_41, ↓eX4_markEarlier_42, ↓eX4_markEarlier_43, ↓eX4_markEarlier_46, ↓eX4_markEarlier_47, ↓eX4_markEarlier_48, ↓eX4_markEarlier_49, ↓eX4_markEarlier_50, ↓eX4_markEarlier_53, ↓eX4_markEarlier_55, ↓eX4_markEarlier_58, ↓eX4_markEarlier_60, ↓eX4_markEarlier_61, ↓eX4_markEarlier_64, ↓eX4_markEarlier_67, ↓eX4_markEarlier_68, ↓eX4_markEarlier_69, ↓eX4_markEarlier_72, ↓eX4_markEarlier_73, ↓eX4_markEarlier_74, ↓eX4_markEarlier_75, ↓eX4_markEarlier_76, ↓eX4_markEarlier_79, ↓eX4_markEarlier_82, e1, e2, k1, c2, d2, kk, g7, gi_me14, gi_me15, meM14, meM15, s1, o1, o2, ↓fa, ↓fs, ↓fo, reduceCtorEq, Int.cast_ofNat_Int, kd_si, gr_si, ln_si, gi_same, gi_na, gi_ni, nl_i, nl_r, nl_j, nj_i, nj_l, nj_r, true_and, and_true, and_self, cs_0, cs_1, cs_2, cs_3, cs_4, ↓reduceIte, Nat.reduceLeDiff, Nat.reduceEqDiff, Nat.reduceAdd, Int.reduceLE, Int.reduceLT, Int.reduceEq, Int.reduceAdd, Int.reduceNeg, Int.reduceToNat, Int.toNat_natCast, ne_eq, not_false_eq_true, not_true_eq_false, or_true, true_or, or_false, false_or]
    · have z1 : ¬ eoq fr un i j = true := by unfold eoq; rw [decide_eq_false q1]; decide
      rw [if_neg z1]
      simp only [if_neg q1] at fs
      by_cases q2 : lo j = lo i
      · have z2 : ebq lo i j = true := decide_eq_true q2
        rw [if_pos z2]
        simp only [if_pos q2] at fo
        simp only [↓eX4_markEarlier_13, ↓eX4_markEarlier_14, ↓eX4_markEarlier_17, ↓eX4_markEarlier_18, ↓eX4_markEarlier_19, ↓eX4_markEarlier_22, ↓eX4_markEarlier_24, ↓eX4_markEarlier_26, ↓eX4_markEarlier_29, ↓eX4_markEarlier_31, ↓eX4_markEarlier_32, ↓eX4_markEarlier_35, ↓eX4_markEarlier_38, ↓eX4_markEarlier_41, ↓eX4_markEarlier_42, ↓eX4_markEarlier_43, ↓eX4_markEarlier_46, ↓eX4_markEarlier_47, ↓eX4_markEarlier_48, ↓eX4_markEarlier_49, ↓eX4_markEarlier_50, ↓eX4_markEarlier_53, ↓eX4_markEarlier_55, ↓eX4_markEarlier_58, ↓eX4_markEarlier_60, ↓eX4_markEarlier_61, ↓eX4_markEarlier_64, ↓eX4_markEarlier_67, ↓eX4_markEarlier_68, ↓eX4_markEarlier_69, ↓eX4_markEarlier_72, ↓eX4_markEarlier_73, ↓eX4_markEarlier_74, ↓eX4_markEarlier_75, ↓eX4_markEarlier_76, ↓eX4_markEarlier_79, ↓eX4_markEarlier_82, e1, e2, k1, c2, d2, kk, g7, gi_me14, gi_me15, meM14, meM15, s1, o1, o2, ↓fa, ↓fs, ↓fo, reduceCtorEq, Int.cast_ofNat_Int, kd_si, gr_si, ln_si, gi_same, gi_na, gi_ni, nl_i, nl_r, nl_j, nj_i, nj_l, nj_r, true_and, and_true, and_self, cs_0, cs_1, cs_2, cs_3, cs_4, ↓reduceIte, Nat.reduceLeDiff, Nat.reduceEqDiff, Nat.reduceAdd, Int.reduceLE, Int.reduceLT, Int.reduceEq, Int.reduceAdd, Int.reduceNeg, Int.reduceToNat, Int.toNat_natCast, ne_eq, not_false_eq_true, not_true_eq_false, or_true, true_or, or_false, false_or]
      · have z2 : ¬ ebq lo i j = true := by unfold ebq; rw [decide_eq_false q2]; decide
        rw [if_neg z2]
        simp only [if_neg q2] at fo
        simp only [↓eX4_markEarlier_13, ↓eX4_markEarlier_14, ↓eX4_markEarlier_17, ↓eX4_markEarlier_18, ↓eX4_markEarlier_19, ↓eX4_markEarlier_22, ↓eX4_markEarlier_24, ↓eX4_markEarlier_26, ↓eX4_markEarlier_29, ↓eX4_markEarlier_31, ↓eX4_markEarlier_32, ↓eX4_markEarlier_35, ↓eX4_markEarlier_38, ↓eX4_markEarlier_41, ↓eX4_markEarlier_42, ↓eX4_markEarlier_43, ↓eX4_markEarlier_46, ↓eX4_markEarlier_47, ↓eX4_markEarlier_48, ↓eX4_markEarlier_49, ↓eX4_markEarlier_50, ↓eX4_markEarlier_53, ↓eX4_markEarlier_55, ↓eX4_markEarlier_58, ↓eX4_markEarlier_60, ↓eX4_markEarlier_61, ↓eX4_markEarlier_64, ↓eX4_markEarlier_67, ↓eX4_markEarlier_68, ↓eX4_markEarlier_69, ↓eX4_markEarlier_72, ↓eX4_markEarlier_73, ↓eX4_markEarlier_74, ↓eX4_markEarlier_75, ↓eX4_markEarlier_76, ↓eX4_markEarlier_79, ↓eX4_markEarlier_82, e1, e2, k1, c2, d2, kk, g7, gi_me14, gi_me15, meM14, meM15, s1, o1, o2, ↓fa, ↓fs, ↓fo, reduceCtorEq, Int.cast_ofNat_Int, kd_si, gr_si, ln_si, gi_same, gi_na, gi_ni, nl_i, nl_r, nl_j, nj_i, nj_l, nj_r, true_and, and_true, and_self, cs_0, cs_1, cs_2, cs_3, cs_4, ↓reduceIte, Nat.reduceLeDiff, Nat.reduceEqDiff, Nat.reduceAdd, Int.reduceLE, Int.reduceLT, Int.reduceEq, Int.reduceAdd, Int.reduceNeg, Int.reduceToNat, Int.toNat_natCast, ne_eq, not_false_eq_true, not_true_eq_false, or_true, true_or, or_false, false_or]
theorem x_markEarlier (hs : SH N) (hC : CB N p n cl) (hx : ∀ j, j < n → gi N (cl j) 5 = lo j ∧ gi N (cl j) 7 = fr j ∧ gi N (cl j) 8 = un j) {i : Nat} (hi : i < n) : CP (mc (d + 2)) 39 [vr (some p), vr (some (cl i)), vi (i : Nat)] N Q = Q vj (meM N (cl i) (mkb (eoq fr un i) i : Nat) (mkb (ebq lo i) i : Nat)) := by
  have lp := x_me_loop (d := d) (Q := Q) hs hC hx hi i 0 vj (by omega)
  have c2 := (hC.2.2.2.1 i hi).2.1
  have lp' : WP (mc (d + 1)) tX4_markEarlier 12 [vr (some p), vr (some (cl i)), vi (i : Nat), vi 0, vj] [] (si (si N (cl i) 14 0) (cl i) 15 0) Q = _ := lp
  rw [← lp']
  simp only [↓cpX4_markEarlier, ↓eX4_markEarlier_0, ↓eX4_markEarlier_1, ↓eX4_markEarlier_2, ↓eX4_markEarlier_5, ↓eX4_markEarlier_6, ↓eX4_markEarlier_7, ↓eX4_markEarlier_10, ↓eX4_markEarlier_11, c2, Int.cast_ofNat_Int, kd_si, gr_si, ln_si, gi_same, gi_na, gi_ni, nl_i, nl_r, nl_j, nj_i, nj_l, nj_r, true_and, and_true, and_self, cs_0, cs_1, cs_2, cs_3, cs_4, ↓reduceIte, Nat.reduceLeDiff, Nat.reduceEqDiff, Nat.reduceAdd, Int.reduceLE, Int.reduceLT, Int.reduceEq, Int.reduceAdd, Int.reduceNeg, Int.reduceToNat, Int.toNat_natCast, ne_eq, not_false_eq_true, not_true_eq_false, or_true, true_or, or_false, false_or]
end MARK
