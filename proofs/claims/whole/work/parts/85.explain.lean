/-! ===== the class explains ===== -/
/-- the first one, or -1 -/
def ff (q : Nat → Bool) : Nat → Nat → Int
  | 0, _ => -1
  | r + 1, i => if q i = true then (i : Int) else ff q r (i + 1)
theorem ff_ex {q : Nat → Bool} : ∀ r i, ff q r i ≠ -1 ↔ ∃ j, i ≤ j ∧ j < i + r ∧ q j = true := by
  intro r
  induction r with
  | zero =>
    intro i
    rw [ff]
    exact ⟨fun h => absurd rfl h, fun ⟨j, h1, h2, _⟩ => by omega⟩
  | succ r ih =>
    intro i
    rw [ff]
    by_cases z : q i = true
    · rw [if_pos z]
      exact ⟨fun _ => ⟨i, Nat.le_refl i, by omega, z⟩, fun _ => by omega⟩
    · rw [if_neg z, ih]
      constructor
      · rintro ⟨j, h1, h2, h3⟩
        exact ⟨j, by omega, by omega, h3⟩
      · rintro ⟨j, h1, h2, h3⟩
        refine ⟨j, ?_, by omega, h3⟩
        rcases Nat.lt_or_ge i j with w | w
        · exact w
        · have : j = i := by omega
          rw [this] at h3
          exact absurd h3 z
theorem ff_congr {q q' : Nat → Bool} : ∀ r i, (∀ j, i ≤ j → j < i + r → q j = q' j) → ff q r i = ff q' r i := by
  intro r
  induction r with
  | zero => intro i _; rfl
  | succ r ih =>
    intro i h
    rw [ff, ff, h i (Nat.le_refl i) (by omega), ih (i + 1) (fun j h1 h2 => h j (by omega) (by omega))]
theorem ff_bd {q : Nat → Bool} : ∀ r i, ff q r i = -1 ∨ (i ≤ ff q r i ∧ ff q r i < i + r) := by
  intro r
  induction r with
  | zero => intro i; exact Or.inl rfl
  | succ r ih =>
    intro i
    rw [ff]
    split
    · exact Or.inr (by omega)
    · rcases ih (i + 1) with w | w
      · exact Or.inl w
      · exact Or.inr (by omega)
/-- on at slot x -/
def slN (fr un : Nat → Int) (x : Int) (j : Nat) : Int := if fr j ≤ x ∧ x < un j then 1 else 0
/-- the lightest one, the first such: so far l with weight w -/
def lmf (q : Nat → Bool) (wt : Nat → Int) : Nat → Nat → Int → Int → Int
  | 0, _, l, _ => l
  | r + 1, i, l, w => if q i = true ∧ (l = -1 ∨ wt i < w) then lmf q wt r (i + 1) i (wt i) else lmf q wt r (i + 1) l w
def oneQ (lo : Nat → Int) (b j i : Nat) : Bool := b.testBit i && decide (lo i = lo j)
def crdQ (fr un : Nat → Int) (tu : Int) (n b j i : Nat) : Bool := b.testBit i && decide ((fr j ≤ fr i ∧ fr i < un j) ∧ tu ≤ sm (slN fr un (fr i)) b n)
def metQ (fr un : Nat → Int) (b j i : Nat) : Bool := b.testBit i && decide (fr i < un j ∧ fr j < un i)
def whyP (n b : Nat) (fr un lo : Nat → Int) (may : Nat → Bool) (tu room : Int) (j : Nat) : Int :=
  if b.testBit j = true then 0 else if may j = false then 1 else if ff (oneQ lo b j) n 0 ≠ -1 then 2 else if tu ≤ sm (slN fr un (fr j)) b n ∨ ff (crdQ fr un tu n b j) n 0 ≠ -1 then 3 else if room < sm (spn fr un) b n + spn fr un j then 4 else 5
def rivP (n b : Nat) (wt fr un lo : Nat → Int) (j : Nat) (y : Int) : Int := if y = 2 then ff (oneQ lo b j) n 0 else if y = 3 then lmf (metQ fr un b j) wt n 0 (-1) 0 else -1
def CX (N : mM) (p n : Nat) (cl : Nat → Nat) (wt fr un lo : Nat → Int) (may : Nat → Bool) (b : Nat) : Prop := SH N ∧ CB N p n cl ∧ ∀ j, j < n → gi N (cl j) 5 = lo j ∧ gi N (cl j) 6 = wt j ∧ gi N (cl j) 7 = fr j ∧ gi N (cl j) 8 = un j ∧ gi N (cl j) 10 = bi (may j) ∧ gi N (cl j) 11 = tb b j
theorem x_spansSlot {d a : Nat} {M : mM} {Q : mV → mM → Prop} {x : Int} (h : kd M a = 0) : CP (mc (d + 1)) 3 [vr (some a), vi x] M Q = if gi M a 7 ≤ x ∧ x < gi M a 8 then Q (vi 1) M else Q (vi 0) M := by
  simp only [↓cpX0_spansSlot, ↓eX0_spansSlot_0, ↓eX0_spansSlot_1, ↓eX0_spansSlot_4, ↓eX0_spansSlot_5, ↓eX0_spansSlot_8, ↓eX0_spansSlot_9, ↓eX0_spansSlot_10, ↓eX0_spansSlot_13, ↓eX0_spansSlot_16, ↓eX0_spansSlot_17, ↓eX0_spansSlot_20, ↓eX0_spansSlot_21, h, Int.cast_ofNat_Int, kd_si, gr_si, ln_si, gi_same, gi_na, gi_ni, nl_i, nl_r, nl_j, nj_i, nj_l, nj_r, true_and, and_true, and_self, cs_0, cs_1, cs_2, cs_3, cs_4, ↓reduceIte, Nat.reduceLeDiff, Nat.reduceEqDiff, Nat.reduceAdd, Int.reduceLE, Int.reduceLT, Int.reduceEq, Int.reduceAdd, Int.reduceNeg, Int.reduceToNat, Int.toNat_natCast, ne_eq, not_false_eq_true, not_true_eq_false, or_true, true_or, or_false, false_or]
  repeat (first | refine ifl (fun z => by omega) (fun z => ?_) | refine ifr (fun z => by omega) (fun z => ?_))
  rw [if_pos (by omega)]
theorem x_meets {d a b : Nat} {M : mM} {Q : mV → mM → Prop} (h : kd M a = 0) (hb : kd M b = 0) : CP (mc (d + 1)) 4 [vr (some a), vr (some b)] M Q = if gi M a 7 < gi M b 8 ∧ gi M b 7 < gi M a 8 then Q (vi 1) M else Q (vi 0) M := by
  simp only [↓cpX0_meets, ↓eX0_meets_0, ↓eX0_meets_1, ↓eX0_meets_4, ↓eX0_meets_5, ↓eX0_meets_8, ↓eX0_meets_11, ↓eX0_meets_12, ↓eX0_meets_15, ↓eX0_meets_16, ↓eX0_meets_19, ↓eX0_meets_22, ↓eX0_meets_23, ↓eX0_meets_26, ↓eX0_meets_27, h, hb, Int.cast_ofNat_Int, kd_si, gr_si, ln_si, gi_same, gi_na, gi_ni, nl_i, nl_r, nl_j, nj_i, nj_l, nj_r, true_and, and_true, and_self, cs_0, cs_1, cs_2, cs_3, cs_4, ↓reduceIte, Nat.reduceLeDiff, Nat.reduceEqDiff, Nat.reduceAdd, Int.reduceLE, Int.reduceLT, Int.reduceEq, Int.reduceAdd, Int.reduceNeg, Int.reduceToNat, Int.toNat_natCast, ne_eq, not_false_eq_true, not_true_eq_false, or_true, true_or, or_false, false_or]
  repeat (first | refine ifl (fun z => by omega) (fun z => ?_) | refine ifr (fun z => by omega) (fun z => ?_))
  rw [if_pos (by omega)]
theorem x_isOneWith {d a b : Nat} {M : mM} {Q : mV → mM → Prop} (h : kd M a = 0) (hb : kd M b = 0) : CP (mc (d + 1)) 5 [vr (some a), vr (some b)] M Q = if gi M a 5 = gi M b 5 then Q (vi 1) M else Q (vi 0) M := by
  simp only [↓cpX0_isOneWith, ↓eX0_isOneWith_0, ↓eX0_isOneWith_1, ↓eX0_isOneWith_4, ↓eX0_isOneWith_5, ↓eX0_isOneWith_8, ↓eX0_isOneWith_11, ↓eX0_isOneWith_12, ↓eX0_isOneWith_15, ↓eX0_isOneWith_16, h, hb, Int.cast_ofNat_Int, kd_si, gr_si, ln_si, gi_same, gi_na, gi_ni, nl_i, nl_r, nl_j, nj_i, nj_l, nj_r, true_and, and_true, and_self, cs_0, cs_1, cs_2, cs_3, cs_4, ↓reduceIte, Nat.reduceLeDiff, Nat.reduceEqDiff, Nat.reduceAdd, Int.reduceLE, Int.reduceLT, Int.reduceEq, Int.reduceAdd, Int.reduceNeg, Int.reduceToNat, Int.toNat_natCast, ne_eq, not_false_eq_true, not_true_eq_false, or_true, true_or, or_false, false_or]
section EXPL
variable {d p n b : Nat} {N : mM} {Q : mV → mM → Prop} {cl : Nat → Nat} {wt fr un lo : Nat → Int} {may : Nat → Bool}
theorem x_mo_loop (hX : CX N p n cl wt fr un lo may b) {x : Int} : ∀ (r i : Nat) (a4 : mV), i + r = n → WP (mc (d + 1)) tX4_membersOn 4 [vr (some p), vi x, vi (sm (slN fr un x) b i), vi (i : Nat), a4] [] N Q = Q (vi (sm (slN fr un x) b n)) N := by
  obtain ⟨h, hC, hj⟩ := hX
  have hC' := hC
  obtain ⟨hp, hn, h0, hc, hi⟩ := hC'
  obtain ⟨k1, k2, k3, k4⟩ := CB_p (n := n) (cl := cl) h hp
  intro r
  induction r with
  | zero =>
    intro i a4 hr
    have e : i = n := by omega
    subst e
    rw [eX4_membersOn_4]
    simp only [↓eX4_membersOn_5, ↓eX4_membersOn_6, ↓eX4_membersOn_9, ↓eX4_membersOn_50, ↓eX4_membersOn_51, k1, h0, Int.le_refl, Int.cast_ofNat_Int, kd_si, gr_si, ln_si, gi_same, gi_na, gi_ni, nl_i, nl_r, nl_j, nj_i, nj_l, nj_r, true_and, and_true, and_self, cs_0, cs_1, cs_2, cs_3, cs_4, ↓reduceIte, Nat.reduceLeDiff, Nat.reduceEqDiff, Nat.reduceAdd, Int.reduceLE, Int.reduceLT, Int.reduceEq, Int.reduceAdd, Int.reduceNeg, Int.reduceToNat, Int.toNat_natCast, ne_eq, not_false_eq_true, not_true_eq_false, or_true, true_or, or_false, false_or]
  | succ r ih =>
    intro i a4 hr
    have hin : i < n := by omega
    obtain ⟨c1, c2, c3⟩ := hc i hin
    obtain ⟨j5, j6, j7, j8, j10, j11⟩ := hj i hin
    have e1 : ((n : Int) ≤ (i : Int)) = False := eq_false (by omega)
    have e2 : wr ((i : Int) + 1) = ((i + 1 : Nat) : Int) := by rw [wr_id (by omega) (by omega)]; omega
    have fa := fun (Q : mV → mM → Prop) => x_cat (d := d) (N := N) (Q := Q) (p := p) (n := n) (cl := cl) (j := i) h hC hin
    have fs := fun (Q : mV → mM → Prop) => x_spansSlot (d := d) (M := N) (Q := Q) (a := cl i) (x := x) c2
    rw [j7, j8] at fs
    have b1 := sm_bd (f := slN fr un x) (s := b) (b := 1) (by decide) i (fun j _ => by unfold slN; split <;> omega)
    have e3 : wr (sm (slN fr un x) b i + 1) = sm (slN fr un x) b i + 1 := wr_id (by omega) (by omega)
    rw [← ih (i + 1) (vr (some (cl i))) (by omega), sm_s, eX4_membersOn_4]
    by_cases q : b.testBit i = true
    · rw [if_pos q]
      rw [tb_1 q] at j11
      unfold slN at *
      by_cases w : fr i ≤ x ∧ x < un i
      · rw [if_pos w]
        simp only [if_pos w] at fs
        simp only [↓eX4_membersOn_5, ↓eX4_membersOn_6, ↓eX4_membersOn_9, ↓eX4_membersOn_12, ↓eX4_membersOn_13, ↓eX4_membersOn_14, ↓eX4_membersOn_17, ↓eX4_membersOn_19, ↓eX4_membersOn_21, ↓eX4_membersOn_24, ↓eX4_membersOn_26, ↓eX4_membersOn_29, ↓eX4_membersOn_32, ↓eX4_membersOn_34, ↓eX4_membersOn_35, ↓eX4_membersOn_38, ↓eX4_membersOn_41, ↓eX4_membersOn_44, ↓eX4_membersOn_47, k1, h0, c2, e1, e2, e3, j11, ↓fa, ↓fs, reduceCtorEq, Int.cast_ofNat_Int, kd_si, gr_si, ln_si, gi_same, gi_na, gi_ni, nl_i, nl_r, nl_j, nj_i, nj_l, nj_r, true_and, and_true, and_self, cs_0, cs_1, cs_2, cs_3, cs_4, ↓reduceIte, Nat.reduceLeDiff, Nat.reduceEqDiff, Nat.reduceAdd, Int.reduceLE, Int.reduceLT, Int.reduceEq, Int.reduceAdd, Int.reduceNeg, Int.reduceToNat, Int.toNat_natCast, ne_eq, not_false_eq_true, not_true_eq_false, or_true, true_or, or_false, false_or]
      · rw [if_neg w]
        simp only [if_neg w] at fs
        simp only [↓eX4_membersOn_5, ↓eX4_membersOn_6, ↓eX4_membersOn_9, ↓eX4_membersOn_12, ↓eX4_membersOn_13, ↓eX4_membersOn_14, ↓eX4_membersOn_17, ↓eX4_membersOn_19, ↓eX4_membersOn_21, ↓eX4_membersOn_24, ↓eX4_membersOn_26, ↓eX4_membersOn_29, ↓eX4_membersOn_32, ↓eX4_membersOn_34, ↓eX4_membersOn_35, ↓eX4_membersOn_38, ↓eX4_membersOn_41, ↓eX4_membersOn_44, ↓eX4_membersOn_47, k1, h0, c2, e1, e2, e3, j11, ↓fa, ↓fs, Int.add_zero, reduceCtorEq, Int.cast_ofNat_Int, kd_si, gr_si, ln_si, gi_same, gi_na, gi_ni, nl_i, nl_r, nl_j, nj_i, nj_l, nj_r, true_and, and_true, and_self, cs_0, cs_1, cs_2, cs_3, cs_4, ↓reduceIte, Nat.reduceLeDiff, Nat.reduceEqDiff, Nat.reduceAdd, Int.reduceLE, Int.reduceLT, Int.reduceEq, Int.reduceAdd, Int.reduceNeg, Int.reduceToNat, Int.toNat_natCast, ne_eq, not_false_eq_true, not_true_eq_false, or_true, true_or, or_false, false_or]
    · rw [if_neg q]
      rw [tb_0 q] at j11
      simp only [↓eX4_membersOn_5, ↓eX4_membersOn_6, ↓eX4_membersOn_9, ↓eX4_membersOn_12, ↓eX4_membersOn_13, ↓eX4_membersOn_14, ↓eX4_membersOn_17, ↓eX4_membersOn_19, ↓eX4_membersOn_21, ↓eX4_membersOn_24, ↓eX4_membersOn_26, ↓eX4_membersOn_29, ↓eX4_membersOn_32, ↓eX4_membersOn_34, ↓eX4_membersOn_35, ↓eX4_membersOn_38, ↓eX4_membersOn_41, ↓eX4_membersOn_44, ↓eX4_membersOn_47, k1, h0, c2, e1, e2, e3, j11, ↓fa, Int.add_zero, reduceCtorEq, Int.cast_ofNat_Int, kd_si, gr_si, ln_si, gi_same, gi_na, gi_ni, nl_i, nl_r, nl_j, nj_i, nj_l, nj_r, true_and, and_true, and_self, cs_0, cs_1, cs_2, cs_3, cs_4, ↓reduceIte, Nat.reduceLeDiff, Nat.reduceEqDiff, Nat.reduceAdd, Int.reduceLE, Int.reduceLT, Int.reduceEq, Int.reduceAdd, Int.reduceNeg, Int.reduceToNat, Int.toNat_natCast, ne_eq, not_false_eq_true, not_true_eq_false, or_true, true_or, or_false, false_or]
theorem x_membersOn (hX : CX N p n cl wt fr un lo may b) {x : Int} : CP (mc (d + 2)) 46 [vr (some p), vi x] N Q = Q (vi (sm (slN fr un x) b n)) N := by
  have lp := x_mo_loop (d := d) (Q := Q) hX (x := x) n 0 vj (by omega)
  have lp' : WP (mc (d + 1)) tX4_membersOn 4 [vr (some p), vi x, vi 0, vi 0, vj] [] N Q = Q (vi (sm (slN fr un x) b n)) N := lp
  rw [← lp']
  simp only [↓cpX4_membersOn, ↓eX4_membersOn_0, ↓eX4_membersOn_1, ↓eX4_membersOn_2, ↓eX4_membersOn_3, Int.cast_ofNat_Int, kd_si, gr_si, ln_si, gi_same, gi_na, gi_ni, nl_i, nl_r, nl_j, nj_i, nj_l, nj_r, true_and, and_true, and_self, cs_0, cs_1, cs_2, cs_3, cs_4, ↓reduceIte, Nat.reduceLeDiff, Nat.reduceEqDiff, Nat.reduceAdd, Int.reduceLE, Int.reduceLT, Int.reduceEq, Int.reduceAdd, Int.reduceNeg, Int.reduceToNat, Int.toNat_natCast, ne_eq, not_false_eq_true, not_true_eq_false, or_true, true_or, or_false, false_or]
theorem x_ow_loop (hX : CX N p n cl wt fr un lo may b) {j : Nat} (hj : j < n) : ∀ (r i : Nat) (a3 : mV), i + r = n → WP (mc (d + 1)) tX4_memberOneWith 2 [vr (some p), vr (some (cl j)), vi (i : Nat), a3] [] N Q = Q (vi (ff (oneQ lo b j) r i)) N := by
  obtain ⟨h, hC, hX⟩ := hX
  have hC' := hC
  obtain ⟨hp, hn, h0, hc, hi⟩ := hC'
  obtain ⟨k1, k2, k3, k4⟩ := CB_p (n := n) (cl := cl) h hp
  intro r
  induction r with
  | zero =>
    intro i a3 hr
    have e : i = n := by omega
    subst e
    rw [eX4_memberOneWith_2]
    simp only [↓eX4_memberOneWith_3, ↓eX4_memberOneWith_4, ↓eX4_memberOneWith_7, ↓eX4_memberOneWith_43, ↓eX4_memberOneWith_44, k1, h0, Int.le_refl, ff, Int.cast_ofNat_Int, kd_si, gr_si, ln_si, gi_same, gi_na, gi_ni, nl_i, nl_r, nl_j, nj_i, nj_l, nj_r, true_and, and_true, and_self, cs_0, cs_1, cs_2, cs_3, cs_4, ↓reduceIte, Nat.reduceLeDiff, Nat.reduceEqDiff, Nat.reduceAdd, Int.reduceLE, Int.reduceLT, Int.reduceEq, Int.reduceAdd, Int.reduceNeg, Int.reduceToNat, Int.toNat_natCast, ne_eq, not_false_eq_true, not_true_eq_false, or_true, true_or, or_false, false_or]
  | succ r ih =>
    intro i a3 hr
    have hin : i < n := by omega
    obtain ⟨c1, c2, c3⟩ := hc i hin
    obtain ⟨i5, i6, i7, i8, i10, i11⟩ := hX i hin
    obtain ⟨m5, -⟩ := hX j hj
    have e1 : ((n : Int) ≤ (i : Int)) = False := eq_false (by omega)
    have e2 : wr ((i : Int) + 1) = ((i + 1 : Nat) : Int) := by rw [wr_id (by omega) (by omega)]; omega
    have fa := fun (Q : mV → mM → Prop) => x_cat (d := d) (N := N) (Q := Q) (p := p) (n := n) (cl := cl) (j := i) h hC hin
    have fs := fun (Q : mV → mM → Prop) => x_isOneWith (d := d) (M := N) (Q := Q) (a := cl i) (b := cl j) c2 (hc j hj).2.1
    rw [i5, m5] at fs
    have hih := ih (i + 1) (vr (some (cl i))) (by omega)
    rw [ff, eX4_memberOneWith_2]
    by_cases q : b.testBit i = true
    · rw [tb_1 q] at i11
      by_cases w : lo i = lo j
      · have z : oneQ lo b j i = true := by unfold oneQ; rw [q, decide_eq_true w]; rfl
        rw [if_pos z]
        simp only [if_pos w] at fs
        simp only [↓eX4_memberOneWith_3, ↓eX4_memberOneWith_4, ↓eX4_memberOneWith_7, ↓eX4_memberOneWith_10, ↓eX4_memberOneWith_11, ↓eX4_memberOneWith_12, ↓eX4_memberOneWith_15, ↓eX4_memberOneWith_16, ↓eX4_memberOneWith_17, ↓eX4_memberOneWith_20, ↓eX4_memberOneWith_21, ↓eX4_memberOneWith_24, ↓eX4_memberOneWith_27, ↓eX4_memberOneWith_28, ↓eX4_memberOneWith_29, ↓eX4_memberOneWith_32, ↓eX4_memberOneWith_35, ↓eX4_memberOneWith_36, ↓eX4_memberOneWith_37, ↓eX4_memberOneWith_40, k1, h0, c2, e1, e2, i11, ↓fa, ↓fs, reduceCtorEq, Int.cast_ofNat_Int, kd_si, gr_si, ln_si, gi_same, gi_na, gi_ni, nl_i, nl_r, nl_j, nj_i, nj_l, nj_r, true_and, and_true, and_self, cs_0, cs_1, cs_2, cs_3, cs_4, ↓reduceIte, Nat.reduceLeDiff, Nat.reduceEqDiff, Nat.reduceAdd, Int.reduceLE, Int.reduceLT, Int.reduceEq, Int.reduceAdd, Int.reduceNeg, Int.reduceToNat, Int.toNat_natCast, ne_eq, not_false_eq_true, not_true_eq_false, or_true, true_or, or_false, false_or]
      · have z : ¬ oneQ lo b j i = true := by unfold oneQ; rw [q, decide_eq_false w]; decide
        rw [if_neg z, ← hih]
        simp only [if_neg w] at fs
        simp only [↓eX4_memberOneWith_3, ↓eX4_memberOneWith_4, ↓eX4_memberOneWith_7, ↓eX4_memberOneWith_10, ↓eX4_memberOneWith_11, ↓eX4_memberOneWith_12, ↓eX4_memberOneWith_15, ↓eX4_memberOneWith_16, ↓eX4_memberOneWith_17, ↓eX4_memberOneWith_20, ↓eX4_memberOneWith_21, ↓eX4_memberOneWith_24, ↓eX4_memberOneWith_27, ↓eX4_memberOneWith_28, ↓eX4_memberOneWith_29, ↓eX4_memberOneWith_32, ↓eX4_memberOneWith_35, ↓eX4_memberOneWith_36, ↓eX4_memberOneWith_37, ↓eX4_memberOneWith_40, k1, h0, c2, e1, e2, i11, ↓fa, ↓fs, reduceCtorEq, Int.cast_ofNat_Int, kd_si, gr_si, ln_si, gi_same, gi_na, gi_ni, nl_i, nl_r, nl_j, nj_i, nj_l, nj_r, true_and, and_true, and_self, cs_0, cs_1, cs_2, cs_3, cs_4, ↓reduceIte, Nat.reduceLeDiff, Nat.reduceEqDiff, Nat.reduceAdd, Int.reduceLE, Int.reduceLT, Int.reduceEq, Int.reduceAdd, Int.reduceNeg, Int.reduceToNat, Int.toNat_natCast, ne_eq, not_false_eq_true, not_true_eq_false, or_true, true_or, or_false, false_or]
    · rw [tb_0 q] at i11
      have z : ¬ oneQ lo b j i = true := by unfold oneQ; intro w; rw [Bool.and_eq_true] at w; exact q w.1
      rw [if_neg z, ← hih]
      simp only [↓eX4_memberOneWith_3, ↓eX4_memberOneWith_4, ↓eX4_memberOneWith_7, ↓eX4_memberOneWith_10, ↓eX4_memberOneWith_11, ↓eX4_memberOneWith_12, ↓eX4_memberOneWith_15, ↓eX4_memberOneWith_16, ↓eX4_memberOneWith_17, ↓eX4_memberOneWith_20, ↓eX4_memberOneWith_21, ↓eX4_memberOneWith_24, ↓eX4_memberOneWith_27, ↓eX4_memberOneWith_28, ↓eX4_memberOneWith_29, ↓eX4_memberOneWith_32, ↓eX4_memberOneWith_35, ↓eX4_memberOneWith_36, ↓eX4_memberOneWith_37, ↓eX4_memberOneWith_40, k1, h0, c2, e1, e2, i11, ↓fa, reduceCtorEq, Int.cast_ofNat_Int, kd_si, gr_si, ln_si, gi_same, gi_na, gi_ni, nl_i, nl_r, nl_j, nj_i, nj_l, nj_r, true_and, and_true, and_self, cs_0, cs_1, cs_2, cs_3, cs_4, ↓reduceIte, Nat.reduceLeDiff, Nat.reduceEqDiff, Nat.reduceAdd, Int.reduceLE, Int.reduceLT, Int.reduceEq, Int.reduceAdd, Int.reduceNeg, Int.reduceToNat, Int.toNat_natCast, ne_eq, not_false_eq_true, not_true_eq_false, or_true, true_or, or_false, false_or]
theorem x_memberOneWith (hX : CX N p n cl wt fr un lo may b) {j : Nat} (hj : j < n) : CP (mc (d + 2)) 44 [vr (some p), vr (some (cl j))] N Q = Q (vi (ff (oneQ lo b j) n 0)) N := by
  have lp := x_ow_loop (d := d) (Q := Q) hX hj n 0 vj (by omega)
  have lp' : WP (mc (d + 1)) tX4_memberOneWith 2 [vr (some p), vr (some (cl j)), vi 0, vj] [] N Q = Q (vi (ff (oneQ lo b j) n 0)) N := lp
  rw [← lp']
  simp only [↓cpX4_memberOneWith, ↓eX4_memberOneWith_0, ↓eX4_memberOneWith_1, Int.cast_ofNat_Int, kd_si, gr_si, ln_si, gi_same, gi_na, gi_ni, nl_i, nl_r, nl_j, nj_i, nj_l, nj_r, true_and, and_true, and_self, cs_0, cs_1, cs_2, cs_3, cs_4, ↓reduceIte, Nat.reduceLeDiff, Nat.reduceEqDiff, Nat.reduceAdd, Int.reduceLE, Int.reduceLT, Int.reduceEq, Int.reduceAdd, Int.reduceNeg, Int.reduceToNat, Int.toNat_natCast, ne_eq, not_false_eq_true, not_true_eq_false, or_true, true_or, or_false, false_or]
theorem x_cr_loop (hX : CX N p n cl wt fr un lo may b) {j : Nat} {tu : Int} (hj : j < n) : ∀ (r i : Nat) (a4 : mV), i + r = n → WP (mc (d + 2)) tX4_isCrowdedWith 16 [vr (some p), vr (some (cl j)), vi tu, vi (i : Nat), a4] [] N Q = if ff (crdQ fr un tu n b j) r i ≠ -1 then Q (vi 1) N else Q (vi 0) N := by
  have hX0 := hX
  obtain ⟨h, hC, hX⟩ := hX
  have hC' := hC
  obtain ⟨hp, hn, h0, hc, hi⟩ := hC'
  obtain ⟨k1, k2, k3, k4⟩ := CB_p (n := n) (cl := cl) h hp
  intro r
  induction r with
  | zero =>
    intro i a4 hr
    have e : i = n := by omega
    subst e
    rw [ff, if_neg (fun w => w rfl), eX4_isCrowdedWith_16]
    simp only [↓eX4_isCrowdedWith_17, ↓eX4_isCrowdedWith_18, ↓eX4_isCrowdedWith_21, ↓eX4_isCrowdedWith_77, ↓eX4_isCrowdedWith_78, k1, h0, Int.le_refl, Int.cast_ofNat_Int, kd_si, gr_si, ln_si, gi_same, gi_na, gi_ni, nl_i, nl_r, nl_j, nj_i, nj_l, nj_r, true_and, and_true, and_self, cs_0, cs_1, cs_2, cs_3, cs_4, ↓reduceIte, Nat.reduceLeDiff, Nat.reduceEqDiff, Nat.reduceAdd, Int.reduceLE, Int.reduceLT, Int.reduceEq, Int.reduceAdd, Int.reduceNeg, Int.reduceToNat, Int.toNat_natCast, ne_eq, not_false_eq_true, not_true_eq_false, or_true, true_or, or_false, false_or]
  | succ r ih =>
    intro i a4 hr
    have hin : i < n := by omega
    obtain ⟨c1, c2, c3⟩ := hc i hin
    obtain ⟨i5, i6, i7, i8, i10, i11⟩ := hX i hin
    obtain ⟨m5, m6, m7, m8, -⟩ := hX j hj
    have e1 : ((n : Int) ≤ (i : Int)) = False := eq_false (by omega)
    have e2 : wr ((i : Int) + 1) = ((i + 1 : Nat) : Int) := by rw [wr_id (by omega) (by omega)]; omega
    have fa := fun (Q : mV → mM → Prop) => x_cat (d := d + 1) (N := N) (Q := Q) (p := p) (n := n) (cl := cl) (j := i) h hC hin
    have fs := fun (Q : mV → mM → Prop) => x_spansSlot (d := d + 1) (M := N) (Q := Q) (a := cl j) (x := fr i) (hc j hj).2.1
    have fm := fun (Q : mV → mM → Prop) => x_membersOn (d := d) (Q := Q) hX0 (x := fr i)
    rw [m7, m8] at fs
    have cj2 := (hc j hj).2.1
    have hih := ih (i + 1) (vr (some (cl i))) (by omega)
    rw [ff, eX4_isCrowdedWith_16]
    by_cases q : b.testBit i = true
    · rw [tb_1 q] at i11
      by_cases w : fr j ≤ fr i ∧ fr i < un j
      · simp only [if_pos w] at fs
        by_cases y : sm (slN fr un (fr i)) b n < tu
        · have z : ¬ crdQ fr un tu n b j i = true := by
            unfold crdQ; intro v; rw [Bool.and_eq_true, decide_eq_true_eq] at v; omega
          rw [if_neg z, ← hih]
          simp only [↓eX4_isCrowdedWith_17, ↓eX4_isCrowdedWith_18, ↓eX4_isCrowdedWith_21, ↓eX4_isCrowdedWith_24, ↓eX4_isCrowdedWith_25, ↓eX4_isCrowdedWith_26, ↓eX4_isCrowdedWith_29, ↓eX4_isCrowdedWith_31, ↓eX4_isCrowdedWith_33, ↓eX4_isCrowdedWith_36, ↓eX4_isCrowdedWith_38, ↓eX4_isCrowdedWith_41, ↓eX4_isCrowdedWith_44, ↓eX4_isCrowdedWith_45, ↓eX4_isCrowdedWith_47, ↓eX4_isCrowdedWith_50, ↓eX4_isCrowdedWith_53, ↓eX4_isCrowdedWith_56, ↓eX4_isCrowdedWith_57, ↓eX4_isCrowdedWith_59, ↓eX4_isCrowdedWith_62, ↓eX4_isCrowdedWith_65, ↓eX4_isCrowdedWith_66, ↓eX4_isCrowdedWith_69, ↓eX4_isCrowdedWith_70, ↓eX4_isCrowdedWith_71, ↓eX4_isCrowdedWith_74, k1, h0, c2, cj2, e1, e2, i7, i11, y, ↓fa, ↓fs, ↓fm, reduceCtorEq, Int.cast_ofNat_Int, kd_si, gr_si, ln_si, gi_same, gi_na, gi_ni, nl_i, nl_r, nl_j, nj_i, nj_l, nj_r, true_and, and_true, and_self, cs_0, cs_1, cs_2, cs_3, cs_4, ↓reduceIte, Nat.reduceLeDiff, Nat.reduceEqDiff, Nat.reduceAdd, Int.reduceLE, Int.reduceLT, Int.reduceEq, Int.reduceAdd, Int.reduceNeg, Int.reduceToNat, Int.toNat_natCast, ne_eq, not_false_eq_true, not_true_eq_false, or_true, true_or, or_false, false_or]
        · have z : crdQ fr un tu n b j i = true := by
            unfold crdQ; rw [q, Bool.true_and, decide_eq_true_eq]; exact ⟨w, by omega⟩
          rw [if_pos z, if_pos (by omega)]
          simp only [↓eX4_isCrowdedWith_17, ↓eX4_isCrowdedWith_18, ↓eX4_isCrowdedWith_21, ↓eX4_isCrowdedWith_24, ↓eX4_isCrowdedWith_25, ↓eX4_isCrowdedWith_26, ↓eX4_isCrowdedWith_29, ↓eX4_isCrowdedWith_31, ↓eX4_isCrowdedWith_33, ↓eX4_isCrowdedWith_36, ↓eX4_isCrowdedWith_38, ↓eX4_isCrowdedWith_41, ↓eX4_isCrowdedWith_44, ↓eX4_isCrowdedWith_45, ↓eX4_isCrowdedWith_47, ↓eX4_isCrowdedWith_50, ↓eX4_isCrowdedWith_53, ↓eX4_isCrowdedWith_56, ↓eX4_isCrowdedWith_57, ↓eX4_isCrowdedWith_59, ↓eX4_isCrowdedWith_62, ↓eX4_isCrowdedWith_65, ↓eX4_isCrowdedWith_66, ↓eX4_isCrowdedWith_69, ↓eX4_isCrowdedWith_70, ↓eX4_isCrowdedWith_71, ↓eX4_isCrowdedWith_74, k1, h0, c2, cj2, e1, e2, i7, i11, y, ↓fa, ↓fs, ↓fm, reduceCtorEq, Int.cast_ofNat_Int, kd_si, gr_si, ln_si, gi_same, gi_na, gi_ni, nl_i, nl_r, nl_j, nj_i, nj_l, nj_r, true_and, and_true, and_self, cs_0, cs_1, cs_2, cs_3, cs_4, ↓reduceIte, Nat.reduceLeDiff, Nat.reduceEqDiff, Nat.reduceAdd, Int.reduceLE, Int.reduceLT, Int.reduceEq, Int.reduceAdd, Int.reduceNeg, Int.reduceToNat, Int.toNat_natCast, ne_eq, not_false_eq_true, not_true_eq_false, or_true, true_or, or_false, false_or]
      · simp only [if_neg w] at fs
        have z : ¬ crdQ fr un tu n b j i = true := by
          unfold crdQ; intro v; rw [Bool.and_eq_true, decide_eq_true_eq] at v; exact w v.2.1
        rw [if_neg z, ← hih]
        simp only [↓eX4_isCrowdedWith_17, ↓eX4_isCrowdedWith_18, ↓eX4_isCrowdedWith_21, ↓eX4_isCrowdedWith_24, ↓eX4_isCrowdedWith_25, ↓eX4_isCrowdedWith_26, ↓eX4_isCrowdedWith_29, ↓eX4_isCrowdedWith_31, ↓eX4_isCrowdedWith_33, ↓eX4_isCrowdedWith_36, ↓eX4_isCrowdedWith_38, ↓eX4_isCrowdedWith_41, ↓eX4_isCrowdedWith_44, ↓eX4_isCrowdedWith_45, ↓eX4_isCrowdedWith_47, ↓eX4_isCrowdedWith_50, ↓eX4_isCrowdedWith_53, ↓eX4_isCrowdedWith_56, ↓eX4_isCrowdedWith_57, ↓eX4_isCrowdedWith_59, ↓eX4_isCrowdedWith_62, ↓eX4_isCrowdedWith_65, ↓eX4_isCrowdedWith_66, ↓eX4_isCrowdedWith_69, ↓eX4_isCrowdedWith_70, ↓eX4_isCrowdedWith_71, ↓eX4_isCrowdedWith_74, k1, h0, c2, cj2, e1, e2, i7, i11, ↓fa, ↓fs, reduceCtorEq, Int.cast_ofNat_Int, kd_si, gr_si, ln_si, gi_same, gi_na, gi_ni, nl_i, nl_r, nl_j, nj_i, nj_l, nj_r, true_and, and_true, and_self, cs_0, cs_1, cs_2, cs_3, cs_4, ↓reduceIte, Nat.reduceLeDiff, Nat.reduceEqDiff, Nat.reduceAdd, Int.reduceLE, Int.reduceLT, Int.reduceEq, Int.reduceAdd, Int.reduceNeg, Int.reduceToNat, Int.toNat_natCast, ne_eq, not_false_eq_true, not_true_eq_false, or_true, true_or, or_false, false_or]
    · rw [tb_0 q] at i11
      have z : ¬ crdQ fr un tu n b j i = true := by
        unfold crdQ; intro v; rw [Bool.and_eq_true] at v; exact q v.1
      rw [if_neg z, ← hih]
      simp only [↓eX4_isCrowdedWith_17, ↓eX4_isCrowdedWith_18, ↓eX4_isCrowdedWith_21, ↓eX4_isCrowdedWith_24, ↓eX4_isCrowdedWith_25, ↓eX4_isCrowdedWith_26, ↓eX4_isCrowdedWith_29, ↓eX4_isCrowdedWith_31, ↓eX4_isCrowdedWith_33, ↓eX4_isCrowdedWith_36, ↓eX4_isCrowdedWith_38, ↓eX4_isCrowdedWith_41, ↓eX4_isCrowdedWith_44, ↓eX4_isCrowdedWith_45, ↓eX4_isCrowdedWith_47, ↓eX4_isCrowdedWith_50, ↓eX4_isCrowdedWith_53, ↓eX4_isCrowdedWith_56, ↓eX4_isCrowdedWith_57, ↓eX4_isCrowdedWith_59, ↓eX4_isCrowdedWith_62, ↓eX4_isCrowdedWith_65, ↓eX4_isCrowdedWith_66, ↓eX4_isCrowdedWith_69, ↓eX4_isCrowdedWith_70, ↓eX4_isCrowdedWith_71, ↓eX4_isCrowdedWith_74, k1, h0, c2, cj2, e1, e2, i11, ↓fa, reduceCtorEq, Int.cast_ofNat_Int, kd_si, gr_si, ln_si, gi_same, gi_na, gi_ni, nl_i, nl_r, nl_j, nj_i, nj_l, nj_r, true_and, and_true, and_self, cs_0, cs_1, cs_2, cs_3, cs_4, ↓reduceIte, Nat.reduceLeDiff, Nat.reduceEqDiff, Nat.reduceAdd, Int.reduceLE, Int.reduceLT, Int.reduceEq, Int.reduceAdd, Int.reduceNeg, Int.reduceToNat, Int.toNat_natCast, ne_eq, not_false_eq_true, not_true_eq_false, or_true, true_or, or_false, false_or]
theorem x_isCrowdedWith (hX : CX N p n cl wt fr un lo may b) {j : Nat} {tu : Int} (hj : j < n) : CP (mc (d + 3)) 45 [vr (some p), vr (some (cl j)), vi tu] N Q = if tu ≤ sm (slN fr un (fr j)) b n ∨ ff (crdQ fr un tu n b j) n 0 ≠ -1 then Q (vi 1) N else Q (vi 0) N := by
  have lp := x_cr_loop (d := d) (Q := Q) hX (tu := tu) hj n 0 vj (by omega)
  have lp' : WP (mc (d + 2)) tX4_isCrowdedWith 16 [vr (some p), vr (some (cl j)), vi tu, vi 0, vj] [] N Q = _ := lp
  have hX0 := hX
  obtain ⟨h, hC, hX⟩ := hX
  have hC' := hC
  obtain ⟨hp, hn, h0, hc, hi⟩ := hC'
  obtain ⟨k1, k2, k3, k4⟩ := CB_p (n := n) (cl := cl) h hp
  obtain ⟨c1, c2, c3⟩ := hc j hj
  obtain ⟨m5, m6, m7, m8, -⟩ := hX j hj
  have fm := fun (Q : mV → mM → Prop) => x_membersOn (d := d) (Q := Q) hX0 (x := fr j)
  by_cases y : sm (slN fr un (fr j)) b n < tu
  · have e : (tu ≤ sm (slN fr un (fr j)) b n ∨ ff (crdQ fr un tu n b j) n 0 ≠ -1) = (ff (crdQ fr un tu n b j) n 0 ≠ -1) := by
      apply propext
      constructor
      · rintro (w | w)
        · omega
        · exact w
      · exact Or.inr
    simp only [e]
    rw [← lp']
    simp only [↓cpX4_isCrowdedWith, ↓eX4_isCrowdedWith_0, ↓eX4_isCrowdedWith_1, ↓eX4_isCrowdedWith_2, ↓eX4_isCrowdedWith_5, ↓eX4_isCrowdedWith_8, ↓eX4_isCrowdedWith_9, ↓eX4_isCrowdedWith_12, ↓eX4_isCrowdedWith_13, ↓eX4_isCrowdedWith_14, ↓eX4_isCrowdedWith_15, k1, c2, m7, y, ↓fm, Int.cast_ofNat_Int, kd_si, gr_si, ln_si, gi_same, gi_na, gi_ni, nl_i, nl_r, nl_j, nj_i, nj_l, nj_r, true_and, and_true, and_self, cs_0, cs_1, cs_2, cs_3, cs_4, ↓reduceIte, Nat.reduceLeDiff, Nat.reduceEqDiff, Nat.reduceAdd, Int.reduceLE, Int.reduceLT, Int.reduceEq, Int.reduceAdd, Int.reduceNeg, Int.reduceToNat, Int.toNat_natCast, ne_eq, not_false_eq_true, not_true_eq_false, or_true, true_or, or_false, false_or]
  · rw [if_pos (Or.inl (by omega))]
    simp only [↓cpX4_isCrowdedWith, ↓eX4_isCrowdedWith_0, ↓eX4_isCrowdedWith_1, ↓eX4_isCrowdedWith_2, ↓eX4_isCrowdedWith_5, ↓eX4_isCrowdedWith_8, ↓eX4_isCrowdedWith_9, ↓eX4_isCrowdedWith_12, ↓eX4_isCrowdedWith_13, ↓eX4_isCrowdedWith_14, ↓eX4_isCrowdedWith_15, k1, c2, m7, y, ↓fm, Int.cast_ofNat_Int, kd_si, gr_si, ln_si, gi_same, gi_na, gi_ni, nl_i, nl_r, nl_j, nj_i, nj_l, nj_r, true_and, and_true, and_self, cs_0, cs_1, cs_2, cs_3, cs_4, ↓reduceIte, Nat.reduceLeDiff, Nat.reduceEqDiff, Nat.reduceAdd, Int.reduceLE, Int.reduceLT, Int.reduceEq, Int.reduceAdd, Int.reduceNeg, Int.reduceToNat, Int.toNat_natCast, ne_eq, not_false_eq_true, not_true_eq_false, or_true, true_or, or_false, false_or]
theorem x_li_loop (hX : CX N p n cl wt fr un lo may b) {j : Nat} (hj : j < n) : ∀ (r i : Nat) (l w : Int) (a5 : mV), i + r = n → WP (mc (d + 1)) tX4_lightestMemberMeeting 7 [vr (some p), vr (some (cl j)), vi l, vi w, vi (i : Nat), a5] [] N Q = Q (vi (lmf (metQ fr un b j) wt r i l w)) N := by
  obtain ⟨h, hC, hX⟩ := hX
  have hC' := hC
  obtain ⟨hp, hn, h0, hc, hi⟩ := hC'
  obtain ⟨k1, k2, k3, k4⟩ := CB_p (n := n) (cl := cl) h hp
  intro r
  induction r with
  | zero =>
    intro i l w a5 hr
    have e : i = n := by omega
    subst e
    rw [eX4_lightestMemberMeeting_7]
    simp only [↓eX4_lightestMemberMeeting_9, ↓eX4_lightestMemberMeeting_10, ↓eX4_lightestMemberMeeting_13, ↓eX4_lightestMemberMeeting_75, ↓eX4_lightestMemberMeeting_76, k1, h0, Int.le_refl, lmf, Int.cast_ofNat_Int, kd_si, gr_si, ln_si, gi_same, gi_na, gi_ni, nl_i, nl_r, nl_j, nj_i, nj_l, nj_r, true_and, and_true, and_self, cs_0, cs_1, cs_2, cs_3, cs_4, ↓reduceIte, Nat.reduceLeDiff, Nat.reduceEqDiff, Nat.reduceAdd, Int.reduceLE, Int.reduceLT, Int.reduceEq, Int.reduceAdd, Int.reduceNeg, Int.reduceToNat, Int.toNat_natCast, ne_eq, not_false_eq_true, not_true_eq_false, or_true, true_or, or_false, false_or]
  | succ r ih =>
    intro i l w a5 hr
    have hin : i < n := by omega
    obtain ⟨c1, c2, c3⟩ := hc i hin
    obtain ⟨i5, i6, i7, i8, i10, i11⟩ := hX i hin
    obtain ⟨m5, m6, m7, m8, -⟩ := hX j hj
    have e1 : ((n : Int) ≤ (i : Int)) = False := eq_false (by omega)
    have e2 : wr ((i : Int) + 1) = ((i + 1 : Nat) : Int) := by rw [wr_id (by omega) (by omega)]; omega
    have fa := fun (Q : mV → mM → Prop) => x_cat (d := d) (N := N) (Q := Q) (p := p) (n := n) (cl := cl) (j := i) h hC hin
    have fs := fun (Q : mV → mM → Prop) => x_meets (d := d) (M := N) (Q := Q) (a := cl i) (b := cl j) c2 (hc j hj).2.1
    rw [i7, i8, m7, m8] at fs
    rw [lmf, eX4_lightestMemberMeeting_7]
    by_cases q : b.testBit i = true
    · rw [tb_1 q] at i11
      by_cases y : fr i < un j ∧ fr j < un i
      · have z : metQ fr un b j i = true := by unfold metQ; rw [q, decide_eq_true y]; rfl
        simp only [if_pos y] at fs
        by_cases u : l = -1
        · rw [if_pos ⟨z, Or.inl u⟩, ← ih (i + 1) i (wt i) (vr (some (cl i))) (by omega)]
          simp only [↓eX4_lightestMemberMeeting_9, ↓eX4_lightestMemberMeeting_10, ↓eX4_lightestMemberMeeting_13, ↓eX4_lightestMemberMeeting_16, ↓eX4_lightestMemberMeeting_17, ↓eX4_lightestMemberMeeting_19, ↓eX4_lightestMemberMeeting_22, ↓eX4_lightestMemberMeeting_24, ↓eX4_lightestMemberMeeting_26, ↓eX4_lightestMemberMeeting_29, ↓eX4_lightestMemberMeeting_31, ↓eX4_lightestMemberMeeting_34, ↓eX4_lightestMemberMeeting_37, ↓eX4_lightestMemberMeeting_39, ↓eX4_lightestMemberMeeting_40, ↓eX4_lightestMemberMeeting_43, ↓eX4_lightestMemberMeeting_46, ↓eX4_lightestMemberMeeting_47, ↓eX4_lightestMemberMeeting_48, ↓eX4_lightestMemberMeeting_51, ↓eX4_lightestMemberMeeting_53, ↓eX4_lightestMemberMeeting_56, ↓eX4_lightestMemberMeeting_57, ↓eX4_lightestMemberMeeting_60, ↓eX4_lightestMemberMeeting_62, ↓eX4_lightestMemberMeeting_63, ↓eX4_lightestMemberMeeting_65, ↓eX4_lightestMemberMeeting_68, ↓eX4_lightestMemberMeeting_69, ↓eX4_lightestMemberMeeting_72, k1, h0, c2, e1, e2, i6, i11, u, ↓fa, ↓fs, reduceCtorEq, Int.cast_ofNat_Int, kd_si, gr_si, ln_si, gi_same, gi_na, gi_ni, nl_i, nl_r, nl_j, nj_i, nj_l, nj_r, true_and, and_true, and_self, cs_0, cs_1, cs_2, cs_3, cs_4, ↓reduceIte, Nat.reduceLeDiff, Nat.reduceEqDiff, Nat.reduceAdd, Int.reduceLE, Int.reduceLT, Int.reduceEq, Int.reduceAdd, Int.reduceNeg, Int.reduceToNat, Int.toNat_natCast, ne_eq, not_false_eq_true, not_true_eq_false, or_true, true_or, or_false, false_or]
        · by_cases v : wt i < w
          · have v' : (w ≤ wt i) = False := eq_false (by omega)
            rw [if_pos ⟨z, Or.inr v⟩, ← ih (i + 1) i (wt i) (vr (some (cl i))) (by omega)]
            simp only [↓eX4_lightestMemberMeeting_9, ↓eX4_lightestMemberMeeting_10, ↓eX4_lightestMemberMeeting_13, ↓eX4_lightestMemberMeeting_16, ↓eX4_lightestMemberMeeting_17, ↓eX4_lightestMemberMeeting_19, ↓eX4_lightestMemberMeeting_22, ↓eX4_lightestMemberMeeting_24, ↓eX4_lightestMemberMeeting_26, ↓eX4_lightestMemberMeeting_29, ↓eX4_lightestMemberMeeting_31, ↓eX4_lightestMemberMeeting_34, ↓eX4_lightestMemberMeeting_37, ↓eX4_lightestMemberMeeting_39, ↓eX4_lightestMemberMeeting_40, ↓eX4_lightestMemberMeeting_43, ↓eX4_lightestMemberMeeting_46, ↓eX4_lightestMemberMeeting_47, ↓eX4_lightestMemberMeeting_48, ↓eX4_lightestMemberMeeting_51, ↓eX4_lightestMemberMeeting_53, ↓eX4_lightestMemberMeeting_56, ↓eX4_lightestMemberMeeting_57, ↓eX4_lightestMemberMeeting_60, ↓eX4_lightestMemberMeeting_62, ↓eX4_lightestMemberMeeting_63, ↓eX4_lightestMemberMeeting_65, ↓eX4_lightestMemberMeeting_68, ↓eX4_lightestMemberMeeting_69, ↓eX4_lightestMemberMeeting_72, k1, h0, c2, e1, e2, i6, i11, u, v', ↓fa, ↓fs, reduceCtorEq, Int.cast_ofNat_Int, kd_si, gr_si, ln_si, gi_same, gi_na, gi_ni, nl_i, nl_r, nl_j, nj_i, nj_l, nj_r, true_and, and_true, and_self, cs_0, cs_1, cs_2, cs_3, cs_4, ↓reduceIte, Nat.reduceLeDiff, Nat.reduceEqDiff, Nat.reduceAdd, Int.reduceLE, Int.reduceLT, Int.reduceEq, Int.reduceAdd, Int.reduceNeg, Int.reduceToNat, Int.toNat_natCast, ne_eq, not_false_eq_true, not_true_eq_false, or_true, true_or, or_false, false_or]
          · have v' : (w ≤ wt i) = True := eq_true (by omega)
            rw [if_neg (fun x => x.2.elim u v), ← ih (i + 1) l w (vr (some (cl i))) (by omega)]
            simp only [↓eX4_lightestMemberMeeting_9, ↓eX4_lightestMemberMeeting_10, ↓eX4_lightestMemberMeeting_13, ↓eX4_lightestMemberMeeting_16, ↓eX4_lightestMemberMeeting_17, ↓eX4_lightestMemberMeeting_19, ↓eX4_lightestMemberMeeting_22, ↓eX4_lightestMemberMeeting_24, ↓eX4_lightestMemberMeeting_26, ↓eX4_lightestMemberMeeting_29, ↓eX4_lightestMemberMeeting_31, ↓eX4_lightestMemberMeeting_34, ↓eX4_lightestMemberMeeting_37, ↓eX4_lightestMemberMeeting_39, ↓eX4_lightestMemberMeeting_40, ↓eX4_lightestMemberMeeting_43, ↓eX4_lightestMemberMeeting_46, ↓eX4_lightestMemberMeeting_47, ↓eX4_lightestMemberMeeting_48, ↓eX4_lightestMemberMeeting_51, ↓eX4_lightestMemberMeeting_53, ↓eX4_lightestMemberMeeting_56, ↓eX4_lightestMemberMeeting_57, ↓eX4_lightestMemberMeeting_60, ↓eX4_lightestMemberMeeting_62, ↓eX4_lightestMemberMeeting_63, ↓eX4_lightestMemberMeeting_65, ↓eX4_lightestMemberMeeting_68, ↓eX4_lightestMemberMeeting_69, ↓eX4_lightestMemberMeeting_72, k1, h0, c2, e1, e2, i6, i11, u, v', ↓fa, ↓fs, reduceCtorEq, Int.cast_ofNat_Int, kd_si, gr_si, ln_si, gi_same, gi_na, gi_ni, nl_i, nl_r, nl_j, nj_i, nj_l, nj_r, true_and, and_true, and_self, cs_0, cs_1, cs_2, cs_3, cs_4, ↓reduceIte, Nat.reduceLeDiff, Nat.reduceEqDiff, Nat.reduceAdd, Int.reduceLE, Int.reduceLT, Int.reduceEq, Int.reduceAdd, Int.reduceNeg, Int.reduceToNat, Int.toNat_natCast, ne_eq, not_false_eq_true, not_true_eq_false, or_true, true_or, or_false, false_or]
      · have z : ¬ metQ fr un b j i = true := by unfold metQ; rw [q, decide_eq_false y]; decide
        simp only [if_neg y] at fs
        rw [if_neg (fun x => z x.1), ← ih (i + 1) l w (vr (some (cl i))) (by omega)]
        simp only [↓eX4_lightestMemberMeeting_9, ↓eX4_lightestMemberMeeting_10, ↓eX4_lightestMemberMeeting_13, ↓eX4_lightestMemberMeeting_16, ↓eX4_lightestMemberMeeting_17, ↓eX4_lightestMemberMeeting_19, ↓eX4_lightestMemberMeeting_22, ↓eX4_lightestMemberMeeting_24, ↓eX4_lightestMemberMeeting_26, ↓eX4_lightestMemberMeeting_29, ↓eX4_lightestMemberMeeting_31, ↓eX4_lightestMemberMeeting_34, ↓eX4_lightestMemberMeeting_37, ↓eX4_lightestMemberMeeting_39, ↓eX4_lightestMemberMeeting_40, ↓eX4_lightestMemberMeeting_43, ↓eX4_lightestMemberMeeting_46, ↓eX4_lightestMemberMeeting_47, ↓eX4_lightestMemberMeeting_48, ↓eX4_lightestMemberMeeting_51, ↓eX4_lightestMemberMeeting_53, ↓eX4_lightestMemberMeeting_56, ↓eX4_lightestMemberMeeting_57, ↓eX4_lightestMemberMeeting_60, ↓eX4_lightestMemberMeeting_62, ↓eX4_lightestMemberMeeting_63, ↓eX4_lightestMemberMeeting_65, ↓eX4_lightestMemberMeeting_68, ↓eX4_lightestMemberMeeting_69, ↓eX4_lightestMemberMeeting_72, k1, h0, c2, e1, e2, i11, ↓fa, ↓fs, reduceCtorEq, Int.cast_ofNat_Int, kd_si, gr_si, ln_si, gi_same, gi_na, gi_ni, nl_i, nl_r, nl_j, nj_i, nj_l, nj_r, true_and, and_true, and_self, cs_0, cs_1, cs_2, cs_3, cs_4, ↓reduceIte, Nat.reduceLeDiff, Nat.reduceEqDiff, Nat.reduceAdd, Int.reduceLE, Int.reduceLT, Int.reduceEq, Int.reduceAdd, Int.reduceNeg, Int.reduceToNat, Int.toNat_natCast, ne_eq, not_false_eq_true, not_true_eq_false, or_true, true_or, or_false, false_or]
    · rw [tb_0 q] at i11
      have z : ¬ metQ fr un b j i = true := by unfold metQ; intro w; rw [Bool.and_eq_true] at w; exact q w.1
      rw [if_neg (fun x => z x.1), ← ih (i + 1) l w (vr (some (cl i))) (by omega)]
      simp only [↓eX4_lightestMemberMeeting_9, ↓eX4_lightestMemberMeeting_10, ↓eX4_lightestMemberMeeting_13, ↓eX4_lightestMemberMeeting_16, ↓eX4_lightestMemberMeeting_17, ↓eX4_lightestMemberMeeting_19, ↓eX4_lightestMemberMeeting_22, ↓eX4_lightestMemberMeeting_24, ↓eX4_lightestMemberMeeting_26, ↓eX4_lightestMemberMeeting_29, ↓eX4_lightestMemberMeeting_31, ↓eX4_lightestMemberMeeting_34, ↓eX4_lightestMemberMeeting_37, ↓eX4_lightestMemberMeeting_39, ↓eX4_lightestMemberMeeting_40, ↓eX4_lightestMemberMeeting_43, ↓eX4_lightestMemberMeeting_46, ↓eX4_lightestMemberMeeting_47, ↓eX4_lightestMemberMeeting_48, ↓eX4_lightestMemberMeeting_51, ↓eX4_lightestMemberMeeting_53, ↓eX4_lightestMemberMeeting_56, ↓eX4_lightestMemberMeeting_57, ↓eX4_lightestMemberMeeting_60, ↓eX4_lightestMemberMeeting_62, ↓eX4_lightestMemberMeeting_63, ↓eX4_lightestMemberMeeting_65, ↓eX4_lightestMemberMeeting_68, ↓eX4_lightestMemberMeeting_69, ↓eX4_lightestMemberMeeting_72, k1, h0, c2, e1, e2, i11, ↓fa, reduceCtorEq, Int.cast_ofNat_Int, kd_si, gr_si, ln_si, gi_same, gi_na, gi_ni, nl_i, nl_r, nl_j, nj_i, nj_l, nj_r, true_and, and_true, and_self, cs_0, cs_1, cs_2, cs_3, cs_4, ↓reduceIte, Nat.reduceLeDiff, Nat.reduceEqDiff, Nat.reduceAdd, Int.reduceLE, Int.reduceLT, Int.reduceEq, Int.reduceAdd, Int.reduceNeg, Int.reduceToNat, Int.toNat_natCast, ne_eq, not_false_eq_true, not_true_eq_false, or_true, true_or, or_false, false_or]
theorem x_lightest (hX : CX N p n cl wt fr un lo may b) {j : Nat} (hj : j < n) : CP (mc (d + 2)) 47 [vr (some p), vr (some (cl j))] N Q = Q (vi (lmf (metQ fr un b j) wt n 0 (-1) 0)) N := by
  have lp := x_li_loop (d := d) (Q := Q) hX hj n 0 (-1) 0 vj (by omega)
  have lp' : WP (mc (d + 1)) tX4_lightestMemberMeeting 7 [vr (some p), vr (some (cl j)), vi (-1), vi 0, vi 0, vj] [] N Q = Q (vi (lmf (metQ fr un b j) wt n 0 (-1) 0)) N := lp
  rw [← lp']
  simp only [↓cpX4_lightestMemberMeeting, ↓eX4_lightestMemberMeeting_0, ↓eX4_lightestMemberMeeting_1, ↓eX4_lightestMemberMeeting_2, ↓eX4_lightestMemberMeeting_3, ↓eX4_lightestMemberMeeting_4, ↓eX4_lightestMemberMeeting_5, Int.cast_ofNat_Int, kd_si, gr_si, ln_si, gi_same, gi_na, gi_ni, nl_i, nl_r, nl_j, nj_i, nj_l, nj_r, true_and, and_true, and_self, cs_0, cs_1, cs_2, cs_3, cs_4, ↓reduceIte, Nat.reduceLeDiff, Nat.reduceEqDiff, Nat.reduceAdd, Int.reduceLE, Int.reduceLT, Int.reduceEq, Int.reduceAdd, Int.reduceNeg, Int.reduceToNat, Int.toNat_natCast, ne_eq, not_false_eq_true, not_true_eq_false, or_true, true_or, or_false, false_or]
theorem x_whyNot (hX : CX N p n cl wt fr un lo may b) {j : Nat} {tu room : Int} {way : Nat → Int} (hS : SN n wt fr un way) (hj : j < n) (h4 : gi N p 4 = sm (spn fr un) b n) (htu : gi N 20 0 = tu) (hro : gi N 20 3 = room) : CP (mc (d + 4)) 42 [vr (some p), vr (some (cl j)), vr (some 20)] N Q = Q (vi (whyP n b fr un lo may tu room j)) N := by
  have hX0 := hX
  obtain ⟨h, hC, hX⟩ := hX
  have hC' := hC
  obtain ⟨hp, hn, h0, hc, hi⟩ := hC'
  obtain ⟨k1, k2, k3, k4⟩ := CB_p (n := n) (cl := cl) h hp
  obtain ⟨c1, c2, c3⟩ := hc j hj
  obtain ⟨m5, m6, m7, m8, m10, m11⟩ := hX j hj
  have k20 := hk20 h
  have f1 := fun (Q : mV → mM → Prop) => x_memberOneWith (d := d + 1) (Q := Q) hX0 hj
  have f2 := fun (Q : mV → mM → Prop) => x_isCrowdedWith (d := d) (Q := Q) (tu := tu) hX0 hj
  have f3 := fun (Q : mV → mM → Prop) => x_span (d := d + 2) (M := N) (Q := Q) (a := cl j) c2
  have sn := (hS j hj).2.1
  have bd := SN_b hS hn b
  have w1 : wr (gi N (cl j) 8 - gi N (cl j) 7) = spn fr un j := by rw [m7, m8]; unfold spn; exact wr_id (by omega) (by omega)
  rw [w1] at f3
  have w2 : wr (sm (spn fr un) b n + spn fr un j) = sm (spn fr un) b n + spn fr un j := by unfold spn at *; exact wr_id (by omega) (by omega)
  unfold whyP
  by_cases q : b.testBit j = true
  · rw [tb_1 q] at m11
    rw [if_pos q]
    simp only [↓cpX4_whyNot, ↓eX4_whyNot_0, ↓eX4_whyNot_1, ↓eX4_whyNot_4, ↓eX4_whyNot_7, ↓eX4_whyNot_8, ↓eX4_whyNot_9, ↓eX4_whyNot_10, ↓eX4_whyNot_13, ↓eX4_whyNot_16, ↓eX4_whyNot_17, ↓eX4_whyNot_18, ↓eX4_whyNot_19, ↓eX4_whyNot_20, ↓eX4_whyNot_23, ↓eX4_whyNot_24, ↓eX4_whyNot_27, ↓eX4_whyNot_28, ↓eX4_whyNot_29, ↓eX4_whyNot_30, ↓eX4_whyNot_31, ↓eX4_whyNot_32, ↓eX4_whyNot_35, ↓eX4_whyNot_38, ↓eX4_whyNot_41, ↓eX4_whyNot_42, ↓eX4_whyNot_43, ↓eX4_whyNot_44, ↓eX4_whyNot_47, ↓eX4_whyNot_48, ↓eX4_whyNot_51, ↓eX4_whyNot_52, ↓eX4_whyNot_53, ↓eX4_whyNot_56, ↓eX4_whyNot_59, ↓eX4_whyNot_60, ↓eX4_whyNot_63, ↓eX4_whyNot_64, c2, m11, Int.cast_ofNat_Int, kd_si, gr_si, ln_si, gi_same, gi_na, gi_ni, nl_i, nl_r, nl_j, nj_i, nj_l, nj_r, true_and, and_true, and_self, cs_0, cs_1, cs_2, cs_3, cs_4, ↓reduceIte, Nat.reduceLeDiff, Nat.reduceEqDiff, Nat.reduceAdd, Int.reduceLE, Int.reduceLT, Int.reduceEq, Int.reduceAdd, Int.reduceNeg, Int.reduceToNat, Int.toNat_natCast, ne_eq, not_false_eq_true, not_true_eq_false, or_true, true_or, or_false, false_or]
  rw [tb_0 q] at m11
  rw [if_neg q]
  cases hm : may j with
  | false =>
    have m10' : gi N (cl j) 10 = 0 := by rw [m10, hm]; rfl
    simp only [↓cpX4_whyNot, ↓eX4_whyNot_0, ↓eX4_whyNot_1, ↓eX4_whyNot_4, ↓eX4_whyNot_7, ↓eX4_whyNot_8, ↓eX4_whyNot_9, ↓eX4_whyNot_10, ↓eX4_whyNot_13, ↓eX4_whyNot_16, ↓eX4_whyNot_17, ↓eX4_whyNot_18, ↓eX4_whyNot_19, ↓eX4_whyNot_20, ↓eX4_whyNot_23, ↓eX4_whyNot_24, ↓eX4_whyNot_27, ↓eX4_whyNot_28, ↓eX4_whyNot_29, ↓eX4_whyNot_30, ↓eX4_whyNot_31, ↓eX4_whyNot_32, ↓eX4_whyNot_35, ↓eX4_whyNot_38, ↓eX4_whyNot_41, ↓eX4_whyNot_42, ↓eX4_whyNot_43, ↓eX4_whyNot_44, ↓eX4_whyNot_47, ↓eX4_whyNot_48, ↓eX4_whyNot_51, ↓eX4_whyNot_52, ↓eX4_whyNot_53, ↓eX4_whyNot_56, ↓eX4_whyNot_59, ↓eX4_whyNot_60, ↓eX4_whyNot_63, ↓eX4_whyNot_64, c2, m11, m10', Int.cast_ofNat_Int, kd_si, gr_si, ln_si, gi_same, gi_na, gi_ni, nl_i, nl_r, nl_j, nj_i, nj_l, nj_r, true_and, and_true, and_self, cs_0, cs_1, cs_2, cs_3, cs_4, ↓reduceIte, Nat.reduceLeDiff, Nat.reduceEqDiff, Nat.reduceAdd, Int.reduceLE, Int.reduceLT, Int.reduceEq, Int.reduceAdd, Int.reduceNeg, Int.reduceToNat, Int.toNat_natCast, ne_eq, not_false_eq_true, not_true_eq_false, or_true, true_or, or_false, false_or]
  | true =>
    have m10' : gi N (cl j) 10 = 1 := by rw [m10, hm]; rfl
    rw [if_neg (by decide)]
    by_cases y : ff (oneQ lo b j) n 0 = -1
    · rw [if_neg (fun w => w y)]
      by_cases z : tu ≤ sm (slN fr un (fr j)) b n ∨ ff (crdQ fr un tu n b j) n 0 ≠ -1
      · rw [if_pos z]
        simp only [if_pos z] at f2
        simp only [↓cpX4_whyNot, ↓eX4_whyNot_0, ↓eX4_whyNot_1, ↓eX4_whyNot_4, ↓eX4_whyNot_7, ↓eX4_whyNot_8, ↓eX4_whyNot_9, ↓eX4_whyNot_10, ↓eX4_whyNot_13, ↓eX4_whyNot_16, ↓eX4_whyNot_17, ↓eX4_whyNot_18, ↓eX4_whyNot_19, ↓eX4_whyNot_20, ↓eX4_whyNot_23, ↓eX4_whyNot_24, ↓eX4_whyNot_27, ↓eX4_whyNot_28, ↓eX4_whyNot_29, ↓eX4_whyNot_30, ↓eX4_whyNot_31, ↓eX4_whyNot_32, ↓eX4_whyNot_35, ↓eX4_whyNot_38, ↓eX4_whyNot_41, ↓eX4_whyNot_42, ↓eX4_whyNot_43, ↓eX4_whyNot_44, ↓eX4_whyNot_47, ↓eX4_whyNot_48, ↓eX4_whyNot_51, ↓eX4_whyNot_52, ↓eX4_whyNot_53, ↓eX4_whyNot_56, ↓eX4_whyNot_59, ↓eX4_whyNot_60, ↓eX4_whyNot_63, ↓eX4_whyNot_64, k1, k20, c2, m11, m10', htu, ↓f1, ↓f2, y, Int.cast_ofNat_Int, kd_si, gr_si, ln_si, gi_same, gi_na, gi_ni, nl_i, nl_r, nl_j, nj_i, nj_l, nj_r, true_and, and_true, and_self, cs_0, cs_1, cs_2, cs_3, cs_4, ↓reduceIte, Nat.reduceLeDiff, Nat.reduceEqDiff, Nat.reduceAdd, Int.reduceLE, Int.reduceLT, Int.reduceEq, Int.reduceAdd, Int.reduceNeg, Int.reduceToNat, Int.toNat_natCast, ne_eq, not_false_eq_true, not_true_eq_false, or_true, true_or, or_false, false_or]
      · rw [if_neg z]
        simp only [if_neg z] at f2
        by_cases u : room < sm (spn fr un) b n + spn fr un j
        · have u' : (sm (spn fr un) b n + spn fr un j ≤ room) = False := eq_false (by omega)
          rw [if_pos u]
          simp only [↓cpX4_whyNot, ↓eX4_whyNot_0, ↓eX4_whyNot_1, ↓eX4_whyNot_4, ↓eX4_whyNot_7, ↓eX4_whyNot_8, ↓eX4_whyNot_9, ↓eX4_whyNot_10, ↓eX4_whyNot_13, ↓eX4_whyNot_16, ↓eX4_whyNot_17, ↓eX4_whyNot_18, ↓eX4_whyNot_19, ↓eX4_whyNot_20, ↓eX4_whyNot_23, ↓eX4_whyNot_24, ↓eX4_whyNot_27, ↓eX4_whyNot_28, ↓eX4_whyNot_29, ↓eX4_whyNot_30, ↓eX4_whyNot_31, ↓eX4_whyNot_32, ↓eX4_whyNot_35, ↓eX4_whyNot_38, ↓eX4_whyNot_41, ↓eX4_whyNot_42, ↓eX4_whyNot_43, ↓eX4_whyNot_44, ↓eX4_whyNot_47, ↓eX4_whyNot_48, ↓eX4_whyNot_51, ↓eX4_whyNot_52, ↓eX4_whyNot_53, ↓eX4_whyNot_56, ↓eX4_whyNot_59, ↓eX4_whyNot_60, ↓eX4_whyNot_63, ↓eX4_whyNot_64, k1, k20, c2, m11, m10', htu, hro, h4, w2, ↓f1, ↓f2, ↓f3, y, u', Int.cast_ofNat_Int, kd_si, gr_si, ln_si, gi_same, gi_na, gi_ni, nl_i, nl_r, nl_j, nj_i, nj_l, nj_r, true_and, and_true, and_self, cs_0, cs_1, cs_2, cs_3, cs_4, ↓reduceIte, Nat.reduceLeDiff, Nat.reduceEqDiff, Nat.reduceAdd, Int.reduceLE, Int.reduceLT, Int.reduceEq, Int.reduceAdd, Int.reduceNeg, Int.reduceToNat, Int.toNat_natCast, ne_eq, not_false_eq_true, not_true_eq_false, or_true, true_or, or_false, false_or]
        · have u' : (sm (spn fr un) b n + spn fr un j ≤ room) = True := eq_true (by omega)
          rw [if_neg u]
          simp only [↓cpX4_whyNot, ↓eX4_whyNot_0, ↓eX4_whyNot_1, ↓eX4_whyNot_4, ↓eX4_whyNot_7, ↓eX4_whyNot_8, ↓eX4_whyNot_9, ↓eX4_whyNot_10, ↓eX4_whyNot_13, ↓eX4_whyNot_16, ↓eX4_whyNot_17, ↓eX4_whyNot_18, ↓eX4_whyNot_19, ↓eX4_whyNot_20, ↓eX4_whyNot_23, ↓eX4_whyNot_24, ↓eX4_whyNot_27, ↓eX4_whyNot_28, ↓eX4_whyNot_29, ↓eX4_whyNot_30, ↓eX4_whyNot_31, ↓eX4_whyNot_32, ↓eX4_whyNot_35, ↓eX4_whyNot_38, ↓eX4_whyNot_41, ↓eX4_whyNot_42, ↓eX4_whyNot_43, ↓eX4_whyNot_44, ↓eX4_whyNot_47, ↓eX4_whyNot_48, ↓eX4_whyNot_51, ↓eX4_whyNot_52, ↓eX4_whyNot_53, ↓eX4_whyNot_56, ↓eX4_whyNot_59, ↓eX4_whyNot_60, ↓eX4_whyNot_63, ↓eX4_whyNot_64, k1, k20, c2, m11, m10', htu, hro, h4, w2, ↓f1, ↓f2, ↓f3, y, u', Int.cast_ofNat_Int, kd_si, gr_si, ln_si, gi_same, gi_na, gi_ni, nl_i, nl_r, nl_j, nj_i, nj_l, nj_r, true_and, and_true, and_self, cs_0, cs_1, cs_2, cs_3, cs_4, ↓reduceIte, Nat.reduceLeDiff, Nat.reduceEqDiff, Nat.reduceAdd, Int.reduceLE, Int.reduceLT, Int.reduceEq, Int.reduceAdd, Int.reduceNeg, Int.reduceToNat, Int.toNat_natCast, ne_eq, not_false_eq_true, not_true_eq_false, or_true, true_or, or_false, false_or]
    · rw [if_pos y]
      simp only [↓cpX4_whyNot, ↓eX4_whyNot_0, ↓eX4_whyNot_1, ↓eX4_whyNot_4, ↓eX4_whyNot_7, ↓eX4_whyNot_8, ↓eX4_whyNot_9, ↓eX4_whyNot_10, ↓eX4_whyNot_13, ↓eX4_whyNot_16, ↓eX4_whyNot_17, ↓eX4_whyNot_18, ↓eX4_whyNot_19, ↓eX4_whyNot_20, ↓eX4_whyNot_23, ↓eX4_whyNot_24, ↓eX4_whyNot_27, ↓eX4_whyNot_28, ↓eX4_whyNot_29, ↓eX4_whyNot_30, ↓eX4_whyNot_31, ↓eX4_whyNot_32, ↓eX4_whyNot_35, ↓eX4_whyNot_38, ↓eX4_whyNot_41, ↓eX4_whyNot_42, ↓eX4_whyNot_43, ↓eX4_whyNot_44, ↓eX4_whyNot_47, ↓eX4_whyNot_48, ↓eX4_whyNot_51, ↓eX4_whyNot_52, ↓eX4_whyNot_53, ↓eX4_whyNot_56, ↓eX4_whyNot_59, ↓eX4_whyNot_60, ↓eX4_whyNot_63, ↓eX4_whyNot_64, k1, k20, c2, m11, m10', ↓f1, y, Int.cast_ofNat_Int, kd_si, gr_si, ln_si, gi_same, gi_na, gi_ni, nl_i, nl_r, nl_j, nj_i, nj_l, nj_r, true_and, and_true, and_self, cs_0, cs_1, cs_2, cs_3, cs_4, ↓reduceIte, Nat.reduceLeDiff, Nat.reduceEqDiff, Nat.reduceAdd, Int.reduceLE, Int.reduceLT, Int.reduceEq, Int.reduceAdd, Int.reduceNeg, Int.reduceToNat, Int.toNat_natCast, ne_eq, not_false_eq_true, not_true_eq_false, or_true, true_or, or_false, false_or]
theorem x_rivalOf (hX : CX N p n cl wt fr un lo may b) {j : Nat} (hj : j < n) {y : Int} (hy : gi N (cl j) 12 = y) : CP (mc (d + 3)) 43 [vr (some p), vr (some (cl j))] N Q = Q (vi (rivP n b wt fr un lo j y)) N := by
  have hX0 := hX
  obtain ⟨h, hC, hX⟩ := hX
  have hC' := hC
  obtain ⟨hp, hn, h0, hc, hi⟩ := hC'
  obtain ⟨k1, k2, k3, k4⟩ := CB_p (n := n) (cl := cl) h hp
  obtain ⟨c1, c2, c3⟩ := hc j hj
  have f1 := fun (Q : mV → mM → Prop) => x_memberOneWith (d := d) (Q := Q) hX0 hj
  have f2 := fun (Q : mV → mM → Prop) => x_lightest (d := d) (Q := Q) hX0 hj
  unfold rivP
  by_cases z2 : y = 2
  · subst z2
    rw [if_pos rfl]
    simp only [↓cpX4_rivalOf, ↓eX4_rivalOf_0, ↓eX4_rivalOf_1, ↓eX4_rivalOf_4, ↓eX4_rivalOf_32, ↓eX4_rivalOf_33, ↓eX4_rivalOf_34, ↓eX4_rivalOf_37, ↓eX4_rivalOf_38, ↓eX4_rivalOf_39, ↓eX4_rivalOf_40, ↓eX4_rivalOf_43, ↓eX4_rivalOf_44, ↓eX4_rivalOf_45, k1, c2, hy, ↓f1, Int.cast_ofNat_Int, kd_si, gr_si, ln_si, gi_same, gi_na, gi_ni, nl_i, nl_r, nl_j, nj_i, nj_l, nj_r, true_and, and_true, and_self, cs_0, cs_1, cs_2, cs_3, cs_4, ↓reduceIte, Nat.reduceLeDiff, Nat.reduceEqDiff, Nat.reduceAdd, Int.reduceLE, Int.reduceLT, Int.reduceEq, Int.reduceAdd, Int.reduceNeg, Int.reduceToNat, Int.toNat_natCast, ne_eq, not_false_eq_true, not_true_eq_false, or_true, true_or, or_false, false_or]
  rw [if_neg z2]
  by_cases z3 : y = 3
  · subst z3
    rw [if_pos rfl]
    simp only [↓cpX4_rivalOf, ↓eX4_rivalOf_0, ↓eX4_rivalOf_1, ↓eX4_rivalOf_4, ↓eX4_rivalOf_32, ↓eX4_rivalOf_33, ↓eX4_rivalOf_34, ↓eX4_rivalOf_37, ↓eX4_rivalOf_38, ↓eX4_rivalOf_39, ↓eX4_rivalOf_40, ↓eX4_rivalOf_43, ↓eX4_rivalOf_44, ↓eX4_rivalOf_45, k1, c2, hy, ↓f2, Int.cast_ofNat_Int, kd_si, gr_si, ln_si, gi_same, gi_na, gi_ni, nl_i, nl_r, nl_j, nj_i, nj_l, nj_r, true_and, and_true, and_self, cs_0, cs_1, cs_2, cs_3, cs_4, ↓reduceIte, Nat.reduceLeDiff, Nat.reduceEqDiff, Nat.reduceAdd, Int.reduceLE, Int.reduceLT, Int.reduceEq, Int.reduceAdd, Int.reduceNeg, Int.reduceToNat, Int.toNat_natCast, ne_eq, not_false_eq_true, not_true_eq_false, or_true, true_or, or_false, false_or]
  rw [if_neg z3]
  simp only [↓cpX4_rivalOf, ↓eX4_rivalOf_0, ↓eX4_rivalOf_1, ↓eX4_rivalOf_4, ↓eX4_rivalOf_32, ↓eX4_rivalOf_33, ↓eX4_rivalOf_34, ↓eX4_rivalOf_37, ↓eX4_rivalOf_38, ↓eX4_rivalOf_39, ↓eX4_rivalOf_40, ↓eX4_rivalOf_43, ↓eX4_rivalOf_44, ↓eX4_rivalOf_45, k1, c2, hy, z2, z3, Int.cast_ofNat_Int, kd_si, gr_si, ln_si, gi_same, gi_na, gi_ni, nl_i, nl_r, nl_j, nj_i, nj_l, nj_r, true_and, and_true, and_self, cs_0, cs_1, cs_2, cs_3, cs_4, ↓reduceIte, Nat.reduceLeDiff, Nat.reduceEqDiff, Nat.reduceAdd, Int.reduceLE, Int.reduceLT, Int.reduceEq, Int.reduceAdd, Int.reduceNeg, Int.reduceToNat, Int.toNat_natCast, ne_eq, not_false_eq_true, not_true_eq_false, or_true, true_or, or_false, false_or]
end EXPL
/-- fields that explain changes -/
def exP (n : Nat) (cl : Nat → Nat) (a i : Nat) : Prop := (i = 12 ∨ i = 13) ∧ ∃ j, j < n ∧ a = cl j
theorem CX_f {B N : mM} {p n b : Nat} {cl : Nat → Nat} {wt fr un lo : Nat → Int} {may : Nat → Bool} (hY : YF (exP n cl) B N) (h : CX B p n cl wt fr un lo may b) : CX N p n cl wt fr un lo may b := by
  obtain ⟨h1, h2, h3⟩ := h
  have g : ∀ a i, i ≠ 12 → i ≠ 13 → gi N a i = gi B a i := fun a i q1 q2 => hY.2 a i (fun w => by rcases w.1 with w | w <;> omega)
  refine ⟨YF_SH hY h1, CB_f hY.1 (g p 0 (by decide) (by decide)) h2, fun j hj => ?_⟩
  rw [g _ _ (by decide) (by decide), g _ _ (by decide) (by decide), g _ _ (by decide) (by decide), g _ _ (by decide) (by decide), g _ _ (by decide) (by decide), g _ _ (by decide) (by decide)]
  exact h3 j hj
theorem x_ex_loop {d p n b : Nat} {B : mM} {Q : mV → mM → Prop} {cl : Nat → Nat} {wt fr un lo way : Nat → Int} {may : Nat → Bool} {tu room : Int} (hX : CX B p n cl wt fr un lo may b) (hS : SN n wt fr un way) (h4 : gi B p 4 = sm (spn fr un) b n) (htu : gi B 20 0 = tu) (hro : gi B 20 3 = room)
    (hQ : ∀ N, YF (exP n cl) B N → (∀ j, j < n → gi N (cl j) 12 = whyP n b fr un lo may tu room j ∧ gi N (cl j) 13 = rivP n b wt fr un lo j (whyP n b fr un lo may tu room j)) → Q vj N) :
    ∀ (r i : Nat) (N : mM) (a3 : mV), i + r = n → YF (exP n cl) B N → (∀ j, j < i → gi N (cl j) 12 = whyP n b fr un lo may tu room j ∧ gi N (cl j) 13 = rivP n b wt fr un lo j (whyP n b fr un lo may tu room j)) → WP (mc (d + 4)) tX4_explain 2 [vr (some p), vr (some 20), vi (i : Nat), a3] [] N Q := by
  have hX0 := hX
  obtain ⟨h, hC, hX⟩ := hX
  have hC' := hC
  obtain ⟨hp, hn, h0, hc, hi⟩ := hC'
  obtain ⟨k1, k2, k3, k4⟩ := CB_p (n := n) (cl := cl) h hp
  intro r
  induction r with
  | zero =>
    intro i N a3 hr hN hA
    have e : i = n := by omega
    subst e
    have kN : kd N p = 4 := by rw [YF_k hN]; exact k1
    have gN : gi N p 0 = i := by rw [hN.2 p 0 (fun w => by rcases w.1 with w | w <;> omega)]; exact h0
    rw [eX4_explain_2]
    simp only [↓eX4_explain_3, ↓eX4_explain_4, ↓eX4_explain_7, ↓eX4_explain_45, kN, gN, Int.le_refl, Int.cast_ofNat_Int, kd_si, gr_si, ln_si, gi_same, gi_na, gi_ni, nl_i, nl_r, nl_j, nj_i, nj_l, nj_r, true_and, and_true, and_self, cs_0, cs_1, cs_2, cs_3, cs_4, ↓reduceIte, Nat.reduceLeDiff, Nat.reduceEqDiff, Nat.reduceAdd, Int.reduceLE, Int.reduceLT, Int.reduceEq, Int.reduceAdd, Int.reduceNeg, Int.reduceToNat, Int.toNat_natCast, ne_eq, not_false_eq_true, not_true_eq_false, or_true, true_or, or_false, false_or]
    exact hQ N hN hA
  | succ r ih =>
    intro i N a3 hr hN hA
    have hin : i < n := by omega
    have hXN := CX_f hN hX0
    have kN : kd N p = 4 := by rw [YF_k hN]; exact k1
    have kx : kd N (cl i) = 0 := by rw [YF_k hN]; exact (hc i hin).2.1
    have g : ∀ a m, m ≠ 12 → m ≠ 13 → gi N a m = gi B a m := fun a m q1 q2 => hN.2 a m (fun w => by rcases w.1 with w | w <;> omega)
    have gN : gi N p 0 = n := by rw [g p 0 (by decide) (by decide)]; exact h0
    have e1 : ((n : Int) ≤ (i : Int)) = False := eq_false (by omega)
    have e2 : wr ((i : Int) + 1) = ((i + 1 : Nat) : Int) := by rw [wr_id (by omega) (by omega)]; omega
    have fa := fun (Q : mV → mM → Prop) => x_cat (d := d + 3) (N := N) (Q := Q) (p := p) (n := n) (cl := cl) (j := i) hXN.1 hXN.2.1 hin
    have fw := fun (Q : mV → mM → Prop) => x_whyNot (d := d) (N := N) (Q := Q) (tu := tu) (room := room) hXN hS hin (by rw [g p 4 (by decide) (by decide)]; exact h4) (by rw [g 20 0 (by decide) (by decide)]; exact htu) (by rw [g 20 3 (by decide) (by decide)]; exact hro)
    have hY1 : YF (exP n cl) B (si N (cl i) 12 (whyP n b fr un lo may tu room i)) := YF_si ⟨Or.inl rfl, i, hin, rfl⟩ hN
    have fr' := fun (Q : mV → mM → Prop) => x_rivalOf (d := d + 1) (N := si N (cl i) 12 (whyP n b fr un lo may tu room i)) (Q := Q) (CX_f hY1 hX0) hin (gi_same _ _ _ _)
    have nxt := ih (i + 1) (si (si N (cl i) 12 (whyP n b fr un lo may tu room i)) (cl i) 13 (rivP n b wt fr un lo i (whyP n b fr un lo may tu room i))) (vr (some (cl i))) (by omega) (YF_si ⟨Or.inr rfl, i, hin, rfl⟩ hY1) (fun j hj => by
      by_cases q : j = i
      · rw [q]
        exact ⟨by rw [gi_ni (by decide), gi_same], gi_same _ _ _ _⟩
      · have ne : cl j ≠ cl i := fun w => q (hi j i (by omega) hin w)
        rw [gi_na ne, gi_na ne, gi_na ne, gi_na ne]
        exact hA j (by omega))
    rw [eX4_explain_2]
    simp only [↓eX4_explain_3, ↓eX4_explain_4, ↓eX4_explain_7, ↓eX4_explain_10, ↓eX4_explain_11, ↓eX4_explain_12, ↓eX4_explain_15, ↓eX4_explain_16, ↓eX4_explain_17, ↓eX4_explain_20, ↓eX4_explain_21, ↓eX4_explain_22, ↓eX4_explain_23, ↓eX4_explain_24, ↓eX4_explain_27, ↓eX4_explain_30, ↓eX4_explain_31, ↓eX4_explain_32, ↓eX4_explain_33, ↓eX4_explain_36, ↓eX4_explain_39, ↓eX4_explain_42, kN, kx, gN, e1, e2, ↓fa, ↓fw, ↓fr', reduceCtorEq, Int.cast_ofNat_Int, kd_si, gr_si, ln_si, gi_same, gi_na, gi_ni, nl_i, nl_r, nl_j, nj_i, nj_l, nj_r, true_and, and_true, and_self, cs_0, cs_1, cs_2, cs_3, cs_4, ↓reduceIte, Nat.reduceLeDiff, Nat.reduceEqDiff, Nat.reduceAdd, Int.reduceLE, Int.reduceLT, Int.reduceEq, Int.reduceAdd, Int.reduceNeg, Int.reduceToNat, Int.toNat_natCast, ne_eq, not_false_eq_true, not_true_eq_false, or_true, true_or, or_false, false_or]
    exact nxt
theorem x_explain {d p n b : Nat} {B : mM} {Q : mV → mM → Prop} {cl : Nat → Nat} {wt fr un lo way : Nat → Int} {may : Nat → Bool} {tu room : Int} (hX : CX B p n cl wt fr un lo may b) (hS : SN n wt fr un way) (h4 : gi B p 4 = sm (spn fr un) b n) (htu : gi B 20 0 = tu) (hro : gi B 20 3 = room)
    (hQ : ∀ N, YF (exP n cl) B N → (∀ j, j < n → gi N (cl j) 12 = whyP n b fr un lo may tu room j ∧ gi N (cl j) 13 = rivP n b wt fr un lo j (whyP n b fr un lo may tu room j)) → Q vj N) : CP (mc (d + 5)) 41 [vr (some p), vr (some 20)] B Q := by
  have lp := x_ex_loop (d := d) hX hS h4 htu hro hQ n 0 B vj (by omega) YF_refl (fun j hj => absurd hj (Nat.not_lt_zero j))
  simp only [↓cpX4_explain, ↓eX4_explain_0, ↓eX4_explain_1, Int.cast_ofNat_Int, kd_si, gr_si, ln_si, gi_same, gi_na, gi_ni, nl_i, nl_r, nl_j, nj_i, nj_l, nj_r, true_and, and_true, and_self, cs_0, cs_1, cs_2, cs_3, cs_4, ↓reduceIte, Nat.reduceLeDiff, Nat.reduceEqDiff, Nat.reduceAdd, Int.reduceLE, Int.reduceLT, Int.reduceEq, Int.reduceAdd, Int.reduceNeg, Int.reduceToNat, Int.toNat_natCast, ne_eq, not_false_eq_true, not_true_eq_false, or_true, true_or, or_false, false_or]
  exact lp
