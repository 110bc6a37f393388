/-! ===== tokens of a text ===== -/
abbrev isLt (c : Int) : Prop := 97 ≤ c ∧ c ≤ 122
abbrev isDg (c : Int) : Prop := 48 ≤ c ∧ c ≤ 57
abbrev isBk (c : Int) : Prop := c = 9 ∨ c = 10 ∨ c = 13 ∨ c = 32
def bt (B : Nat → Int) (sz i : Nat) : Int := if i < sz then B i else 0
def skp (B : Nat → Int) : Nat → Nat → Nat
  | 0, i => i
  | r + 1, i => if isBk (B i) then skp B r (i + 1) else i
def wdE (B : Nat → Int) : Nat → Nat → Nat
  | 0, i => i
  | r + 1, i => if isLt (B i) then wdE B r (i + 1) else i
def dgE (B : Nat → Int) : Nat → Nat → Nat
  | 0, i => i
  | r + 1, i => if isDg (B i) then dgE B r (i + 1) else i
theorem skp_le (B : Nat → Int) : ∀ r i, i ≤ skp B r i ∧ skp B r i ≤ i + r := by
  intro r
  induction r with
  | zero => intro i; exact ⟨Nat.le_refl _, Nat.le_refl _⟩
  | succ r ih =>
    intro i
    rw [skp]
    split
    · have := ih (i + 1); omega
    · omega
theorem wdE_le (B : Nat → Int) : ∀ r i, i ≤ wdE B r i ∧ wdE B r i ≤ i + r := by
  intro r
  induction r with
  | zero => intro i; exact ⟨Nat.le_refl _, Nat.le_refl _⟩
  | succ r ih =>
    intro i
    rw [wdE]
    split
    · have := ih (i + 1); omega
    · omega
theorem dgE_le (B : Nat → Int) : ∀ r i, i ≤ dgE B r i ∧ dgE B r i ≤ i + r := by
  intro r
  induction r with
  | zero => intro i; exact ⟨Nat.le_refl _, Nat.le_refl _⟩
  | succ r ih =>
    intro i
    rw [dgE]
    split
    · have := ih (i + 1); omega
    · omega
theorem skp_nb (B : Nat → Int) : ∀ r i, skp B r i < i + r → ¬ isBk (B (skp B r i)) := by
  intro r
  induction r with
  | zero => intro i h; exact absurd h (by rw [skp]; omega)
  | succ r ih =>
    intro i
    rw [skp]
    by_cases q : isBk (B i)
    · rw [if_pos q]
      intro h
      exact ih (i + 1) (by omega)
    · rw [if_neg q]
      exact fun _ => q
/-- the kind of a word of n letters at i -/
def spl (B : Nat → Int) (i n : Nat) (w : List Int) : Bool := decide (n = w.length) && (List.range w.length).all (fun j => decide (B (i + j) = w.getD j 0))
def kw (B : Nat → Int) (i n : Nat) : Int :=
  if spl B i n [119, 105, 115, 104] then 23 else if spl B i n [110, 101, 118, 101, 114] then 24 else if spl B i n [105, 102] then 25 else if spl B i n [111, 114] then 11 else if spl B i n [97, 110, 100] then 12
  else if spl B i n [108, 105, 118, 101] then 9 else if spl B i n [102, 105, 114, 115, 116] then 10 else if spl B i n [116, 105, 116, 108, 101] then 2 else if spl B i n [101, 112, 105, 115, 111, 100, 101] then 3 else if spl B i n [99, 104, 97, 110, 110, 101, 108] then 4
  else if spl B i n [102, 114, 111, 109] then 5 else if spl B i n [117, 110, 116, 105, 108] then 6 else if spl B i n [108, 101, 110, 103, 116, 104] then 7 else if spl B i n [116, 114, 117, 115, 116] then 8 else 0
/-- the kinds of signs -/
def kp (c : Int) : Int := if c = 33 then 14 else if c = 60 then 16 else if c = 61 then 13 else 0
def ks (c : Int) : Int := if c = 40 then 20 else if c = 41 then 21 else if c = 42 then 19 else if c = 43 then 17 else if c = 45 then 18 else if c = 59 then 22 else if c = 60 then 15 else 0
def nv (B : Nat → Int) (i : Nat) : Nat → Int
  | 0 => 0
  | n + 1 => 10 * nv B i n + B (i + n) - 48
abbrev prd (B : Nat → Int) (sz i : Nat) : Prop := bt B sz (i + 1) = 61 ∧ kp (B i) ≠ 0
def tkE (B : Nat → Int) (sz i : Nat) : Nat := if isLt (B i) then wdE B (sz - (i + 1)) (i + 1) else if isDg (B i) then dgE B (sz - i) i else if prd B sz i then i + 2 else i + 1
def tkK (B : Nat → Int) (sz i : Nat) : Int := if isLt (B i) then (if 8 < tkE B sz i - i then 0 else kw B i (tkE B sz i - i)) else if isDg (B i) then (if 4 < tkE B sz i - i then 0 else 1) else if prd B sz i then kp (B i) else ks (B i)
def tkV (B : Nat → Int) (sz i : Nat) : Int := nv B i (tkE B sz i - i)
theorem kp_v (c : Int) : kp c = 0 ∨ kp c = 13 ∨ kp c = 14 ∨ kp c = 16 := by
  unfold kp
  repeat' split
  all_goals omega
theorem tkE_lt {B : Nat → Int} {sz i : Nat} (h : i < sz) : i < tkE B sz i ∧ tkE B sz i ≤ sz := by
  unfold tkE
  by_cases q1 : isLt (B i)
  · rw [if_pos q1]
    have := wdE_le B (sz - (i + 1)) (i + 1)
    omega
  · rw [if_neg q1]
    by_cases q2 : isDg (B i)
    · rw [if_pos q2]
      obtain ⟨r, hr⟩ : ∃ r, sz - i = r + 1 := ⟨sz - i - 1, by omega⟩
      rw [hr, dgE, if_pos q2]
      have := dgE_le B r (i + 1)
      omega
    · rw [if_neg q2]
      by_cases q3 : prd B sz i
      · rw [if_pos q3]
        have := q3.1
        unfold bt at this
        by_cases z : i + 1 < sz
        · omega
        · rw [if_neg z] at this; omega
      · rw [if_neg q3]; omega
/-! ===== the class finds tokens ===== -/
theorem x_byteAt {d : Nat} {M : mM} {Q : mV → mM → Prop} {sz i : Nat} (h : SH M) (hs : gi M 16 0 = sz) (h2 : sz ≤ 2000) : CP (mc (d + 1)) 67 [vr (some 16), vi i] M Q = Q (vi (bt (gi M 17) sz i)) M := by
  have e0 : ((i : Int) < 0) = False := eq_false (by omega)
  unfold bt
  by_cases q : i < sz
  · have e1 : ((sz : Int) ≤ (i : Int)) = False := eq_false (by omega)
    have e2 : ((2000 : Int) ≤ (i : Int)) = False := eq_false (by omega)
    have e3 : (0 ≤ (i : Int)) = True := eq_true (by omega)
    have e4 : ((i : Int) < 2000) = True := eq_true (by omega)
    rw [if_pos q]
    simp only [↓cpX8_byteAt, ↓eX8_byteAt_0, ↓eX8_byteAt_1, ↓eX8_byteAt_4, ↓eX8_byteAt_5, ↓eX8_byteAt_6, ↓eX8_byteAt_9, ↓eX8_byteAt_12, ↓eX8_byteAt_13, ↓eX8_byteAt_14, ↓eX8_byteAt_17, ↓eX8_byteAt_18, ↓eX8_byteAt_21, ↓eX8_byteAt_22, ↓eX8_byteAt_25, ↓eX8_byteAt_26, ↓eX8_byteAt_27, ↓eX8_byteAt_30, ↓eX8_byteAt_31, hk16 h, hr16_5 h, hk17 h, hl17 h, hs, e0, e1, e2, e3, e4, Int.cast_ofNat_Int, kd_si, gr_si, ln_si, gi_same, gi_na, gi_ni, nl_i, nl_r, nl_j, nj_i, nj_l, nj_r, true_and, and_true, and_self, cs_0, cs_1, cs_2, cs_3, cs_4, ↓reduceIte, Nat.reduceLeDiff, Nat.reduceEqDiff, Nat.reduceAdd, Int.reduceLE, Int.reduceLT, Int.reduceEq, Int.reduceAdd, Int.reduceNeg, Int.reduceToNat, Int.toNat_natCast, ne_eq, not_false_eq_true, not_true_eq_false, or_true, true_or, or_false, false_or]
  · have e1 : ((sz : Int) ≤ (i : Int)) = True := eq_true (by omega)
    rw [if_neg q]
    simp only [↓cpX8_byteAt, ↓eX8_byteAt_0, ↓eX8_byteAt_1, ↓eX8_byteAt_4, ↓eX8_byteAt_5, ↓eX8_byteAt_6, ↓eX8_byteAt_9, ↓eX8_byteAt_12, ↓eX8_byteAt_13, ↓eX8_byteAt_14, ↓eX8_byteAt_17, ↓eX8_byteAt_18, ↓eX8_byteAt_21, ↓eX8_byteAt_22, ↓eX8_byteAt_25, ↓eX8_byteAt_26, ↓eX8_byteAt_27, ↓eX8_byteAt_30, ↓eX8_byteAt_31, hk16 h, hr16_5 h, hk17 h, hl17 h, hs, e0, e1, Int.cast_ofNat_Int, kd_si, gr_si, ln_si, gi_same, gi_na, gi_ni, nl_i, nl_r, nl_j, nj_i, nj_l, nj_r, true_and, and_true, and_self, cs_0, cs_1, cs_2, cs_3, cs_4, ↓reduceIte, Nat.reduceLeDiff, Nat.reduceEqDiff, Nat.reduceAdd, Int.reduceLE, Int.reduceLT, Int.reduceEq, Int.reduceAdd, Int.reduceNeg, Int.reduceToNat, Int.toNat_natCast, ne_eq, not_false_eq_true, not_true_eq_false, or_true, true_or, or_false, false_or]
theorem x_isBlank {d : Nat} {M : mM} {Q : mV → mM → Prop} {c : Int} : CP (mc (d + 1)) 68 [vi c] M Q = if isBk c then Q (vi 1) M else Q (vi 0) M := by
  simp only [↓cpX8_isBlank, ↓eX8_isBlank_0, ↓eX8_isBlank_1, ↓eX8_isBlank_3, ↓eX8_isBlank_6, ↓eX8_isBlank_7, ↓eX8_isBlank_9, ↓eX8_isBlank_12, ↓eX8_isBlank_13, ↓eX8_isBlank_15, ↓eX8_isBlank_18, ↓eX8_isBlank_19, ↓eX8_isBlank_21, ↓eX8_isBlank_24, ↓eX8_isBlank_25, ↓eX8_isBlank_28, ↓eX8_isBlank_29, Int.cast_ofNat_Int, kd_si, gr_si, ln_si, gi_same, gi_na, gi_ni, nl_i, nl_r, nl_j, nj_i, nj_l, nj_r, true_and, and_true, and_self, cs_0, cs_1, cs_2, cs_3, cs_4, ↓reduceIte, Nat.reduceLeDiff, Nat.reduceEqDiff, Nat.reduceAdd, Int.reduceLE, Int.reduceLT, Int.reduceEq, Int.reduceAdd, Int.reduceNeg, Int.reduceToNat, Int.toNat_natCast, ne_eq, not_false_eq_true, not_true_eq_false, or_true, true_or, or_false, false_or]
  unfold isBk
  (repeat' split) <;> first | rfl | (exfalso; omega)
theorem x_isLetter {d : Nat} {M : mM} {Q : mV → mM → Prop} {c : Int} : CP (mc (d + 1)) 69 [vi c] M Q = if isLt c then Q (vi 1) M else Q (vi 0) M := by
  simp only [↓cpX8_isLetter, ↓eX8_isLetter_0, ↓eX8_isLetter_1, ↓eX8_isLetter_3, ↓eX8_isLetter_6, ↓eX8_isLetter_7, ↓eX8_isLetter_9, ↓eX8_isLetter_12, ↓eX8_isLetter_13, ↓eX8_isLetter_16, ↓eX8_isLetter_17, Int.cast_ofNat_Int, kd_si, gr_si, ln_si, gi_same, gi_na, gi_ni, nl_i, nl_r, nl_j, nj_i, nj_l, nj_r, true_and, and_true, and_self, cs_0, cs_1, cs_2, cs_3, cs_4, ↓reduceIte, Nat.reduceLeDiff, Nat.reduceEqDiff, Nat.reduceAdd, Int.reduceLE, Int.reduceLT, Int.reduceEq, Int.reduceAdd, Int.reduceNeg, Int.reduceToNat, Int.toNat_natCast, ne_eq, not_false_eq_true, not_true_eq_false, or_true, true_or, or_false, false_or]
  unfold isLt
  (repeat' split) <;> first | rfl | (exfalso; omega)
theorem x_isDigit {d : Nat} {M : mM} {Q : mV → mM → Prop} {c : Int} : CP (mc (d + 1)) 70 [vi c] M Q = if isDg c then Q (vi 1) M else Q (vi 0) M := by
  simp only [↓cpX8_isDigit, ↓eX8_isDigit_0, ↓eX8_isDigit_1, ↓eX8_isDigit_3, ↓eX8_isDigit_6, ↓eX8_isDigit_7, ↓eX8_isDigit_9, ↓eX8_isDigit_12, ↓eX8_isDigit_13, ↓eX8_isDigit_16, ↓eX8_isDigit_17, Int.cast_ofNat_Int, kd_si, gr_si, ln_si, gi_same, gi_na, gi_ni, nl_i, nl_r, nl_j, nj_i, nj_l, nj_r, true_and, and_true, and_self, cs_0, cs_1, cs_2, cs_3, cs_4, ↓reduceIte, Nat.reduceLeDiff, Nat.reduceEqDiff, Nat.reduceAdd, Int.reduceLE, Int.reduceLT, Int.reduceEq, Int.reduceAdd, Int.reduceNeg, Int.reduceToNat, Int.toNat_natCast, ne_eq, not_false_eq_true, not_true_eq_false, or_true, true_or, or_false, false_or]
  unfold isDg
  (repeat' split) <;> first | rfl | (exfalso; omega)
theorem x_kindOfPair {d : Nat} {M : mM} {Q : mV → mM → Prop} {c : Int} : CP (mc (d + 1)) 71 [vi c] M Q = Q (vi (kp c)) M := by
  simp only [↓cpX8_kindOfPair, ↓eX8_kindOfPair_0, ↓eX8_kindOfPair_1, ↓eX8_kindOfPair_36, ↓eX8_kindOfPair_38, ↓eX8_kindOfPair_39, ↓eX8_kindOfPair_41, ↓eX8_kindOfPair_42, ↓eX8_kindOfPair_44, ↓eX8_kindOfPair_45, ↓eX8_kindOfPair_46, Int.cast_ofNat_Int, kd_si, gr_si, ln_si, gi_same, gi_na, gi_ni, nl_i, nl_r, nl_j, nj_i, nj_l, nj_r, true_and, and_true, and_self, cs_0, cs_1, cs_2, cs_3, cs_4, ↓reduceIte, Nat.reduceLeDiff, Nat.reduceEqDiff, Nat.reduceAdd, Int.reduceLE, Int.reduceLT, Int.reduceEq, Int.reduceAdd, Int.reduceNeg, Int.reduceToNat, Int.toNat_natCast, ne_eq, not_false_eq_true, not_true_eq_false, or_true, true_or, or_false, false_or]
  unfold kp
  (repeat' split) <;> rfl
theorem x_kindOfSign {d : Nat} {M : mM} {Q : mV → mM → Prop} {c : Int} : CP (mc (d + 1)) 72 [vi c] M Q = Q (vi (ks c)) M := by
  simp only [↓cpX8_kindOfSign, ↓eX8_kindOfSign_0, ↓eX8_kindOfSign_1, ↓eX8_kindOfSign_100, ↓eX8_kindOfSign_102, ↓eX8_kindOfSign_103, ↓eX8_kindOfSign_105, ↓eX8_kindOfSign_106, ↓eX8_kindOfSign_108, ↓eX8_kindOfSign_109, ↓eX8_kindOfSign_111, ↓eX8_kindOfSign_112, ↓eX8_kindOfSign_114, ↓eX8_kindOfSign_115, ↓eX8_kindOfSign_117, ↓eX8_kindOfSign_118, ↓eX8_kindOfSign_120, ↓eX8_kindOfSign_121, ↓eX8_kindOfSign_122, Int.cast_ofNat_Int, kd_si, gr_si, ln_si, gi_same, gi_na, gi_ni, nl_i, nl_r, nl_j, nj_i, nj_l, nj_r, true_and, and_true, and_self, cs_0, cs_1, cs_2, cs_3, cs_4, ↓reduceIte, Nat.reduceLeDiff, Nat.reduceEqDiff, Nat.reduceAdd, Int.reduceLE, Int.reduceLT, Int.reduceEq, Int.reduceAdd, Int.reduceNeg, Int.reduceToNat, Int.toNat_natCast, ne_eq, not_false_eq_true, not_true_eq_false, or_true, true_or, or_false, false_or]
  unfold ks
  by_cases q1 : c = 40
  · subst q1; rfl
  by_cases q2 : c = 41
  · subst q2; rfl
  by_cases q3 : c = 42
  · subst q3; rfl
  by_cases q4 : c = 43
  · subst q4; rfl
  by_cases q5 : c = 45
  · subst q5; rfl
  by_cases q6 : c = 59
  · subst q6; rfl
  by_cases q7 : c = 60
  · subst q7; rfl
  simp only [q1, q2, q3, q4, q5, q6, q7, ↓reduceIte, ite_self]
theorem si_si (M : mM) (a i : Nat) (x y : Int) : si (si M a i x) a i y = si M a i y := by
  refine Prod.ext ?_ rfl
  funext b j
  show gi (si (si M a i x) a i y) b j = gi (si M a i y) b j
  simp only [gi_si]
  by_cases z : b = a ∧ j = i
  · simp only [if_pos z]
  · simp only [if_neg z]
def tpS (a i : Nat) : Prop := a = 16 ∧ 1 ≤ i ∧ i ≤ 4
theorem x_adv_loop {d : Nat} {M : mM} {Q : mV → mM → Prop} {sz : Nat} {a1 : mV} (h : SH M) (hs : gi M 16 0 = sz) (h2 : sz ≤ 2000) :
    ∀ r i : Nat, i + r = sz → WP (mc (d + 1)) tX8_advance 8 [vr (some 16), a1] [] (si M 16 3 i) Q = WP (mc (d + 1)) tX8_advance 46 [vr (some 16), a1] [] (si M 16 3 (skp (gi M 17) r i : Nat)) Q := by
  intro r
  induction r with
  | zero =>
    intro i hi
    have hN : SH (si M 16 3 (i : Int)) := h
    have e : i = sz := by omega
    subst e
    rw [eX8_advance_8]
    simp only [↓eX8_advance_9, ↓eX8_advance_12, ↓eX8_advance_13, ↓eX8_advance_16, hk16 hN, hs, Int.le_refl, Int.cast_ofNat_Int, kd_si, gr_si, ln_si, gi_same, gi_na, gi_ni, nl_i, nl_r, nl_j, nj_i, nj_l, nj_r, true_and, and_true, and_self, cs_0, cs_1, cs_2, cs_3, cs_4, ↓reduceIte, Nat.reduceLeDiff, Nat.reduceEqDiff, Nat.reduceAdd, Int.reduceLE, Int.reduceLT, Int.reduceEq, Int.reduceAdd, Int.reduceNeg, Int.reduceToNat, Int.toNat_natCast, ne_eq, not_false_eq_true, not_true_eq_false, or_true, true_or, or_false, false_or]
    rfl
  | succ r ih =>
    intro i hi
    have hN : SH (si M 16 3 (i : Int)) := h
    have e : ((sz : Int) ≤ (i : Int)) = False := eq_false (by omega)
    have e2 : wr ((i : Int) + 1) = ((i + 1 : Nat) : Int) := by rw [wr_id (by omega) (by omega)]; omega
    have fb := fun (Q : mV → mM → Prop) => x_byteAt (d := d) (Q := Q) (M := si M 16 3 i) (sz := sz) (i := i) hN (by rw [gi_ni (by decide)]; exact hs) h2
    have g : bt (gi (si M 16 3 i) 17) sz i = gi M 17 i := by unfold bt; rw [if_pos (by omega), gi_na (by decide)]
    rw [g] at fb
    rw [eX8_advance_8]
    simp only [↓eX8_advance_9, ↓eX8_advance_12, ↓eX8_advance_13, ↓eX8_advance_16, ↓eX8_advance_19, ↓eX8_advance_20, ↓eX8_advance_21, ↓eX8_advance_24, ↓eX8_advance_27, ↓eX8_advance_30, ↓eX8_advance_33, ↓eX8_advance_34, ↓eX8_advance_35, ↓eX8_advance_38, ↓eX8_advance_39, ↓eX8_advance_40, ↓eX8_advance_43, hk16 hN, hs, e, e2, ↓fb, ↓x_isBlank, Int.cast_ofNat_Int, kd_si, gr_si, ln_si, gi_same, gi_na, gi_ni, nl_i, nl_r, nl_j, nj_i, nj_l, nj_r, true_and, and_true, and_self, cs_0, cs_1, cs_2, cs_3, cs_4, ↓reduceIte, Nat.reduceLeDiff, Nat.reduceEqDiff, Nat.reduceAdd, Int.reduceLE, Int.reduceLT, Int.reduceEq, Int.reduceAdd, Int.reduceNeg, Int.reduceToNat, Int.toNat_natCast, ne_eq, not_false_eq_true, not_true_eq_false, or_true, true_or, or_false, false_or]
    rw [skp]
    by_cases q : isBk (gi M 17 i)
    · rw [if_pos q, if_pos q, si_si]
      exact ih (i + 1) (by omega)
    · rw [if_neg q, if_neg q]
theorem x_wd_loop {d : Nat} {M : mM} {Q : mV → mM → Prop} {sz : Nat} (h : SH M) (hs : gi M 16 0 = sz) (h2 : sz ≤ 2000) :
    ∀ r i : Nat, i + r = sz → WP (mc (d + 1)) tX8_scanWord 10 [vr (some 16)] [] (si M 16 4 i) Q = WP (mc (d + 1)) tX8_scanWord 48 [vr (some 16)] [] (si M 16 4 (wdE (gi M 17) r i : Nat)) Q := by
  intro r
  induction r with
  | zero =>
    intro i hi
    have hN : SH (si M 16 4 (i : Int)) := h
    have e : i = sz := by omega
    subst e
    rw [eX8_scanWord_10]
    simp only [↓eX8_scanWord_11, ↓eX8_scanWord_14, ↓eX8_scanWord_15, ↓eX8_scanWord_18, hk16 hN, hs, Int.le_refl, Int.cast_ofNat_Int, kd_si, gr_si, ln_si, gi_same, gi_na, gi_ni, nl_i, nl_r, nl_j, nj_i, nj_l, nj_r, true_and, and_true, and_self, cs_0, cs_1, cs_2, cs_3, cs_4, ↓reduceIte, Nat.reduceLeDiff, Nat.reduceEqDiff, Nat.reduceAdd, Int.reduceLE, Int.reduceLT, Int.reduceEq, Int.reduceAdd, Int.reduceNeg, Int.reduceToNat, Int.toNat_natCast, ne_eq, not_false_eq_true, not_true_eq_false, or_true, true_or, or_false, false_or]
    rfl
  | succ r ih =>
    intro i hi
    have hN : SH (si M 16 4 (i : Int)) := h
    have e : ((sz : Int) ≤ (i : Int)) = False := eq_false (by omega)
    have e2 : wr ((i : Int) + 1) = ((i + 1 : Nat) : Int) := by rw [wr_id (by omega) (by omega)]; omega
    have fb := fun (Q : mV → mM → Prop) => x_byteAt (d := d) (Q := Q) (M := si M 16 4 i) (sz := sz) (i := i) hN (by rw [gi_ni (by decide)]; exact hs) h2
    have g : bt (gi (si M 16 4 i) 17) sz i = gi M 17 i := by unfold bt; rw [if_pos (by omega), gi_na (by decide)]
    rw [g] at fb
    rw [eX8_scanWord_10]
    simp only [↓eX8_scanWord_11, ↓eX8_scanWord_14, ↓eX8_scanWord_15, ↓eX8_scanWord_18, ↓eX8_scanWord_21, ↓eX8_scanWord_22, ↓eX8_scanWord_23, ↓eX8_scanWord_26, ↓eX8_scanWord_29, ↓eX8_scanWord_32, ↓eX8_scanWord_35, ↓eX8_scanWord_36, ↓eX8_scanWord_37, ↓eX8_scanWord_40, ↓eX8_scanWord_41, ↓eX8_scanWord_42, ↓eX8_scanWord_45, hk16 hN, hs, e, e2, ↓fb, ↓x_isLetter, Int.cast_ofNat_Int, kd_si, gr_si, ln_si, gi_same, gi_na, gi_ni, nl_i, nl_r, nl_j, nj_i, nj_l, nj_r, true_and, and_true, and_self, cs_0, cs_1, cs_2, cs_3, cs_4, ↓reduceIte, Nat.reduceLeDiff, Nat.reduceEqDiff, Nat.reduceAdd, Int.reduceLE, Int.reduceLT, Int.reduceEq, Int.reduceAdd, Int.reduceNeg, Int.reduceToNat, Int.toNat_natCast, ne_eq, not_false_eq_true, not_true_eq_false, or_true, true_or, or_false, false_or]
    rw [wdE]
    by_cases q : isLt (gi M 17 i)
    · rw [if_pos q, if_pos q, si_si]
      exact ih (i + 1) (by omega)
    · rw [if_neg q, if_neg q]
theorem spl_eq {M : mM} {i n sz : Nat} {w : List Int} (h0 : gi M 16 0 = sz) (h3 : gi M 16 3 = i) (h4 : gi M 16 4 = (i + n : Nat)) (hn : i + n ≤ sz) (hl : ln M 17 = 2000) (h2 : sz ≤ 2000) : mSpl M 16 17 w = spl (gi M 17) i n w := by
  unfold mSpl spl
  rw [h3, h4]
  have e : (((i + n : Nat) : Int) - (i : Int) = (w.length : Int)) = (n = w.length) := propext ⟨fun z => by omega, fun z => by omega⟩
  by_cases q : n = w.length
  · rw [decide_eq_true (e ▸ q), decide_eq_true q, Bool.true_and, Bool.true_and]
    have key : ∀ j, j < w.length → mBt M 16 17 ((i : Int) + (j : Int)) = gi M 17 (i + j) := fun j hj => by
      unfold mBt
      rw [h0, hl, if_pos (by omega)]
      congr 1
    rw [Bool.eq_iff_iff, List.all_eq_true, List.all_eq_true]
    constructor
    · intro z j hj
      have := z j hj
      rw [key j (List.mem_range.mp hj)] at this
      exact this
    · intro z j hj
      have := z j hj
      rw [key j (List.mem_range.mp hj)]
      exact this
  · rw [decide_eq_false (fun z => q (e ▸ z)), decide_eq_false q, Bool.false_and, Bool.false_and]
theorem kow_eq {M : mM} {i n sz : Nat} (h0 : gi M 16 0 = sz) (h3 : gi M 16 3 = i) (h4 : gi M 16 4 = (i + n : Nat)) (hn : i + n ≤ sz) (hl : ln M 17 = 2000) (h2 : sz ≤ 2000) : mKow M 16 17 = kw (gi M 17) i n := by
  have := fun w => spl_eq (w := w) h0 h3 h4 hn hl h2
  unfold mKow kw
  simp only [this]
theorem x_kindOfWord {d : Nat} {M : mM} {Q : mV → mM → Prop} {i n sz : Nat} (h : SH M) (h0 : gi M 16 0 = sz) (h3 : gi M 16 3 = i) (h4 : gi M 16 4 = (i + n : Nat)) (hn : i + n ≤ sz) (h2 : sz ≤ 2000) : CP (mc (d + 1)) 73 [vr (some 16)] M Q = Q (vi (kw (gi M 17) i n)) M := by
  rw [cpX8_kindOfWord, E_kow (a := 16) (b := 17) rfl rfl (hk16 h) (hr16_5 h) (hk17 h) (by omega) (by omega) (by omega), kow_eq h0 h3 h4 hn (hl17 h) h2]
theorem x_scanWord {d : Nat} {M : mM} {Q : mV → mM → Prop} {sz i : Nat} (h : SH M) (hs : gi M 16 0 = sz) (h2 : sz ≤ 2000) (h3 : gi M 16 3 = i) (hi : i < sz) (hl : isLt (gi M 17 i)) :
    CP (mc (d + 2)) 64 [vr (some 16)] M Q = Q vj (si (si M 16 4 (tkE (gi M 17) sz i : Nat)) 16 1 (tkK (gi M 17) sz i)) := by
  have e2 : wr ((i : Int) + 1) = ((i + 1 : Nat) : Int) := by rw [wr_id (by omega) (by omega)]; omega
  simp only [↓cpX8_scanWord, ↓eX8_scanWord_0, ↓eX8_scanWord_1, ↓eX8_scanWord_2, ↓eX8_scanWord_5, ↓eX8_scanWord_6, ↓eX8_scanWord_7, hk16 h, h3, e2, Int.cast_ofNat_Int, kd_si, gr_si, ln_si, gi_same, gi_na, gi_ni, nl_i, nl_r, nl_j, nj_i, nj_l, nj_r, true_and, and_true, and_self, cs_0, cs_1, cs_2, cs_3, cs_4, ↓reduceIte, Nat.reduceLeDiff, Nat.reduceEqDiff, Nat.reduceAdd, Int.reduceLE, Int.reduceLT, Int.reduceEq, Int.reduceAdd, Int.reduceNeg, Int.reduceToNat, Int.toNat_natCast, ne_eq, not_false_eq_true, not_true_eq_false, or_true, true_or, or_false, false_or]
  rw [x_wd_loop h hs h2 (sz - (i + 1)) (i + 1) (by omega)]
  have hE : wdE (gi M 17) (sz - (i + 1)) (i + 1) = tkE (gi M 17) sz i := by unfold tkE; rw [if_pos hl]
  rw [hE]
  have hb := tkE_lt (B := gi M 17) hi
  have hK : tkK (gi M 17) sz i = if 8 < tkE (gi M 17) sz i - i then 0 else kw (gi M 17) i (tkE (gi M 17) sz i - i) := by rw [tkK, if_pos hl]
  rw [hK]
  generalize tkE (gi M 17) sz i = e at hb ⊢
  have hN : SH (si M 16 4 (e : Int)) := h
  have w1 : wr ((e : Int) - (i : Int)) = ((e - i : Nat) : Int) := by rw [wr_id (by omega) (by omega)]; omega
  by_cases q : 8 < e - i
  · have q1 : (((e - i : Nat) : Int) ≤ 8) = False := eq_false (by omega)
    rw [if_pos q]
    simp only [↓eX8_scanWord_48, ↓eX8_scanWord_49, ↓eX8_scanWord_50, ↓eX8_scanWord_53, ↓eX8_scanWord_54, ↓eX8_scanWord_57, ↓eX8_scanWord_58, ↓eX8_scanWord_60, ↓eX8_scanWord_63, ↓eX8_scanWord_64, ↓eX8_scanWord_67, ↓eX8_scanWord_68, ↓eX8_scanWord_71, ↓eX8_scanWord_74, hk16 hN, h3, w1, q1, Int.cast_ofNat_Int, kd_si, gr_si, ln_si, gi_same, gi_na, gi_ni, nl_i, nl_r, nl_j, nj_i, nj_l, nj_r, true_and, and_true, and_self, cs_0, cs_1, cs_2, cs_3, cs_4, ↓reduceIte, Nat.reduceLeDiff, Nat.reduceEqDiff, Nat.reduceAdd, Int.reduceLE, Int.reduceLT, Int.reduceEq, Int.reduceAdd, Int.reduceNeg, Int.reduceToNat, Int.toNat_natCast, ne_eq, not_false_eq_true, not_true_eq_false, or_true, true_or, or_false, false_or]
  · have q1 : (((e - i : Nat) : Int) ≤ 8) = True := eq_true (by omega)
    have fk := fun (Q : mV → mM → Prop) => x_kindOfWord (d := d) (Q := Q) (M := si M 16 4 e) (i := i) (n := e - i) (sz := sz) hN (by rw [gi_ni (by decide)]; exact hs) (by rw [gi_ni (by decide)]; exact h3) (by rw [gi_same]; omega) (by omega) h2
    have g : gi (si M 16 4 (e : Int)) 17 = gi M 17 := by funext j; rw [gi_na (by decide)]
    rw [g] at fk
    rw [if_neg q]
    simp only [↓eX8_scanWord_48, ↓eX8_scanWord_49, ↓eX8_scanWord_50, ↓eX8_scanWord_53, ↓eX8_scanWord_54, ↓eX8_scanWord_57, ↓eX8_scanWord_58, ↓eX8_scanWord_60, ↓eX8_scanWord_63, ↓eX8_scanWord_64, ↓eX8_scanWord_67, ↓eX8_scanWord_68, ↓eX8_scanWord_71, ↓eX8_scanWord_74, hk16 hN, h3, w1, q1, ↓fk, Int.cast_ofNat_Int, kd_si, gr_si, ln_si, gi_same, gi_na, gi_ni, nl_i, nl_r, nl_j, nj_i, nj_l, nj_r, true_and, and_true, and_self, cs_0, cs_1, cs_2, cs_3, cs_4, ↓reduceIte, Nat.reduceLeDiff, Nat.reduceEqDiff, Nat.reduceAdd, Int.reduceLE, Int.reduceLT, Int.reduceEq, Int.reduceAdd, Int.reduceNeg, Int.reduceToNat, Int.toNat_natCast, ne_eq, not_false_eq_true, not_true_eq_false, or_true, true_or, or_false, false_or]
theorem x_dg_loop {d : Nat} {M : mM} {Q : mV → mM → Prop} {sz b : Nat} (h : SH M) (hs : gi M 16 0 = sz) (h2 : sz ≤ 2000) (hQ : ∀ v : Int, (dgE (gi M 17) (sz - b) b - b ≤ 4 → v = nv (gi M 17) b (dgE (gi M 17) (sz - b) b - b)) → WP (mc (d + 1)) tX8_scanInt 74 [vr (some 16)] [] (si (si M 16 2 v) 16 4 (dgE (gi M 17) (sz - b) b : Nat)) Q) :
    ∀ (r i : Nat) (v : Int), i + r = sz → b ≤ i → dgE (gi M 17) r i = dgE (gi M 17) (sz - b) b → (i - b ≤ 4 → v = nv (gi M 17) b (i - b) ∧ 0 ≤ v ∧ v < (10 ^ (i - b) : Nat)) → WP (mc (d + 1)) tX8_scanInt 13 [vr (some 16)] [] (si (si M 16 2 v) 16 4 i) Q := by
  intro r
  induction r with
  | zero =>
    intro i v hi hb he hv
    have hN : SH (si (si M 16 2 v) 16 4 (i : Int)) := h
    have e : i = sz := by omega
    subst e
    rw [dgE] at he
    rw [eX8_scanInt_13]
    simp only [↓eX8_scanInt_14, ↓eX8_scanInt_17, ↓eX8_scanInt_18, ↓eX8_scanInt_21, hk16 hN, hs, Int.le_refl, Int.cast_ofNat_Int, kd_si, gr_si, ln_si, gi_same, gi_na, gi_ni, nl_i, nl_r, nl_j, nj_i, nj_l, nj_r, true_and, and_true, and_self, cs_0, cs_1, cs_2, cs_3, cs_4, ↓reduceIte, Nat.reduceLeDiff, Nat.reduceEqDiff, Nat.reduceAdd, Int.reduceLE, Int.reduceLT, Int.reduceEq, Int.reduceAdd, Int.reduceNeg, Int.reduceToNat, Int.toNat_natCast, ne_eq, not_false_eq_true, not_true_eq_false, or_true, true_or, or_false, false_or]
    have := hQ v (by rw [← he]; exact fun z => (hv z).1)
    rw [← he] at this
    exact this
  | succ r ih =>
    intro i v hi hb he hv
    have hN : SH (si (si M 16 2 v) 16 4 (i : Int)) := h
    have e : ((sz : Int) ≤ (i : Int)) = False := eq_false (by omega)
    have e2 : wr ((i : Int) + 1) = ((i + 1 : Nat) : Int) := by rw [wr_id (by omega) (by omega)]; omega
    have fb := fun (Q : mV → mM → Prop) => x_byteAt (d := d) (Q := Q) (M := si (si M 16 2 v) 16 4 i) (sz := sz) (i := i) hN (by rw [gi_ni (by decide), gi_ni (by decide)]; exact hs) h2
    have g : bt (gi (si (si M 16 2 v) 16 4 i) 17) sz i = gi M 17 i := by unfold bt; rw [if_pos (by omega), gi_na (by decide), gi_na (by decide)]
    rw [g] at fb
    rw [eX8_scanInt_13]
    simp only [↓eX8_scanInt_14, ↓eX8_scanInt_17, ↓eX8_scanInt_18, ↓eX8_scanInt_21, ↓eX8_scanInt_24, ↓eX8_scanInt_25, ↓eX8_scanInt_26, ↓eX8_scanInt_29, ↓eX8_scanInt_32, ↓eX8_scanInt_35, ↓eX8_scanInt_38, ↓eX8_scanInt_39, ↓eX8_scanInt_40, ↓eX8_scanInt_43, ↓eX8_scanInt_45, ↓eX8_scanInt_46, ↓eX8_scanInt_47, ↓eX8_scanInt_48, ↓eX8_scanInt_51, ↓eX8_scanInt_54, ↓eX8_scanInt_55, ↓eX8_scanInt_57, ↓eX8_scanInt_58, ↓eX8_scanInt_61, ↓eX8_scanInt_62, ↓eX8_scanInt_63, ↓eX8_scanInt_66, ↓eX8_scanInt_67, ↓eX8_scanInt_68, ↓eX8_scanInt_71, hk16 hN, hs, e, e2, ↓fb, ↓x_isDigit, Int.cast_ofNat_Int, kd_si, gr_si, ln_si, gi_same, gi_na, gi_ni, nl_i, nl_r, nl_j, nj_i, nj_l, nj_r, true_and, and_true, and_self, cs_0, cs_1, cs_2, cs_3, cs_4, ↓reduceIte, Nat.reduceLeDiff, Nat.reduceEqDiff, Nat.reduceAdd, Int.reduceLE, Int.reduceLT, Int.reduceEq, Int.reduceAdd, Int.reduceNeg, Int.reduceToNat, Int.toNat_natCast, ne_eq, not_false_eq_true, not_true_eq_false, or_true, true_or, or_false, false_or]
    rw [dgE] at he
    by_cases q : isDg (gi M 17 i)
    · rw [if_pos q] at he
      rw [if_pos q]
      obtain ⟨v', hv'⟩ : ∃ v', v' = wr (wr (wr (v * 10) + gi M 17 i) - 48) := ⟨_, rfl⟩
      rw [← hv']
      have em : si (si (si (si M 16 2 v) 16 4 (i : Int)) 16 2 v') 16 4 ((i + 1 : Nat) : Int) = si (si M 16 2 v') 16 4 ((i + 1 : Nat) : Int) := by
        refine Prod.ext ?_ rfl
        funext a j
        show gi (si (si (si (si M 16 2 v) 16 4 (i : Int)) 16 2 v') 16 4 ((i + 1 : Nat) : Int)) a j = gi (si (si M 16 2 v') 16 4 ((i + 1 : Nat) : Int)) a j
        simp only [gi_si]
        by_cases z4 : a = 16 ∧ j = 4
        · simp only [if_pos z4]
        · by_cases z2 : a = 16 ∧ j = 2
          · simp only [if_neg z4, if_pos z2]
          · simp only [if_neg z4, if_neg z2]
      rw [em]
      refine ih (i + 1) v' (by omega) (by omega) he (fun z => ?_)
      obtain ⟨a1, a2, a3⟩ := hv (by omega)
      have c9 : v < 1000 := by
        have : (10 ^ (i - b) : Nat) ≤ 10 ^ 3 := Nat.pow_le_pow_right (by decide) (by omega)
        omega
      have p10 : (10 ^ (i + 1 - b) : Nat) = 10 ^ (i - b) * 10 := by rw [show i + 1 - b = (i - b) + 1 by omega, Nat.pow_succ]
      have q' : 48 ≤ gi M 17 i ∧ gi M 17 i ≤ 57 := q
      have ev : v' = 10 * v + gi M 17 i - 48 := by
        rw [hv', wr_id (z := v * 10) (by omega) (by omega), wr_id (z := v * 10 + gi M 17 i) (by omega) (by omega), wr_id (by omega) (by omega)]
        omega
      refine ⟨?_, by omega, by omega⟩
      rw [show i + 1 - b = (i - b) + 1 by omega, nv, ← a1, show b + (i - b) = i by omega]
      exact ev
    · rw [if_neg q] at he
      rw [if_neg q]
      have := hQ v (by rw [← he]; exact fun z => (hv z).1)
      rw [← he] at this
      exact this
