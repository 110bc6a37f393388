/-! ===== the reference cuts a text ===== -/
def b8 (x : Int) : Int := if x < 0 then x + 256 else x
set_option maxRecDepth 100000 in
theorem and255_ : ∀ n : Fin 256, (Int32.ofInt ((n.val : Int) - 128) &&& Int32.ofInt 255).toInt = b8 ((n.val : Int) - 128) := by decide +kernel
theorem and255 {x : Int} (h1 : -128 ≤ x) (h2 : x ≤ 127) : (Int32.ofInt x &&& Int32.ofInt 255).toInt = b8 x := by
  have := and255_ ⟨(x + 128).toNat, by omega⟩
  have e : (((x + 128).toNat : Nat) : Int) - 128 = x := by omega
  simp only [e] at this
  exact this
abbrev B8 (B : Nat → Int) (sz : Nat) : Prop := ∀ i, i < sz → -128 ≤ B i ∧ B i ≤ 127
abbrev TX (B : Nat → Int) (sz : Nat) (N : mM) : Prop := gi N 35 4 = sz ∧ ∀ i, i < sz → gi N 37 i = B i
theorem y_at {d : Nat} {N : mM} {Q : mV → mM → Prop} {B : Nat → Int} {sz i : Nat} (h : SH N) (hx : TX B sz N) (hb : B8 B sz) (h2 : sz ≤ 2000) : CP (mc (d + 1)) 126 [vr (some 35), vi i] N Q = Q (vi (b8 (bt B sz i))) N := by
  obtain ⟨hs, hx⟩ := hx
  unfold bt
  by_cases q : i < sz
  · have e1 : ((sz : Int) ≤ (i : Int)) = False := eq_false (by omega)
    have e3 : (0 ≤ (i : Int)) = True := eq_true (by omega)
    have e4 : ((i : Int) < 2000) = True := eq_true (by omega)
    have g := hx i q
    rw [if_pos q]
    simp only [↓cpX12_at, ↓eX12_at_0, ↓eX12_at_1, ↓eX12_at_2, ↓eX12_at_5, ↓eX12_at_8, ↓eX12_at_9, ↓eX12_at_12, ↓eX12_at_13, ↓eX12_at_14, ↓eX12_at_17, ↓eX12_at_18, ↓eX12_at_21, ↓eX12_at_22, hk35 h, hr35_3 h, hk37 h, hl37 h, hs, e1, e3, e4, g, and255 (hb i q).1 (hb i q).2, Int.cast_ofNat_Int, kd_si, gr_si, ln_si, gi_same, gi_na, gi_ni, nl_i, nl_r, nl_j, nj_i, nj_l, nj_r, true_and, and_true, and_self, cs_0, cs_1, cs_2, cs_3, cs_4, ↓reduceIte, Nat.reduceLeDiff, Nat.reduceEqDiff, Nat.reduceAdd, Int.reduceLE, Int.reduceLT, Int.reduceEq, Int.reduceAdd, Int.reduceNeg, Int.reduceToNat, Int.toNat_natCast, ne_eq, not_false_eq_true, not_true_eq_false, or_true, true_or, or_false, false_or]
  · have e1 : ((sz : Int) ≤ (i : Int)) = True := eq_true (by omega)
    rw [if_neg q]
    simp only [↓cpX12_at, ↓eX12_at_0, ↓eX12_at_1, ↓eX12_at_2, ↓eX12_at_5, ↓eX12_at_8, ↓eX12_at_9, ↓eX12_at_12, ↓eX12_at_13, ↓eX12_at_14, ↓eX12_at_17, ↓eX12_at_18, ↓eX12_at_21, ↓eX12_at_22, hk35 h, hs, e1, Int.cast_ofNat_Int, kd_si, gr_si, ln_si, gi_same, gi_na, gi_ni, nl_i, nl_r, nl_j, nj_i, nj_l, nj_r, true_and, and_true, and_self, cs_0, cs_1, cs_2, cs_3, cs_4, ↓reduceIte, Nat.reduceLeDiff, Nat.reduceEqDiff, Nat.reduceAdd, Int.reduceLE, Int.reduceLT, Int.reduceEq, Int.reduceAdd, Int.reduceNeg, Int.reduceToNat, Int.toNat_natCast, ne_eq, not_false_eq_true, not_true_eq_false, or_true, true_or, or_false, false_or]
    rfl
theorem bt_r {B : Nat → Int} {sz : Nat} (hb : B8 B sz) (i : Nat) : -128 ≤ bt B sz i ∧ bt B sz i ≤ 127 := by
  unfold bt
  split
  · exact hb i (by omega)
  · omega
theorem b8_v {x : Int} (h1 : -128 ≤ x) (h2 : x ≤ 127) {c : Int} (h3 : 0 ≤ c) (h4 : c ≤ 127) : (b8 x = c) = (x = c) := by
  unfold b8
  refine propext ?_
  split <;> constructor <;> intro <;> omega
theorem b8_lt {x : Int} (h1 : -128 ≤ x) (h2 : x ≤ 127) : isLt (b8 x) = isLt x := by
  unfold b8 isLt
  refine propext ?_
  split <;> constructor <;> intro <;> omega
theorem b8_dg {x : Int} (h1 : -128 ≤ x) (h2 : x ≤ 127) : isDg (b8 x) = isDg x := by
  unfold b8 isDg
  refine propext ?_
  split <;> constructor <;> intro <;> omega
theorem y_isLetter {d : Nat} {M : mM} {Q : mV → mM → Prop} {c : Int} : CP (mc (d + 1)) 128 [vi c] M Q = if isLt c then Q (vi 1) M else Q (vi 0) M := by
  simp only [↓cpX12_isLetter, ↓eX12_isLetter_0, ↓eX12_isLetter_1, ↓eX12_isLetter_3, ↓eX12_isLetter_6, ↓eX12_isLetter_7, ↓eX12_isLetter_9, ↓eX12_isLetter_12, ↓eX12_isLetter_13, ↓eX12_isLetter_16, ↓eX12_isLetter_17, Int.cast_ofNat_Int, kd_si, gr_si, ln_si, gi_same, gi_na, gi_ni, nl_i, nl_r, nl_j, nj_i, nj_l, nj_r, true_and, and_true, and_self, cs_0, cs_1, cs_2, cs_3, cs_4, ↓reduceIte, Nat.reduceLeDiff, Nat.reduceEqDiff, Nat.reduceAdd, Int.reduceLE, Int.reduceLT, Int.reduceEq, Int.reduceAdd, Int.reduceNeg, Int.reduceToNat, Int.toNat_natCast, ne_eq, not_false_eq_true, not_true_eq_false, or_true, true_or, or_false, false_or]
  unfold isLt
  (repeat' split) <;> first | rfl | (exfalso; omega)
theorem y_isDigit {d : Nat} {M : mM} {Q : mV → mM → Prop} {c : Int} : CP (mc (d + 1)) 127 [vi c] M Q = if isDg c then Q (vi 1) M else Q (vi 0) M := by
  simp only [↓cpX12_isDigit, ↓eX12_isDigit_0, ↓eX12_isDigit_1, ↓eX12_isDigit_3, ↓eX12_isDigit_6, ↓eX12_isDigit_7, ↓eX12_isDigit_9, ↓eX12_isDigit_12, ↓eX12_isDigit_13, ↓eX12_isDigit_16, ↓eX12_isDigit_17, Int.cast_ofNat_Int, kd_si, gr_si, ln_si, gi_same, gi_na, gi_ni, nl_i, nl_r, nl_j, nj_i, nj_l, nj_r, true_and, and_true, and_self, cs_0, cs_1, cs_2, cs_3, cs_4, ↓reduceIte, Nat.reduceLeDiff, Nat.reduceEqDiff, Nat.reduceAdd, Int.reduceLE, Int.reduceLT, Int.reduceEq, Int.reduceAdd, Int.reduceNeg, Int.reduceToNat, Int.toNat_natCast, ne_eq, not_false_eq_true, not_true_eq_false, or_true, true_or, or_false, false_or]
  unfold isDg
  (repeat' split) <;> first | rfl | (exfalso; omega)
def tokM (N : mM) (m : Nat) (k p v nm : Int) : mM := si (si (si (si (si N 38 m k) 39 m p) 40 m v) 41 m nm) 35 10 (m + 1 : Nat)
theorem y_token {d : Nat} {N : mM} {Q : mV → mM → Prop} {m : Nat} {k p v nm : Int} (h : SH N) (hm : gi N 35 10 = m) (h4 : m ≤ 401) : CP (mc (d + 1)) 131 [vr (some 35), vi k, vi p, vi v, vl nm] N Q = Q vj (tokM N m k p v nm) := by
  have e3 : (0 ≤ (m : Int)) = True := eq_true (by omega)
  have e4 : ((m : Int) < 403) = True := eq_true (by omega)
  have e2 : wr ((m : Int) + 1) = ((m + 1 : Nat) : Int) := by rw [wr_id (by omega) (by omega)]; omega
  simp only [↓cpX12_token, ↓eX12_token_0, ↓eX12_token_1, ↓eX12_token_4, ↓eX12_token_5, ↓eX12_token_8, ↓eX12_token_9, ↓eX12_token_10, ↓eX12_token_11, ↓eX12_token_14, ↓eX12_token_15, ↓eX12_token_18, ↓eX12_token_19, ↓eX12_token_20, ↓eX12_token_21, ↓eX12_token_24, ↓eX12_token_25, ↓eX12_token_28, ↓eX12_token_29, ↓eX12_token_30, ↓eX12_token_31, ↓eX12_token_34, ↓eX12_token_35, ↓eX12_token_38, ↓eX12_token_40, ↓eX12_token_41, ↓eX12_token_42, ↓eX12_token_43, ↓eX12_token_46, ↓eX12_token_47, ↓eX12_token_48, ↓eX12_token_51, hk35 h, hr35_5 h, hr35_6 h, hr35_7 h, hr35_8 h, hk38 h, hl38 h, hk39 h, hl39 h, hk40 h, hl40 h, hk41 h, hl41 h, hm, e2, e3, e4, Int.cast_ofNat_Int, kd_si, gr_si, ln_si, gi_same, gi_na, gi_ni, nl_i, nl_r, nl_j, nj_i, nj_l, nj_r, true_and, and_true, and_self, cs_0, cs_1, cs_2, cs_3, cs_4, ↓reduceIte, Nat.reduceLeDiff, Nat.reduceEqDiff, Nat.reduceAdd, Int.reduceLE, Int.reduceLT, Int.reduceEq, Int.reduceAdd, Int.reduceNeg, Int.reduceToNat, Int.toNat_natCast, ne_eq, not_false_eq_true, not_true_eq_false, or_true, true_or, or_false, false_or]
  rfl
/-! names as numbers -/
def nm (B : Nat → Int) (i : Nat) : Nat → Int
  | 0 => 0
  | n + 1 => 27 * nm B i n + (B (i + n) - 96)
theorem nmr {B : Nat → Int} {i : Nat} : ∀ n, (∀ j, j < n → isLt (B (i + j))) → 0 ≤ nm B i n ∧ nm B i n < (27 ^ n : Nat) := by
  intro n
  induction n with
  | zero => intro _; exact ⟨Int.le_refl 0, (by decide : (0 : Int) < ((1 : Nat) : Int))⟩
  | succ n ih =>
    intro h
    obtain ⟨a, b⟩ := ih (fun j hj => h j (by omega))
    have c : 97 ≤ B (i + n) ∧ B (i + n) ≤ 122 := h n (Nat.lt_succ_self n)
    rw [nm]
    have p : (27 ^ (n + 1) : Nat) = 27 ^ n * 27 := Nat.pow_succ _ _
    constructor
    · omega
    · omega
theorem nm_inj {B B' : Nat → Int} {i i' : Nat} : ∀ n n', (∀ j, j < n → isLt (B (i + j))) → (∀ j, j < n' → isLt (B' (i' + j))) → nm B i n = nm B' i' n' → n = n' ∧ ∀ j, j < n → B (i + j) = B' (i' + j) := by
  intro n
  induction n with
  | zero =>
    intro n' h h' e
    cases n' with
    | zero => exact ⟨rfl, fun j hj => absurd hj (Nat.not_lt_zero j)⟩
    | succ n' =>
      have := (nmr n' (fun j hj => h' j (by omega))).1
      have c : 97 ≤ B' (i' + n') ∧ B' (i' + n') ≤ 122 := h' n' (Nat.lt_succ_self n')
      rw [nm, nm] at e
      omega
  | succ n ih =>
    intro n' h h' e
    have c : 97 ≤ B (i + n) ∧ B (i + n) ≤ 122 := h n (Nat.lt_succ_self n)
    have a1 := (nmr n (fun j hj => h j (by omega))).1
    cases n' with
    | zero =>
      rw [nm, nm] at e
      omega
    | succ n' =>
      have c' : 97 ≤ B' (i' + n') ∧ B' (i' + n') ≤ 122 := h' n' (Nat.lt_succ_self n')
      have a2 := (nmr n' (fun j hj => h' j (by omega))).1
      rw [nm, nm] at e
      obtain ⟨u, v⟩ := ih n' (fun j hj => h j (by omega)) (fun j hj => h' j (by omega)) (by omega)
      subst u
      refine ⟨rfl, fun j hj => ?_⟩
      by_cases z : j = n
      · subst z; omega
      · exact v j (by omega)
theorem spl_nm {B : Nat → Int} {i n : Nat} {w : List Int} (h : ∀ j, j < n → isLt (B (i + j))) (hw : ∀ j, j < w.length → isLt (w.getD j 0)) : (spl B i n w = true) = (nm B i n = nm (fun j => w.getD j 0) 0 w.length) := by
  refine propext ?_
  unfold spl
  rw [Bool.and_eq_true, decide_eq_true_iff, List.all_eq_true]
  constructor
  · rintro ⟨e, q⟩
    subst e
    have key : ∀ m, m ≤ w.length → nm B i m = nm (fun j => w.getD j 0) 0 m := by
      intro m
      induction m with
      | zero => intro _; rfl
      | succ m ih =>
        intro hm
        rw [nm, nm, ih (by omega)]
        have := q m (List.mem_range.mpr (by omega))
        rw [decide_eq_true_iff] at this
        rw [this, Nat.zero_add]
    exact key _ (Nat.le_refl _)
  · intro e
    obtain ⟨a, b⟩ := nm_inj n w.length h (fun j hj => by rw [Nat.zero_add]; exact hw j hj) e
    refine ⟨a, fun j hj => ?_⟩
    rw [decide_eq_true_iff, b j (by rw [a]; exact List.mem_range.mp hj), Nat.zero_add]
def keyL : List Int := [459791, 249, 7554780, 423, 1111, 243356, 3379448, 10820876, 2171852951, 1277870079, 131638, 11450658, 175125302, 10998956]
def KY (N : mM) : Prop := ∀ k, k < 14 → gi N 42 k = keyL.getD k 0
def kfl (x : Int) : Nat → Nat → Int → Int
  | 0, _, kk => kk
  | r + 1, k, kk => kfl x r (k + 1) (if keyL.getD k 0 = x then 20 + (k : Int) else kk)
/-- the kinds of the class and of the reference -/
def kmL : List Int := [0, 2, 27, 28, 29, 30, 31, 32, 33, 25, 26, 23, 24, 11, 12, 13, 14, 8, 9, 10, 6, 7, 4, 20, 22, 21]
def KR (k m : Int) : Prop := (k = 0 ∧ (m = 1 ∨ m = 3)) ∨ (1 ≤ k ∧ k ≤ 25 ∧ m = kmL.getD k.toNat 0)
theorem kw_kfl {B : Nat → Int} {i n : Nat} (h : ∀ j, j < n → isLt (B (i + j))) : KR (kw B i n) (kfl (nm B i n) 14 0 1) := by
  have s1 : (spl B i n [119, 105, 115, 104] = true) = (nm B i n = 459791) := (spl_nm (w := [119, 105, 115, 104]) h (by decide)).trans (by rw [show nm (fun j => ([119, 105, 115, 104] : List Int).getD j 0) 0 ([119, 105, 115, 104] : List Int).length = 459791 by decide])
  have s2 : (spl B i n [110, 101, 118, 101, 114] = true) = (nm B i n = 7554780) := (spl_nm (w := [110, 101, 118, 101, 114]) h (by decide)).trans (by rw [show nm (fun j => ([110, 101, 118, 101, 114] : List Int).getD j 0) 0 ([110, 101, 118, 101, 114] : List Int).length = 7554780 by decide])
  have s3 : (spl B i n [105, 102] = true) = (nm B i n = 249) := (spl_nm (w := [105, 102]) h (by decide)).trans (by rw [show nm (fun j => ([105, 102] : List Int).getD j 0) 0 ([105, 102] : List Int).length = 249 by decide])
  have s4 : (spl B i n [111, 114] = true) = (nm B i n = 423) := (spl_nm (w := [111, 114]) h (by decide)).trans (by rw [show nm (fun j => ([111, 114] : List Int).getD j 0) 0 ([111, 114] : List Int).length = 423 by decide])
  have s5 : (spl B i n [97, 110, 100] = true) = (nm B i n = 1111) := (spl_nm (w := [97, 110, 100]) h (by decide)).trans (by rw [show nm (fun j => ([97, 110, 100] : List Int).getD j 0) 0 ([97, 110, 100] : List Int).length = 1111 by decide])
  have s6 : (spl B i n [108, 105, 118, 101] = true) = (nm B i n = 243356) := (spl_nm (w := [108, 105, 118, 101]) h (by decide)).trans (by rw [show nm (fun j => ([108, 105, 118, 101] : List Int).getD j 0) 0 ([108, 105, 118, 101] : List Int).length = 243356 by decide])
  have s7 : (spl B i n [102, 105, 114, 115, 116] = true) = (nm B i n = 3379448) := (spl_nm (w := [102, 105, 114, 115, 116]) h (by decide)).trans (by rw [show nm (fun j => ([102, 105, 114, 115, 116] : List Int).getD j 0) 0 ([102, 105, 114, 115, 116] : List Int).length = 3379448 by decide])
  have s8 : (spl B i n [116, 105, 116, 108, 101] = true) = (nm B i n = 10820876) := (spl_nm (w := [116, 105, 116, 108, 101]) h (by decide)).trans (by rw [show nm (fun j => ([116, 105, 116, 108, 101] : List Int).getD j 0) 0 ([116, 105, 116, 108, 101] : List Int).length = 10820876 by decide])
  have s9 : (spl B i n [101, 112, 105, 115, 111, 100, 101] = true) = (nm B i n = 2171852951) := (spl_nm (w := [101, 112, 105, 115, 111, 100, 101]) h (by decide)).trans (by rw [show nm (fun j => ([101, 112, 105, 115, 111, 100, 101] : List Int).getD j 0) 0 ([101, 112, 105, 115, 111, 100, 101] : List Int).length = 2171852951 by decide])
  have s10 : (spl B i n [99, 104, 97, 110, 110, 101, 108] = true) = (nm B i n = 1277870079) := (spl_nm (w := [99, 104, 97, 110, 110, 101, 108]) h (by decide)).trans (by rw [show nm (fun j => ([99, 104, 97, 110, 110, 101, 108] : List Int).getD j 0) 0 ([99, 104, 97, 110, 110, 101, 108] : List Int).length = 1277870079 by decide])
  have s11 : (spl B i n [102, 114, 111, 109] = true) = (nm B i n = 131638) := (spl_nm (w := [102, 114, 111, 109]) h (by decide)).trans (by rw [show nm (fun j => ([102, 114, 111, 109] : List Int).getD j 0) 0 ([102, 114, 111, 109] : List Int).length = 131638 by decide])
  have s12 : (spl B i n [117, 110, 116, 105, 108] = true) = (nm B i n = 11450658) := (spl_nm (w := [117, 110, 116, 105, 108]) h (by decide)).trans (by rw [show nm (fun j => ([117, 110, 116, 105, 108] : List Int).getD j 0) 0 ([117, 110, 116, 105, 108] : List Int).length = 11450658 by decide])
  have s13 : (spl B i n [108, 101, 110, 103, 116, 104] = true) = (nm B i n = 175125302) := (spl_nm (w := [108, 101, 110, 103, 116, 104]) h (by decide)).trans (by rw [show nm (fun j => ([108, 101, 110, 103, 116, 104] : List Int).getD j 0) 0 ([108, 101, 110, 103, 116, 104] : List Int).length = 175125302 by decide])
  have s14 : (spl B i n [116, 114, 117, 115, 116] = true) = (nm B i n = 10998956) := (spl_nm (w := [116, 114, 117, 115, 116]) h (by decide)).trans (by rw [show nm (fun j => ([116, 114, 117, 115, 116] : List Int).getD j 0) 0 ([116, 114, 117, 115, 116] : List Int).length = 10998956 by decide])
  unfold kw
  simp only [s1, s2, s3, s4, s5, s6, s7, s8, s9, s10, s11, s12, s13, s14]
  generalize nm B i n = x
  by_cases q1 : x = 459791
  · subst q1; exact Or.inr (by decide)
  by_cases q2 : x = 7554780
  · subst q2; exact Or.inr (by decide)
  by_cases q3 : x = 249
  · subst q3; exact Or.inr (by decide)
  by_cases q4 : x = 423
  · subst q4; exact Or.inr (by decide)
  by_cases q5 : x = 1111
  · subst q5; exact Or.inr (by decide)
  by_cases q6 : x = 243356
  · subst q6; exact Or.inr (by decide)
  by_cases q7 : x = 3379448
  · subst q7; exact Or.inr (by decide)
  by_cases q8 : x = 10820876
  · subst q8; exact Or.inr (by decide)
  by_cases q9 : x = 2171852951
  · subst q9; exact Or.inr (by decide)
  by_cases q10 : x = 1277870079
  · subst q10; exact Or.inr (by decide)
  by_cases q11 : x = 131638
  · subst q11; exact Or.inr (by decide)
  by_cases q12 : x = 11450658
  · subst q12; exact Or.inr (by decide)
  by_cases q13 : x = 175125302
  · subst q13; exact Or.inr (by decide)
  by_cases q14 : x = 10998956
  · subst q14; exact Or.inr (by decide)
  rw [if_neg q1, if_neg q2, if_neg q3, if_neg q4, if_neg q5, if_neg q6, if_neg q7, if_neg q8, if_neg q9, if_neg q10, if_neg q11, if_neg q12, if_neg q13, if_neg q14]
  have : kfl x 14 0 1 = 1 := by
    have f : ∀ k, k < 14 → keyL.getD k 0 ≠ x := by
      intro k hk e
      rcases (show k = 0 ∨ k = 1 ∨ k = 2 ∨ k = 3 ∨ k = 4 ∨ k = 5 ∨ k = 6 ∨ k = 7 ∨ k = 8 ∨ k = 9 ∨ k = 10 ∨ k = 11 ∨ k = 12 ∨ k = 13 by omega) with rfl | rfl | rfl | rfl | rfl | rfl | rfl | rfl | rfl | rfl | rfl | rfl | rfl | rfl
      · exact q1 e.symm
      · exact q3 e.symm
      · exact q2 e.symm
      · exact q4 e.symm
      · exact q5 e.symm
      · exact q6 e.symm
      · exact q7 e.symm
      · exact q8 e.symm
      · exact q9 e.symm
      · exact q10 e.symm
      · exact q11 e.symm
      · exact q12 e.symm
      · exact q13 e.symm
      · exact q14 e.symm
    have g : ∀ r k, k + r ≤ 14 → kfl x r k 1 = 1 := by
      intro r
      induction r with
      | zero => intro k _; rfl
      | succ r ih =>
        intro k hk
        rw [kfl, if_neg (f k (by omega))]
        exact ih (k + 1) (by omega)
    exact g 14 0 (by decide)
  rw [this]
  exact Or.inl ⟨rfl, Or.inl rfl⟩
theorem kw_8 {B : Nat → Int} {i : Nat} : kw B i 8 = 0 := by
  unfold kw spl
  rfl
