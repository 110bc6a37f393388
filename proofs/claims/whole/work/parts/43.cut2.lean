/-! ===== words, numbers and signs of the reference ===== -/
theorem y_more {d : Nat} {M : mM} {Q : mV → mM → Prop} {x c : Int} (h0 : 0 ≤ x) (h1 : x < 10460353203) (hc : isLt c) : CP (mc (d + 1)) 129 [vl x, vi c] M Q = Q (vl (27 * x + (c - 96))) M := by
  have hc' : 97 ≤ c ∧ c ≤ 122 := hc
  have e0 : (c = 0) = False := eq_false (by omega)
  have w1 : wl (27 * x) = 27 * x := wl_id (by omega) (by omega)
  have w2 : wr (c - 97) = c - 97 := wr_id (by omega) (by omega)
  have w3 : wr (c - 97 + 1) = c - 96 := by rw [wr_id (by omega) (by omega)]; omega
  have w4 : wl (27 * x + (c - 96)) = 27 * x + (c - 96) := wl_id (by omega) (by omega)
  simp only [↓cpX12_more, ↓eX12_more_0, ↓eX12_more_1, ↓eX12_more_4, ↓eX12_more_5, ↓eX12_more_8, ↓eX12_more_11, ↓eX12_more_12, ↓eX12_more_13, ↓eX12_more_14, ↓eX12_more_16, ↓eX12_more_17, ↓eX12_more_18, ↓eX12_more_19, ↓eX12_more_20, ↓eX12_more_21, e0, w1, w2, w3, w4, Int.cast_ofNat_Int, kd_si, gr_si, ln_si, gi_same, gi_na, gi_ni, nl_i, nl_r, nl_j, nj_i, nj_l, nj_r, true_and, and_true, and_self, cs_0, cs_1, cs_2, cs_3, cs_4, ↓reduceIte, Nat.reduceLeDiff, Nat.reduceEqDiff, Nat.reduceAdd, Int.reduceLE, Int.reduceLT, Int.reduceEq, Int.reduceAdd, Int.reduceNeg, Int.reduceToNat, Int.toNat_natCast, ne_eq, not_false_eq_true, not_true_eq_false, or_true, true_or, or_false, false_or]
theorem y_wd {d : Nat} {N : mM} {Q : mV → mM → Prop} {B : Nat → Int} {sz i : Nat} {c : Int} {a6 a7 : mV} (h : SH N) (hx : TX B sz N) (hb : B8 B sz) (h2 : sz ≤ 2000) :
    ∀ r n : Nat, i + n + r = sz → (∀ j, j < n → isLt (B (i + j))) → WP (mc (d + 1)) tX12_cut 85 [vr (some 35), vi i, vi c, vi n, vl (nm B i (min n 8)), vj, a6, a7] [] N Q = WP (mc (d + 1)) tX12_cut 124 [vr (some 35), vi i, vi c, vi (wdE B r (i + n) - i : Nat), vl (nm B i (min (wdE B r (i + n) - i) 8)), vj, a6, a7] [] N Q := by
  intro r
  induction r with
  | zero =>
    intro n hi hl
    have w1 : wr ((i : Int) + (n : Int)) = ((i + n : Nat) : Int) := by rw [wr_id (by omega) (by omega)]; omega
    have fa := fun (Q : mV → mM → Prop) => y_at (d := d) (Q := Q) (B := B) (sz := sz) (i := i + n) h hx hb h2
    have g : bt B sz (i + n) = 0 := by unfold bt; rw [if_neg (by omega)]
    rw [g] at fa
    have z : isLt (b8 0) = False := eq_false (by decide)
    rw [wdE, show i + n - i = n by omega]
    rw [eX12_cut_85]
    simp only [↓eX12_cut_86, ↓eX12_cut_87, ↓eX12_cut_88, ↓eX12_cut_89, ↓eX12_cut_92, ↓eX12_cut_95, w1, hk35 h, ↓fa, ↓y_isLetter, z, Int.cast_ofNat_Int, kd_si, gr_si, ln_si, gi_same, gi_na, gi_ni, nl_i, nl_r, nl_j, nj_i, nj_l, nj_r, true_and, and_true, and_self, cs_0, cs_1, cs_2, cs_3, cs_4, ↓reduceIte, Nat.reduceLeDiff, Nat.reduceEqDiff, Nat.reduceAdd, Int.reduceLE, Int.reduceLT, Int.reduceEq, Int.reduceAdd, Int.reduceNeg, Int.reduceToNat, Int.toNat_natCast, ne_eq, not_false_eq_true, not_true_eq_false, or_true, true_or, or_false, false_or]
  | succ r ih =>
    intro n hi hl
    have w1 : wr ((i : Int) + (n : Int)) = ((i + n : Nat) : Int) := by rw [wr_id (by omega) (by omega)]; omega
    have w2 : wr ((n : Int) + 1) = ((n + 1 : Nat) : Int) := by rw [wr_id (by omega) (by omega)]; omega
    have fa := fun (Q : mV → mM → Prop) => y_at (d := d) (Q := Q) (B := B) (sz := sz) (i := i + n) h hx hb h2
    have g : bt B sz (i + n) = B (i + n) := by unfold bt; rw [if_pos (by omega)]
    rw [g] at fa
    obtain ⟨b1, b2⟩ := hb (i + n) (by omega)
    rw [wdE]
    by_cases q : isLt (B (i + n))
    · have q' : isLt (b8 (B (i + n))) = True := by rw [b8_lt b1 b2]; exact eq_true q
      have e8 : b8 (B (i + n)) = B (i + n) := by
        have : 97 ≤ B (i + n) ∧ B (i + n) ≤ 122 := q
        unfold b8; rw [if_neg (by omega)]
      have hl' : ∀ j, j < n + 1 → isLt (B (i + j)) := fun j hj => by
        by_cases z : j = n
        · rw [z]; exact q
        · exact hl j (by omega)
      rw [if_pos q, show i + n + 1 = i + (n + 1) by omega, ← ih (n + 1) (by omega) hl']
      rw [eX12_cut_85]
      by_cases q8 : n < 8
      · have c8 : ((8 : Int) ≤ (n : Int)) = False := eq_false (by omega)
        have nr := nmr n hl
        have nb : (27 ^ n : Nat) ≤ 27 ^ 7 := Nat.pow_le_pow_right (by decide) (by omega)
        have fm := fun (Q : mV → mM → Prop) => y_more (d := d) (M := N) (Q := Q) (x := nm B i n) (c := B (i + n)) nr.1 (by omega) q
        rw [Nat.min_eq_left (show n ≤ 8 by omega), Nat.min_eq_left (show n + 1 ≤ 8 by omega)]
        simp only [↓eX12_cut_86, ↓eX12_cut_87, ↓eX12_cut_88, ↓eX12_cut_89, ↓eX12_cut_92, ↓eX12_cut_95, ↓eX12_cut_98, ↓eX12_cut_99, ↓eX12_cut_101, ↓eX12_cut_104, ↓eX12_cut_106, ↓eX12_cut_107, ↓eX12_cut_108, ↓eX12_cut_109, ↓eX12_cut_110, ↓eX12_cut_113, ↓eX12_cut_116, ↓eX12_cut_118, ↓eX12_cut_121, w1, w2, hk35 h, ↓fa, ↓y_isLetter, c8, e8, ↓fm, Int.cast_ofNat_Int, kd_si, gr_si, ln_si, gi_same, gi_na, gi_ni, nl_i, nl_r, nl_j, nj_i, nj_l, nj_r, true_and, and_true, and_self, cs_0, cs_1, cs_2, cs_3, cs_4, ↓reduceIte, Nat.reduceLeDiff, Nat.reduceEqDiff, Nat.reduceAdd, Int.reduceLE, Int.reduceLT, Int.reduceEq, Int.reduceAdd, Int.reduceNeg, Int.reduceToNat, Int.toNat_natCast, ne_eq, not_false_eq_true, not_true_eq_false, or_true, true_or, or_false, false_or]
        rw [if_pos q]
        rfl
      · have c8 : ((8 : Int) ≤ (n : Int)) = True := eq_true (by omega)
        rw [Nat.min_eq_right (show 8 ≤ n by omega), Nat.min_eq_right (show 8 ≤ n + 1 by omega)]
        simp only [↓eX12_cut_86, ↓eX12_cut_87, ↓eX12_cut_88, ↓eX12_cut_89, ↓eX12_cut_92, ↓eX12_cut_95, ↓eX12_cut_98, ↓eX12_cut_99, ↓eX12_cut_101, ↓eX12_cut_104, ↓eX12_cut_106, ↓eX12_cut_107, ↓eX12_cut_108, ↓eX12_cut_109, ↓eX12_cut_110, ↓eX12_cut_113, ↓eX12_cut_116, ↓eX12_cut_118, ↓eX12_cut_121, w1, w2, hk35 h, ↓fa, ↓y_isLetter, q', c8, Int.cast_ofNat_Int, kd_si, gr_si, ln_si, gi_same, gi_na, gi_ni, nl_i, nl_r, nl_j, nj_i, nj_l, nj_r, true_and, and_true, and_self, cs_0, cs_1, cs_2, cs_3, cs_4, ↓reduceIte, Nat.reduceLeDiff, Nat.reduceEqDiff, Nat.reduceAdd, Int.reduceLE, Int.reduceLT, Int.reduceEq, Int.reduceAdd, Int.reduceNeg, Int.reduceToNat, Int.toNat_natCast, ne_eq, not_false_eq_true, not_true_eq_false, or_true, true_or, or_false, false_or]
    · have q' : isLt (b8 (B (i + n))) = False := by rw [b8_lt b1 b2]; exact eq_false q
      rw [if_neg q, show i + n - i = n by omega]
      rw [eX12_cut_85]
      simp only [↓eX12_cut_86, ↓eX12_cut_87, ↓eX12_cut_88, ↓eX12_cut_89, ↓eX12_cut_92, ↓eX12_cut_95, w1, hk35 h, ↓fa, ↓y_isLetter, q', Int.cast_ofNat_Int, kd_si, gr_si, ln_si, gi_same, gi_na, gi_ni, nl_i, nl_r, nl_j, nj_i, nj_l, nj_r, true_and, and_true, and_self, cs_0, cs_1, cs_2, cs_3, cs_4, ↓reduceIte, Nat.reduceLeDiff, Nat.reduceEqDiff, Nat.reduceAdd, Int.reduceLE, Int.reduceLT, Int.reduceEq, Int.reduceAdd, Int.reduceNeg, Int.reduceToNat, Int.toNat_natCast, ne_eq, not_false_eq_true, not_true_eq_false, or_true, true_or, or_false, false_or]
theorem y_key {C : mC} {N : mM} {Q : mV → mM → Prop} {x : Int} {a1 a2 a3 : mV} (h : SH N) (hy : KY N) : ∀ (r k : Nat) (kk : Int), k + r = 14 → WP C tX12_cut 146 [vr (some 35), a1, a2, a3, vl x, vj, vi kk, vi k] [] N Q = WP C tX12_cut 179 [vr (some 35), a1, a2, a3, vl x, vj, vi (kfl x r k kk), vi 14] [] N Q := by
  intro r
  induction r with
  | zero =>
    intro k kk hi
    have e : k = 14 := by omega
    subst e
    rw [eX12_cut_146]
    simp only [↓eX12_cut_148, ↓eX12_cut_150, Int.le_refl, Int.cast_ofNat_Int, kd_si, gr_si, ln_si, gi_same, gi_na, gi_ni, nl_i, nl_r, nl_j, nj_i, nj_l, nj_r, true_and, and_true, and_self, cs_0, cs_1, cs_2, cs_3, cs_4, ↓reduceIte, Nat.reduceLeDiff, Nat.reduceEqDiff, Nat.reduceAdd, Int.reduceLE, Int.reduceLT, Int.reduceEq, Int.reduceAdd, Int.reduceNeg, Int.reduceToNat, Int.toNat_natCast, ne_eq, not_false_eq_true, not_true_eq_false, or_true, true_or, or_false, false_or]
    rfl
  | succ r ih =>
    intro k kk hi
    have e : ((14 : Int) ≤ (k : Int)) = False := eq_false (by omega)
    have e2 : wr ((k : Int) + 1) = ((k + 1 : Nat) : Int) := by rw [wr_id (by omega) (by omega)]; omega
    have e3 : wr (20 + (k : Int)) = 20 + (k : Int) := wr_id (by omega) (by omega)
    have k0 : (0 ≤ (k : Int)) = True := eq_true (by omega)
    have k1 : ((k : Int) < 14) = True := eq_true (by omega)
    have g := hy k (by omega)
    rw [kfl, ← ih (k + 1) _ (by omega), eX12_cut_146]
    by_cases q : keyL.getD k 0 = x
    · have n1 : (x < keyL.getD k 0) = False := eq_false (by omega)
      simp only [↓eX12_cut_148, ↓eX12_cut_150, ↓eX12_cut_153, ↓eX12_cut_154, ↓eX12_cut_157, ↓eX12_cut_159, ↓eX12_cut_160, ↓eX12_cut_162, ↓eX12_cut_163, ↓eX12_cut_166, ↓eX12_cut_168, ↓eX12_cut_170, ↓eX12_cut_171, ↓eX12_cut_173, ↓eX12_cut_176, e, e2, e3, k0, k1, g, n1, q, hk35 h, hr35_9 h, hk42 h, hl42 h, Int.lt_irrefl, Int.cast_ofNat_Int, kd_si, gr_si, ln_si, gi_same, gi_na, gi_ni, nl_i, nl_r, nl_j, nj_i, nj_l, nj_r, true_and, and_true, and_self, cs_0, cs_1, cs_2, cs_3, cs_4, ↓reduceIte, Nat.reduceLeDiff, Nat.reduceEqDiff, Nat.reduceAdd, Int.reduceLE, Int.reduceLT, Int.reduceEq, Int.reduceAdd, Int.reduceNeg, Int.reduceToNat, Int.toNat_natCast, ne_eq, not_false_eq_true, not_true_eq_false, or_true, true_or, or_false, false_or]
    · by_cases z : x < keyL.getD k 0
      · simp only [↓eX12_cut_148, ↓eX12_cut_150, ↓eX12_cut_153, ↓eX12_cut_154, ↓eX12_cut_157, ↓eX12_cut_159, ↓eX12_cut_160, ↓eX12_cut_162, ↓eX12_cut_163, ↓eX12_cut_166, ↓eX12_cut_168, ↓eX12_cut_170, ↓eX12_cut_171, ↓eX12_cut_173, ↓eX12_cut_176, e, e2, e3, k0, k1, g, z, q, hk35 h, hr35_9 h, hk42 h, hl42 h, Int.cast_ofNat_Int, kd_si, gr_si, ln_si, gi_same, gi_na, gi_ni, nl_i, nl_r, nl_j, nj_i, nj_l, nj_r, true_and, and_true, and_self, cs_0, cs_1, cs_2, cs_3, cs_4, ↓reduceIte, Nat.reduceLeDiff, Nat.reduceEqDiff, Nat.reduceAdd, Int.reduceLE, Int.reduceLT, Int.reduceEq, Int.reduceAdd, Int.reduceNeg, Int.reduceToNat, Int.toNat_natCast, ne_eq, not_false_eq_true, not_true_eq_false, or_true, true_or, or_false, false_or]
      · simp only [↓eX12_cut_148, ↓eX12_cut_150, ↓eX12_cut_153, ↓eX12_cut_154, ↓eX12_cut_157, ↓eX12_cut_159, ↓eX12_cut_160, ↓eX12_cut_162, ↓eX12_cut_163, ↓eX12_cut_166, ↓eX12_cut_168, ↓eX12_cut_170, ↓eX12_cut_171, ↓eX12_cut_173, ↓eX12_cut_176, e, e2, e3, k0, k1, g, z, q, hk35 h, hr35_9 h, hk42 h, hl42 h, Int.cast_ofNat_Int, kd_si, gr_si, ln_si, gi_same, gi_na, gi_ni, nl_i, nl_r, nl_j, nj_i, nj_l, nj_r, true_and, and_true, and_self, cs_0, cs_1, cs_2, cs_3, cs_4, ↓reduceIte, Nat.reduceLeDiff, Nat.reduceEqDiff, Nat.reduceAdd, Int.reduceLE, Int.reduceLT, Int.reduceEq, Int.reduceAdd, Int.reduceNeg, Int.reduceToNat, Int.toNat_natCast, ne_eq, not_false_eq_true, not_true_eq_false, or_true, true_or, or_false, false_or]
theorem nv_r {B : Nat → Int} {i : Nat} : ∀ n, (∀ j, j < n → isDg (B (i + j))) → 0 ≤ nv B i n ∧ nv B i n < (10 ^ n : Nat) := by
  intro n
  induction n with
  | zero => intro _; exact ⟨Int.le_refl 0, (by decide : (0 : Int) < ((1 : Nat) : Int))⟩
  | succ n ih =>
    intro h
    obtain ⟨a, b⟩ := ih (fun j hj => h j (by omega))
    have c : 48 ≤ B (i + n) ∧ B (i + n) ≤ 57 := h n (Nat.lt_succ_self n)
    rw [nv]
    have p : (10 ^ (n + 1) : Nat) = 10 ^ n * 10 := Nat.pow_succ _ _
    constructor
    · omega
    · omega
theorem y_dg {d : Nat} {N : mM} {Q : mV → mM → Prop} {B : Nat → Int} {sz i : Nat} {c : Int} {a5 a6 a7 : mV} (h : SH N) (hx : TX B sz N) (hb : B8 B sz) (h2 : sz ≤ 2000) :
    ∀ r n : Nat, i + n + r = sz → (∀ j, j < n → isDg (B (i + j))) → WP (mc (d + 1)) tX12_cut 208 [vr (some 35), vi i, vi c, vi n, vi (nv B i (min n 4)), a5, a6, a7] [] N Q = WP (mc (d + 1)) tX12_cut 250 [vr (some 35), vi i, vi c, vi (dgE B r (i + n) - i : Nat), vi (nv B i (min (dgE B r (i + n) - i) 4)), a5, a6, a7] [] N Q := by
  intro r
  induction r with
  | zero =>
    intro n hi hl
    have w1 : wr ((i : Int) + (n : Int)) = ((i + n : Nat) : Int) := by rw [wr_id (by omega) (by omega)]; omega
    have fa := fun (Q : mV → mM → Prop) => y_at (d := d) (Q := Q) (B := B) (sz := sz) (i := i + n) h hx hb h2
    have g : bt B sz (i + n) = 0 := by unfold bt; rw [if_neg (by omega)]
    rw [g] at fa
    have z : isDg (b8 0) = False := eq_false (by decide)
    rw [dgE, show i + n - i = n by omega]
    rw [eX12_cut_208]
    simp only [↓eX12_cut_209, ↓eX12_cut_210, ↓eX12_cut_211, ↓eX12_cut_212, ↓eX12_cut_215, ↓eX12_cut_218, w1, hk35 h, ↓fa, ↓y_isDigit, z, Int.cast_ofNat_Int, kd_si, gr_si, ln_si, gi_same, gi_na, gi_ni, nl_i, nl_r, nl_j, nj_i, nj_l, nj_r, true_and, and_true, and_self, cs_0, cs_1, cs_2, cs_3, cs_4, ↓reduceIte, Nat.reduceLeDiff, Nat.reduceEqDiff, Nat.reduceAdd, Int.reduceLE, Int.reduceLT, Int.reduceEq, Int.reduceAdd, Int.reduceNeg, Int.reduceToNat, Int.toNat_natCast, ne_eq, not_false_eq_true, not_true_eq_false, or_true, true_or, or_false, false_or]
  | succ r ih =>
    intro n hi hl
    have w1 : wr ((i : Int) + (n : Int)) = ((i + n : Nat) : Int) := by rw [wr_id (by omega) (by omega)]; omega
    have w2 : wr ((n : Int) + 1) = ((n + 1 : Nat) : Int) := by rw [wr_id (by omega) (by omega)]; omega
    have fa := fun (Q : mV → mM → Prop) => y_at (d := d) (Q := Q) (B := B) (sz := sz) (i := i + n) h hx hb h2
    have g : bt B sz (i + n) = B (i + n) := by unfold bt; rw [if_pos (by omega)]
    rw [g] at fa
    obtain ⟨b1, b2⟩ := hb (i + n) (by omega)
    rw [dgE]
    by_cases q : isDg (B (i + n))
    · have q' : isDg (b8 (B (i + n))) = True := by rw [b8_dg b1 b2]; exact eq_true q
      have q2 : 48 ≤ B (i + n) ∧ B (i + n) ≤ 57 := q
      have e8 : b8 (B (i + n)) = B (i + n) := by unfold b8; rw [if_neg (by omega)]
      have hl' : ∀ j, j < n + 1 → isDg (B (i + j)) := fun j hj => by
        by_cases z : j = n
        · rw [z]; exact q
        · exact hl j (by omega)
      rw [if_pos q, show i + n + 1 = i + (n + 1) by omega, ← ih (n + 1) (by omega) hl']
      rw [eX12_cut_208]
      by_cases q8 : n < 4
      · have c8 : ((4 : Int) ≤ (n : Int)) = False := eq_false (by omega)
        have nr := nv_r n hl
        have nb : (10 ^ n : Nat) ≤ 10 ^ 3 := Nat.pow_le_pow_right (by decide) (by omega)
        have v1 : wr (10 * nv B i n) = 10 * nv B i n := wr_id (by omega) (by omega)
        have v2 : wr (10 * nv B i n + B (i + n)) = 10 * nv B i n + B (i + n) := wr_id (by omega) (by omega)
        have v3 : wr (10 * nv B i n + B (i + n) - 48) = 10 * nv B i n + B (i + n) - 48 := wr_id (by omega) (by omega)
        rw [Nat.min_eq_left (show n ≤ 4 by omega), Nat.min_eq_left (show n + 1 ≤ 4 by omega)]
        simp only [↓eX12_cut_209, ↓eX12_cut_210, ↓eX12_cut_211, ↓eX12_cut_212, ↓eX12_cut_215, ↓eX12_cut_218, ↓eX12_cut_221, ↓eX12_cut_222, ↓eX12_cut_223, ↓eX12_cut_226, ↓eX12_cut_228, ↓eX12_cut_230, ↓eX12_cut_231, ↓eX12_cut_232, ↓eX12_cut_233, ↓eX12_cut_234, ↓eX12_cut_235, ↓eX12_cut_238, ↓eX12_cut_239, ↓eX12_cut_241, ↓eX12_cut_242, ↓eX12_cut_244, ↓eX12_cut_247, w1, w2, hk35 h, ↓fa, ↓y_isDigit, c8, e8, v1, v2, v3, Int.cast_ofNat_Int, kd_si, gr_si, ln_si, gi_same, gi_na, gi_ni, nl_i, nl_r, nl_j, nj_i, nj_l, nj_r, true_and, and_true, and_self, cs_0, cs_1, cs_2, cs_3, cs_4, ↓reduceIte, Nat.reduceLeDiff, Nat.reduceEqDiff, Nat.reduceAdd, Int.reduceLE, Int.reduceLT, Int.reduceEq, Int.reduceAdd, Int.reduceNeg, Int.reduceToNat, Int.toNat_natCast, ne_eq, not_false_eq_true, not_true_eq_false, or_true, true_or, or_false, false_or]
        rw [if_pos q]
        rfl
      · have c8 : ((4 : Int) ≤ (n : Int)) = True := eq_true (by omega)
        rw [Nat.min_eq_right (show 4 ≤ n by omega), Nat.min_eq_right (show 4 ≤ n + 1 by omega)]
        simp only [↓eX12_cut_209, ↓eX12_cut_210, ↓eX12_cut_211, ↓eX12_cut_212, ↓eX12_cut_215, ↓eX12_cut_218, ↓eX12_cut_221, ↓eX12_cut_222, ↓eX12_cut_223, ↓eX12_cut_226, ↓eX12_cut_228, ↓eX12_cut_230, ↓eX12_cut_231, ↓eX12_cut_232, ↓eX12_cut_233, ↓eX12_cut_234, ↓eX12_cut_235, ↓eX12_cut_238, ↓eX12_cut_239, ↓eX12_cut_241, ↓eX12_cut_242, ↓eX12_cut_244, ↓eX12_cut_247, w1, w2, hk35 h, ↓fa, ↓y_isDigit, q', c8, Int.cast_ofNat_Int, kd_si, gr_si, ln_si, gi_same, gi_na, gi_ni, nl_i, nl_r, nl_j, nj_i, nj_l, nj_r, true_and, and_true, and_self, cs_0, cs_1, cs_2, cs_3, cs_4, ↓reduceIte, Nat.reduceLeDiff, Nat.reduceEqDiff, Nat.reduceAdd, Int.reduceLE, Int.reduceLT, Int.reduceEq, Int.reduceAdd, Int.reduceNeg, Int.reduceToNat, Int.toNat_natCast, ne_eq, not_false_eq_true, not_true_eq_false, or_true, true_or, or_false, false_or]
    · have q' : isDg (b8 (B (i + n))) = False := by rw [b8_dg b1 b2]; exact eq_false q
      rw [if_neg q, show i + n - i = n by omega]
      rw [eX12_cut_208]
      simp only [↓eX12_cut_209, ↓eX12_cut_210, ↓eX12_cut_211, ↓eX12_cut_212, ↓eX12_cut_215, ↓eX12_cut_218, w1, hk35 h, ↓fa, ↓y_isDigit, q', Int.cast_ofNat_Int, kd_si, gr_si, ln_si, gi_same, gi_na, gi_ni, nl_i, nl_r, nl_j, nj_i, nj_l, nj_r, true_and, and_true, and_self, cs_0, cs_1, cs_2, cs_3, cs_4, ↓reduceIte, Nat.reduceLeDiff, Nat.reduceEqDiff, Nat.reduceAdd, Int.reduceLE, Int.reduceLT, Int.reduceEq, Int.reduceAdd, Int.reduceNeg, Int.reduceToNat, Int.toNat_natCast, ne_eq, not_false_eq_true, not_true_eq_false, or_true, true_or, or_false, false_or]
/-- the reference's signs -/
def ysk (c d : Int) : Int := if d = 61 ∧ kp c ≠ 0 then (if c = 61 then 11 else if c = 33 then 12 else 14) else if c = 59 then 4 else if c = 40 then 6 else if c = 41 then 7 else if c = 43 then 8 else if c = 45 then 9 else if c = 42 then 10 else if c = 60 then 13 else 3
theorem y_sign {d : Nat} {N : mM} {Q : mV → mM → Prop} {m : Nat} {p c e : Int} (h : SH N) (hm : gi N 35 10 = m) (h4 : m ≤ 401) : CP (mc (d + 2)) 133 [vr (some 35), vi p, vi c, vi e] N Q = Q (vi (if e = 61 ∧ kp c ≠ 0 then 2 else 1)) (tokM N m (ysk c e) p 0 0) := by
  have ft := fun (Q : mV → mM → Prop) (k : Int) => y_token (d := d) (Q := Q) (k := k) (p := p) (v := 0) (nm := 0) h hm h4
  by_cases q : e = 61
  · by_cases q1 : c = 61
    · subst q q1
      simp only [↓cpX12_sign, ↓eX12_sign_0, ↓eX12_sign_1, ↓eX12_sign_3, ↓eX12_sign_6, ↓eX12_sign_7, ↓eX12_sign_10, ↓eX12_sign_11, ↓eX12_sign_13, ↓eX12_sign_16, ↓eX12_sign_18, ↓eX12_sign_21, ↓eX12_sign_22, ↓eX12_sign_24, ↓eX12_sign_27, ↓eX12_sign_29, ↓eX12_sign_32, ↓eX12_sign_33, ↓eX12_sign_35, ↓eX12_sign_38, ↓eX12_sign_40, ↓eX12_sign_43, ↓eX12_sign_44, ↓eX12_sign_46, ↓eX12_sign_47, ↓eX12_sign_49, ↓eX12_sign_51, ↓eX12_sign_54, ↓eX12_sign_56, ↓eX12_sign_58, ↓eX12_sign_61, ↓eX12_sign_62, ↓eX12_sign_64, ↓eX12_sign_67, ↓eX12_sign_68, ↓eX12_sign_70, ↓eX12_sign_73, ↓eX12_sign_74, ↓eX12_sign_76, ↓eX12_sign_79, ↓eX12_sign_81, ↓eX12_sign_83, ↓eX12_sign_86, ↓eX12_sign_87, ↓eX12_sign_89, ↓eX12_sign_92, ↓eX12_sign_94, ↓eX12_sign_96, ↓eX12_sign_99, ↓eX12_sign_100, ↓eX12_sign_102, ↓eX12_sign_105, ↓eX12_sign_107, ↓eX12_sign_109, ↓eX12_sign_112, ↓eX12_sign_113, ↓eX12_sign_115, ↓eX12_sign_118, ↓eX12_sign_120, ↓eX12_sign_122, ↓eX12_sign_125, ↓eX12_sign_126, ↓eX12_sign_128, ↓eX12_sign_131, ↓eX12_sign_133, ↓eX12_sign_135, ↓eX12_sign_138, ↓eX12_sign_139, ↓eX12_sign_141, ↓eX12_sign_144, ↓eX12_sign_146, ↓eX12_sign_148, ↓eX12_sign_149, ↓eX12_sign_151, ↓eX12_sign_152, ↓eX12_sign_153, ↓eX12_sign_154, ↓eX12_sign_157, ↓eX12_sign_159, ↓eX12_sign_162, ↓eX12_sign_163, ↓eX12_sign_166, ↓eX12_sign_167, hk35 h, ↓ft, Int.cast_ofNat_Int, kd_si, gr_si, ln_si, gi_same, gi_na, gi_ni, nl_i, nl_r, nl_j, nj_i, nj_l, nj_r, true_and, and_true, and_self, cs_0, cs_1, cs_2, cs_3, cs_4, ↓reduceIte, Nat.reduceLeDiff, Nat.reduceEqDiff, Nat.reduceAdd, Int.reduceLE, Int.reduceLT, Int.reduceEq, Int.reduceAdd, Int.reduceNeg, Int.reduceToNat, Int.toNat_natCast, ne_eq, not_false_eq_true, not_true_eq_false, or_true, true_or, or_false, false_or]
      rfl
    · by_cases q2 : c = 33
      · subst q q2
        simp only [↓cpX12_sign, ↓eX12_sign_0, ↓eX12_sign_1, ↓eX12_sign_3, ↓eX12_sign_6, ↓eX12_sign_7, ↓eX12_sign_10, ↓eX12_sign_11, ↓eX12_sign_13, ↓eX12_sign_16, ↓eX12_sign_18, ↓eX12_sign_21, ↓eX12_sign_22, ↓eX12_sign_24, ↓eX12_sign_27, ↓eX12_sign_29, ↓eX12_sign_32, ↓eX12_sign_33, ↓eX12_sign_35, ↓eX12_sign_38, ↓eX12_sign_40, ↓eX12_sign_43, ↓eX12_sign_44, ↓eX12_sign_46, ↓eX12_sign_47, ↓eX12_sign_49, ↓eX12_sign_51, ↓eX12_sign_54, ↓eX12_sign_56, ↓eX12_sign_58, ↓eX12_sign_61, ↓eX12_sign_62, ↓eX12_sign_64, ↓eX12_sign_67, ↓eX12_sign_68, ↓eX12_sign_70, ↓eX12_sign_73, ↓eX12_sign_74, ↓eX12_sign_76, ↓eX12_sign_79, ↓eX12_sign_81, ↓eX12_sign_83, ↓eX12_sign_86, ↓eX12_sign_87, ↓eX12_sign_89, ↓eX12_sign_92, ↓eX12_sign_94, ↓eX12_sign_96, ↓eX12_sign_99, ↓eX12_sign_100, ↓eX12_sign_102, ↓eX12_sign_105, ↓eX12_sign_107, ↓eX12_sign_109, ↓eX12_sign_112, ↓eX12_sign_113, ↓eX12_sign_115, ↓eX12_sign_118, ↓eX12_sign_120, ↓eX12_sign_122, ↓eX12_sign_125, ↓eX12_sign_126, ↓eX12_sign_128, ↓eX12_sign_131, ↓eX12_sign_133, ↓eX12_sign_135, ↓eX12_sign_138, ↓eX12_sign_139, ↓eX12_sign_141, ↓eX12_sign_144, ↓eX12_sign_146, ↓eX12_sign_148, ↓eX12_sign_149, ↓eX12_sign_151, ↓eX12_sign_152, ↓eX12_sign_153, ↓eX12_sign_154, ↓eX12_sign_157, ↓eX12_sign_159, ↓eX12_sign_162, ↓eX12_sign_163, ↓eX12_sign_166, ↓eX12_sign_167, hk35 h, ↓ft, Int.cast_ofNat_Int, kd_si, gr_si, ln_si, gi_same, gi_na, gi_ni, nl_i, nl_r, nl_j, nj_i, nj_l, nj_r, true_and, and_true, and_self, cs_0, cs_1, cs_2, cs_3, cs_4, ↓reduceIte, Nat.reduceLeDiff, Nat.reduceEqDiff, Nat.reduceAdd, Int.reduceLE, Int.reduceLT, Int.reduceEq, Int.reduceAdd, Int.reduceNeg, Int.reduceToNat, Int.toNat_natCast, ne_eq, not_false_eq_true, not_true_eq_false, or_true, true_or, or_false, false_or]
        rfl
      · by_cases q3 : c = 60
        · subst q q3
          simp only [↓cpX12_sign, ↓eX12_sign_0, ↓eX12_sign_1, ↓eX12_sign_3, ↓eX12_sign_6, ↓eX12_sign_7, ↓eX12_sign_10, ↓eX12_sign_11, ↓eX12_sign_13, ↓eX12_sign_16, ↓eX12_sign_18, ↓eX12_sign_21, ↓eX12_sign_22, ↓eX12_sign_24, ↓eX12_sign_27, ↓eX12_sign_29, ↓eX12_sign_32, ↓eX12_sign_33, ↓eX12_sign_35, ↓eX12_sign_38, ↓eX12_sign_40, ↓eX12_sign_43, ↓eX12_sign_44, ↓eX12_sign_46, ↓eX12_sign_47, ↓eX12_sign_49, ↓eX12_sign_51, ↓eX12_sign_54, ↓eX12_sign_56, ↓eX12_sign_58, ↓eX12_sign_61, ↓eX12_sign_62, ↓eX12_sign_64, ↓eX12_sign_67, ↓eX12_sign_68, ↓eX12_sign_70, ↓eX12_sign_73, ↓eX12_sign_74, ↓eX12_sign_76, ↓eX12_sign_79, ↓eX12_sign_81, ↓eX12_sign_83, ↓eX12_sign_86, ↓eX12_sign_87, ↓eX12_sign_89, ↓eX12_sign_92, ↓eX12_sign_94, ↓eX12_sign_96, ↓eX12_sign_99, ↓eX12_sign_100, ↓eX12_sign_102, ↓eX12_sign_105, ↓eX12_sign_107, ↓eX12_sign_109, ↓eX12_sign_112, ↓eX12_sign_113, ↓eX12_sign_115, ↓eX12_sign_118, ↓eX12_sign_120, ↓eX12_sign_122, ↓eX12_sign_125, ↓eX12_sign_126, ↓eX12_sign_128, ↓eX12_sign_131, ↓eX12_sign_133, ↓eX12_sign_135, ↓eX12_sign_138, ↓eX12_sign_139, ↓eX12_sign_141, ↓eX12_sign_144, ↓eX12_sign_146, ↓eX12_sign_148, ↓eX12_sign_149, ↓eX12_sign_151, ↓eX12_sign_152, ↓eX12_sign_153, ↓eX12_sign_154, ↓eX12_sign_157, ↓eX12_sign_159, ↓eX12_sign_162, ↓eX12_sign_163, ↓eX12_sign_166, ↓eX12_sign_167, hk35 h, ↓ft, Int.cast_ofNat_Int, kd_si, gr_si, ln_si, gi_same, gi_na, gi_ni, nl_i, nl_r, nl_j, nj_i, nj_l, nj_r, true_and, and_true, and_self, cs_0, cs_1, cs_2, cs_3, cs_4, ↓reduceIte, Nat.reduceLeDiff, Nat.reduceEqDiff, Nat.reduceAdd, Int.reduceLE, Int.reduceLT, Int.reduceEq, Int.reduceAdd, Int.reduceNeg, Int.reduceToNat, Int.toNat_natCast, ne_eq, not_false_eq_true, not_true_eq_false, or_true, true_or, or_false, false_or]
          rfl
        · have k0 : kp c = 0 := by unfold kp; rw [if_neg q2, if_neg q3, if_neg q1]
          have n1 : ¬ (e = 61 ∧ kp c ≠ 0) := fun w => w.2 k0
          unfold ysk
          rw [if_neg n1, if_neg n1]
          by_cases z1 : c = 59
          · subst z1; simp only [↓cpX12_sign, ↓eX12_sign_0, ↓eX12_sign_1, ↓eX12_sign_3, ↓eX12_sign_6, ↓eX12_sign_7, ↓eX12_sign_10, ↓eX12_sign_11, ↓eX12_sign_13, ↓eX12_sign_16, ↓eX12_sign_18, ↓eX12_sign_21, ↓eX12_sign_22, ↓eX12_sign_24, ↓eX12_sign_27, ↓eX12_sign_29, ↓eX12_sign_32, ↓eX12_sign_33, ↓eX12_sign_35, ↓eX12_sign_38, ↓eX12_sign_40, ↓eX12_sign_43, ↓eX12_sign_44, ↓eX12_sign_46, ↓eX12_sign_47, ↓eX12_sign_49, ↓eX12_sign_51, ↓eX12_sign_54, ↓eX12_sign_56, ↓eX12_sign_58, ↓eX12_sign_61, ↓eX12_sign_62, ↓eX12_sign_64, ↓eX12_sign_67, ↓eX12_sign_68, ↓eX12_sign_70, ↓eX12_sign_73, ↓eX12_sign_74, ↓eX12_sign_76, ↓eX12_sign_79, ↓eX12_sign_81, ↓eX12_sign_83, ↓eX12_sign_86, ↓eX12_sign_87, ↓eX12_sign_89, ↓eX12_sign_92, ↓eX12_sign_94, ↓eX12_sign_96, ↓eX12_sign_99, ↓eX12_sign_100, ↓eX12_sign_102, ↓eX12_sign_105, ↓eX12_sign_107, ↓eX12_sign_109, ↓eX12_sign_112, ↓eX12_sign_113, ↓eX12_sign_115, ↓eX12_sign_118, ↓eX12_sign_120, ↓eX12_sign_122, ↓eX12_sign_125, ↓eX12_sign_126, ↓eX12_sign_128, ↓eX12_sign_131, ↓eX12_sign_133, ↓eX12_sign_135, ↓eX12_sign_138, ↓eX12_sign_139, ↓eX12_sign_141, ↓eX12_sign_144, ↓eX12_sign_146, ↓eX12_sign_148, ↓eX12_sign_149, ↓eX12_sign_151, ↓eX12_sign_152, ↓eX12_sign_153, ↓eX12_sign_154, ↓eX12_sign_157, ↓eX12_sign_159, ↓eX12_sign_162, ↓eX12_sign_163, ↓eX12_sign_166, ↓eX12_sign_167, hk35 h, ↓ft, q, Int.cast_ofNat_Int, kd_si, gr_si, ln_si, gi_same, gi_na, gi_ni, nl_i, nl_r, nl_j, nj_i, nj_l, nj_r, true_and, and_true, and_self, cs_0, cs_1, cs_2, cs_3, cs_4, ↓reduceIte, Nat.reduceLeDiff, Nat.reduceEqDiff, Nat.reduceAdd, Int.reduceLE, Int.reduceLT, Int.reduceEq, Int.reduceAdd, Int.reduceNeg, Int.reduceToNat, Int.toNat_natCast, ne_eq, not_false_eq_true, not_true_eq_false, or_true, true_or, or_false, false_or]
          by_cases z2 : c = 40
          · subst z2; simp only [↓cpX12_sign, ↓eX12_sign_0, ↓eX12_sign_1, ↓eX12_sign_3, ↓eX12_sign_6, ↓eX12_sign_7, ↓eX12_sign_10, ↓eX12_sign_11, ↓eX12_sign_13, ↓eX12_sign_16, ↓eX12_sign_18, ↓eX12_sign_21, ↓eX12_sign_22, ↓eX12_sign_24, ↓eX12_sign_27, ↓eX12_sign_29, ↓eX12_sign_32, ↓eX12_sign_33, ↓eX12_sign_35, ↓eX12_sign_38, ↓eX12_sign_40, ↓eX12_sign_43, ↓eX12_sign_44, ↓eX12_sign_46, ↓eX12_sign_47, ↓eX12_sign_49, ↓eX12_sign_51, ↓eX12_sign_54, ↓eX12_sign_56, ↓eX12_sign_58, ↓eX12_sign_61, ↓eX12_sign_62, ↓eX12_sign_64, ↓eX12_sign_67, ↓eX12_sign_68, ↓eX12_sign_70, ↓eX12_sign_73, ↓eX12_sign_74, ↓eX12_sign_76, ↓eX12_sign_79, ↓eX12_sign_81, ↓eX12_sign_83, ↓eX12_sign_86, ↓eX12_sign_87, ↓eX12_sign_89, ↓eX12_sign_92, ↓eX12_sign_94, ↓eX12_sign_96, ↓eX12_sign_99, ↓eX12_sign_100, ↓eX12_sign_102, ↓eX12_sign_105, ↓eX12_sign_107, ↓eX12_sign_109, ↓eX12_sign_112, ↓eX12_sign_113, ↓eX12_sign_115, ↓eX12_sign_118, ↓eX12_sign_120, ↓eX12_sign_122, ↓eX12_sign_125, ↓eX12_sign_126, ↓eX12_sign_128, ↓eX12_sign_131, ↓eX12_sign_133, ↓eX12_sign_135, ↓eX12_sign_138, ↓eX12_sign_139, ↓eX12_sign_141, ↓eX12_sign_144, ↓eX12_sign_146, ↓eX12_sign_148, ↓eX12_sign_149, ↓eX12_sign_151, ↓eX12_sign_152, ↓eX12_sign_153, ↓eX12_sign_154, ↓eX12_sign_157, ↓eX12_sign_159, ↓eX12_sign_162, ↓eX12_sign_163, ↓eX12_sign_166, ↓eX12_sign_167, hk35 h, ↓ft, q, Int.cast_ofNat_Int, kd_si, gr_si, ln_si, gi_same, gi_na, gi_ni, nl_i, nl_r, nl_j, nj_i, nj_l, nj_r, true_and, and_true, and_self, cs_0, cs_1, cs_2, cs_3, cs_4, ↓reduceIte, Nat.reduceLeDiff, Nat.reduceEqDiff, Nat.reduceAdd, Int.reduceLE, Int.reduceLT, Int.reduceEq, Int.reduceAdd, Int.reduceNeg, Int.reduceToNat, Int.toNat_natCast, ne_eq, not_false_eq_true, not_true_eq_false, or_true, true_or, or_false, false_or]
          by_cases z3 : c = 41
          · subst z3; simp only [↓cpX12_sign, ↓eX12_sign_0, ↓eX12_sign_1, ↓eX12_sign_3, ↓eX12_sign_6, ↓eX12_sign_7, ↓eX12_sign_10, ↓eX12_sign_11, ↓eX12_sign_13, ↓eX12_sign_16, ↓eX12_sign_18, ↓eX12_sign_21, ↓eX12_sign_22, ↓eX12_sign_24, ↓eX12_sign_27, ↓eX12_sign_29, ↓eX12_sign_32, ↓eX12_sign_33, ↓eX12_sign_35, ↓eX12_sign_38, ↓eX12_sign_40, ↓eX12_sign_43, ↓eX12_sign_44, ↓eX12_sign_46, ↓eX12_sign_47, ↓eX12_sign_49, ↓eX12_sign_51, ↓eX12_sign_54, ↓eX12_sign_56, ↓eX12_sign_58, ↓eX12_sign_61, ↓eX12_sign_62, ↓eX12_sign_64, ↓eX12_sign_67, ↓eX12_sign_68, ↓eX12_sign_70, ↓eX12_sign_73, ↓eX12_sign_74, ↓eX12_sign_76, ↓eX12_sign_79, ↓eX12_sign_81, ↓eX12_sign_83, ↓eX12_sign_86, ↓eX12_sign_87, ↓eX12_sign_89, ↓eX12_sign_92, ↓eX12_sign_94, ↓eX12_sign_96, ↓eX12_sign_99, ↓eX12_sign_100, ↓eX12_sign_102, ↓eX12_sign_105, ↓eX12_sign_107, ↓eX12_sign_109, ↓eX12_sign_112, ↓eX12_sign_113, ↓eX12_sign_115, ↓eX12_sign_118, ↓eX12_sign_120, ↓eX12_sign_122, ↓eX12_sign_125, ↓eX12_sign_126, ↓eX12_sign_128, ↓eX12_sign_131, ↓eX12_sign_133, ↓eX12_sign_135, ↓eX12_sign_138, ↓eX12_sign_139, ↓eX12_sign_141, ↓eX12_sign_144, ↓eX12_sign_146, ↓eX12_sign_148, ↓eX12_sign_149, ↓eX12_sign_151, ↓eX12_sign_152, ↓eX12_sign_153, ↓eX12_sign_154, ↓eX12_sign_157, ↓eX12_sign_159, ↓eX12_sign_162, ↓eX12_sign_163, ↓eX12_sign_166, ↓eX12_sign_167, hk35 h, ↓ft, q, Int.cast_ofNat_Int, kd_si, gr_si, ln_si, gi_same, gi_na, gi_ni, nl_i, nl_r, nl_j, nj_i, nj_l, nj_r, true_and, and_true, and_self, cs_0, cs_1, cs_2, cs_3, cs_4, ↓reduceIte, Nat.reduceLeDiff, Nat.reduceEqDiff, Nat.reduceAdd, Int.reduceLE, Int.reduceLT, Int.reduceEq, Int.reduceAdd, Int.reduceNeg, Int.reduceToNat, Int.toNat_natCast, ne_eq, not_false_eq_true, not_true_eq_false, or_true, true_or, or_false, false_or]
          by_cases z4 : c = 43
          · subst z4; simp only [↓cpX12_sign, ↓eX12_sign_0, ↓eX12_sign_1, ↓eX12_sign_3, ↓eX12_sign_6, ↓eX12_sign_7, ↓eX12_sign_10, ↓eX12_sign_11, ↓eX12_sign_13, ↓eX12_sign_16, ↓eX12_sign_18, ↓eX12_sign_21, ↓eX12_sign_22, ↓eX12_sign_24, ↓eX12_sign_27, ↓eX12_sign_29, ↓eX12_sign_32, ↓eX12_sign_33, ↓eX12_sign_35, ↓eX12_sign_38, ↓eX12_sign_40, ↓eX12_sign_43, ↓eX12_sign_44, ↓eX12_sign_46, ↓eX12_sign_47, ↓eX12_sign_49, ↓eX12_sign_51, ↓eX12_sign_54, ↓eX12_sign_56, ↓eX12_sign_58, ↓eX12_sign_61, ↓eX12_sign_62, ↓eX12_sign_64, ↓eX12_sign_67, ↓eX12_sign_68, ↓eX12_sign_70, ↓eX12_sign_73, ↓eX12_sign_74, ↓eX12_sign_76, ↓eX12_sign_79, ↓eX12_sign_81, ↓eX12_sign_83, ↓eX12_sign_86, ↓eX12_sign_87, ↓eX12_sign_89, ↓eX12_sign_92, ↓eX12_sign_94, ↓eX12_sign_96, ↓eX12_sign_99, ↓eX12_sign_100, ↓eX12_sign_102, ↓eX12_sign_105, ↓eX12_sign_107, ↓eX12_sign_109, ↓eX12_sign_112, ↓eX12_sign_113, ↓eX12_sign_115, ↓eX12_sign_118, ↓eX12_sign_120, ↓eX12_sign_122, ↓eX12_sign_125, ↓eX12_sign_126, ↓eX12_sign_128, ↓eX12_sign_131, ↓eX12_sign_133, ↓eX12_sign_135, ↓eX12_sign_138, ↓eX12_sign_139, ↓eX12_sign_141, ↓eX12_sign_144, ↓eX12_sign_146, ↓eX12_sign_148, ↓eX12_sign_149, ↓eX12_sign_151, ↓eX12_sign_152, ↓eX12_sign_153, ↓eX12_sign_154, ↓eX12_sign_157, ↓eX12_sign_159, ↓eX12_sign_162, ↓eX12_sign_163, ↓eX12_sign_166, ↓eX12_sign_167, hk35 h, ↓ft, q, Int.cast_ofNat_Int, kd_si, gr_si, ln_si, gi_same, gi_na, gi_ni, nl_i, nl_r, nl_j, nj_i, nj_l, nj_r, true_and, and_true, and_self, cs_0, cs_1, cs_2, cs_3, cs_4, ↓reduceIte, Nat.reduceLeDiff, Nat.reduceEqDiff, Nat.reduceAdd, Int.reduceLE, Int.reduceLT, Int.reduceEq, Int.reduceAdd, Int.reduceNeg, Int.reduceToNat, Int.toNat_natCast, ne_eq, not_false_eq_true, not_true_eq_false, or_true, true_or, or_false, false_or]
          by_cases z5 : c = 45
          · subst z5; simp only [↓cpX12_sign, ↓eX12_sign_0, ↓eX12_sign_1, ↓eX12_sign_3, ↓eX12_sign_6, ↓eX12_sign_7, ↓eX12_sign_10, ↓eX12_sign_11, ↓eX12_sign_13, ↓eX12_sign_16, ↓eX12_sign_18, ↓eX12_sign_21, ↓eX12_sign_22, ↓eX12_sign_24, ↓eX12_sign_27, ↓eX12_sign_29, ↓eX12_sign_32, ↓eX12_sign_33, ↓eX12_sign_35, ↓eX12_sign_38, ↓eX12_sign_40, ↓eX12_sign_43, ↓eX12_sign_44, ↓eX12_sign_46, ↓eX12_sign_47, ↓eX12_sign_49, ↓eX12_sign_51, ↓eX12_sign_54, ↓eX12_sign_56, ↓eX12_sign_58, ↓eX12_sign_61, ↓eX12_sign_62, ↓eX12_sign_64, ↓eX12_sign_67, ↓eX12_sign_68, ↓eX12_sign_70, ↓eX12_sign_73, ↓eX12_sign_74, ↓eX12_sign_76, ↓eX12_sign_79, ↓eX12_sign_81, ↓eX12_sign_83, ↓eX12_sign_86, ↓eX12_sign_87, ↓eX12_sign_89, ↓eX12_sign_92, ↓eX12_sign_94, ↓eX12_sign_96, ↓eX12_sign_99, ↓eX12_sign_100, ↓eX12_sign_102, ↓eX12_sign_105, ↓eX12_sign_107, ↓eX12_sign_109, ↓eX12_sign_112, ↓eX12_sign_113, ↓eX12_sign_115, ↓eX12_sign_118, ↓eX12_sign_120, ↓eX12_sign_122, ↓eX12_sign_125, ↓eX12_sign_126, ↓eX12_sign_128, ↓eX12_sign_131, ↓eX12_sign_133, ↓eX12_sign_135, ↓eX12_sign_138, ↓eX12_sign_139, ↓eX12_sign_141, ↓eX12_sign_144, ↓eX12_sign_146, ↓eX12_sign_148, ↓eX12_sign_149, ↓eX12_sign_151, ↓eX12_sign_152, ↓eX12_sign_153, ↓eX12_sign_154, ↓eX12_sign_157, ↓eX12_sign_159, ↓eX12_sign_162, ↓eX12_sign_163, ↓eX12_sign_166, ↓eX12_sign_167, hk35 h, ↓ft, q, Int.cast_ofNat_Int, kd_si, gr_si, ln_si, gi_same, gi_na, gi_ni, nl_i, nl_r, nl_j, nj_i, nj_l, nj_r, true_and, and_true, and_self, cs_0, cs_1, cs_2, cs_3, cs_4, ↓reduceIte, Nat.reduceLeDiff, Nat.reduceEqDiff, Nat.reduceAdd, Int.reduceLE, Int.reduceLT, Int.reduceEq, Int.reduceAdd, Int.reduceNeg, Int.reduceToNat, Int.toNat_natCast, ne_eq, not_false_eq_true, not_true_eq_false, or_true, true_or, or_false, false_or]
          by_cases z6 : c = 42
          · subst z6; simp only [↓cpX12_sign, ↓eX12_sign_0, ↓eX12_sign_1, ↓eX12_sign_3, ↓eX12_sign_6, ↓eX12_sign_7, ↓eX12_sign_10, ↓eX12_sign_11, ↓eX12_sign_13, ↓eX12_sign_16, ↓eX12_sign_18, ↓eX12_sign_21, ↓eX12_sign_22, ↓eX12_sign_24, ↓eX12_sign_27, ↓eX12_sign_29, ↓eX12_sign_32, ↓eX12_sign_33, ↓eX12_sign_35, ↓eX12_sign_38, ↓eX12_sign_40, ↓eX12_sign_43, ↓eX12_sign_44, ↓eX12_sign_46, ↓eX12_sign_47, ↓eX12_sign_49, ↓eX12_sign_51, ↓eX12_sign_54, ↓eX12_sign_56, ↓eX12_sign_58, ↓eX12_sign_61, ↓eX12_sign_62, ↓eX12_sign_64, ↓eX12_sign_67, ↓eX12_sign_68, ↓eX12_sign_70, ↓eX12_sign_73, ↓eX12_sign_74, ↓eX12_sign_76, ↓eX12_sign_79, ↓eX12_sign_81, ↓eX12_sign_83, ↓eX12_sign_86, ↓eX12_sign_87, ↓eX12_sign_89, ↓eX12_sign_92, ↓eX12_sign_94, ↓eX12_sign_96, ↓eX12_sign_99, ↓eX12_sign_100, ↓eX12_sign_102, ↓eX12_sign_105, ↓eX12_sign_107, ↓eX12_sign_109, ↓eX12_sign_112, ↓eX12_sign_113, ↓eX12_sign_115, ↓eX12_sign_118, ↓eX12_sign_120, ↓eX12_sign_122, ↓eX12_sign_125, ↓eX12_sign_126, ↓eX12_sign_128, ↓eX12_sign_131, ↓eX12_sign_133, ↓eX12_sign_135, ↓eX12_sign_138, ↓eX12_sign_139, ↓eX12_sign_141, ↓eX12_sign_144, ↓eX12_sign_146, ↓eX12_sign_148, ↓eX12_sign_149, ↓eX12_sign_151, ↓eX12_sign_152, ↓eX12_sign_153, ↓eX12_sign_154, ↓eX12_sign_157, ↓eX12_sign_159, ↓eX12_sign_162, ↓eX12_sign_163, ↓eX12_sign_166, ↓eX12_sign_167, hk35 h, ↓ft, q, Int.cast_ofNat_Int, kd_si, gr_si, ln_si, gi_same, gi_na, gi_ni, nl_i, nl_r, nl_j, nj_i, nj_l, nj_r, true_and, and_true, and_self, cs_0, cs_1, cs_2, cs_3, cs_4, ↓reduceIte, Nat.reduceLeDiff, Nat.reduceEqDiff, Nat.reduceAdd, Int.reduceLE, Int.reduceLT, Int.reduceEq, Int.reduceAdd, Int.reduceNeg, Int.reduceToNat, Int.toNat_natCast, ne_eq, not_false_eq_true, not_true_eq_false, or_true, true_or, or_false, false_or]
          simp only [↓cpX12_sign, ↓eX12_sign_0, ↓eX12_sign_1, ↓eX12_sign_3, ↓eX12_sign_6, ↓eX12_sign_7, ↓eX12_sign_10, ↓eX12_sign_11, ↓eX12_sign_13, ↓eX12_sign_16, ↓eX12_sign_18, ↓eX12_sign_21, ↓eX12_sign_22, ↓eX12_sign_24, ↓eX12_sign_27, ↓eX12_sign_29, ↓eX12_sign_32, ↓eX12_sign_33, ↓eX12_sign_35, ↓eX12_sign_38, ↓eX12_sign_40, ↓eX12_sign_43, ↓eX12_sign_44, ↓eX12_sign_46, ↓eX12_sign_47, ↓eX12_sign_49, ↓eX12_sign_51, ↓eX12_sign_54, ↓eX12_sign_56, ↓eX12_sign_58, ↓eX12_sign_61, ↓eX12_sign_62, ↓eX12_sign_64, ↓eX12_sign_67, ↓eX12_sign_68, ↓eX12_sign_70, ↓eX12_sign_73, ↓eX12_sign_74, ↓eX12_sign_76, ↓eX12_sign_79, ↓eX12_sign_81, ↓eX12_sign_83, ↓eX12_sign_86, ↓eX12_sign_87, ↓eX12_sign_89, ↓eX12_sign_92, ↓eX12_sign_94, ↓eX12_sign_96, ↓eX12_sign_99, ↓eX12_sign_100, ↓eX12_sign_102, ↓eX12_sign_105, ↓eX12_sign_107, ↓eX12_sign_109, ↓eX12_sign_112, ↓eX12_sign_113, ↓eX12_sign_115, ↓eX12_sign_118, ↓eX12_sign_120, ↓eX12_sign_122, ↓eX12_sign_125, ↓eX12_sign_126, ↓eX12_sign_128, ↓eX12_sign_131, ↓eX12_sign_133, ↓eX12_sign_135, ↓eX12_sign_138, ↓eX12_sign_139, ↓eX12_sign_141, ↓eX12_sign_144, ↓eX12_sign_146, ↓eX12_sign_148, ↓eX12_sign_149, ↓eX12_sign_151, ↓eX12_sign_152, ↓eX12_sign_153, ↓eX12_sign_154, ↓eX12_sign_157, ↓eX12_sign_159, ↓eX12_sign_162, ↓eX12_sign_163, ↓eX12_sign_166, ↓eX12_sign_167, hk35 h, ↓ft, q, q1, q2, q3, z1, z2, z3, z4, z5, z6, Int.cast_ofNat_Int, kd_si, gr_si, ln_si, gi_same, gi_na, gi_ni, nl_i, nl_r, nl_j, nj_i, nj_l, nj_r, true_and, and_true, and_self, cs_0, cs_1, cs_2, cs_3, cs_4, ↓reduceIte, Nat.reduceLeDiff, Nat.reduceEqDiff, Nat.reduceAdd, Int.reduceLE, Int.reduceLT, Int.reduceEq, Int.reduceAdd, Int.reduceNeg, Int.reduceToNat, Int.toNat_natCast, ne_eq, not_false_eq_true, not_true_eq_false, or_true, true_or, or_false, false_or]
  · have n1 : ¬ (e = 61 ∧ kp c ≠ 0) := fun w => q w.1
    unfold ysk
    rw [if_neg n1, if_neg n1]
    by_cases z1 : c = 59
    · subst z1; simp only [↓cpX12_sign, ↓eX12_sign_0, ↓eX12_sign_1, ↓eX12_sign_3, ↓eX12_sign_6, ↓eX12_sign_7, ↓eX12_sign_10, ↓eX12_sign_11, ↓eX12_sign_13, ↓eX12_sign_16, ↓eX12_sign_18, ↓eX12_sign_21, ↓eX12_sign_22, ↓eX12_sign_24, ↓eX12_sign_27, ↓eX12_sign_29, ↓eX12_sign_32, ↓eX12_sign_33, ↓eX12_sign_35, ↓eX12_sign_38, ↓eX12_sign_40, ↓eX12_sign_43, ↓eX12_sign_44, ↓eX12_sign_46, ↓eX12_sign_47, ↓eX12_sign_49, ↓eX12_sign_51, ↓eX12_sign_54, ↓eX12_sign_56, ↓eX12_sign_58, ↓eX12_sign_61, ↓eX12_sign_62, ↓eX12_sign_64, ↓eX12_sign_67, ↓eX12_sign_68, ↓eX12_sign_70, ↓eX12_sign_73, ↓eX12_sign_74, ↓eX12_sign_76, ↓eX12_sign_79, ↓eX12_sign_81, ↓eX12_sign_83, ↓eX12_sign_86, ↓eX12_sign_87, ↓eX12_sign_89, ↓eX12_sign_92, ↓eX12_sign_94, ↓eX12_sign_96, ↓eX12_sign_99, ↓eX12_sign_100, ↓eX12_sign_102, ↓eX12_sign_105, ↓eX12_sign_107, ↓eX12_sign_109, ↓eX12_sign_112, ↓eX12_sign_113, ↓eX12_sign_115, ↓eX12_sign_118, ↓eX12_sign_120, ↓eX12_sign_122, ↓eX12_sign_125, ↓eX12_sign_126, ↓eX12_sign_128, ↓eX12_sign_131, ↓eX12_sign_133, ↓eX12_sign_135, ↓eX12_sign_138, ↓eX12_sign_139, ↓eX12_sign_141, ↓eX12_sign_144, ↓eX12_sign_146, ↓eX12_sign_148, ↓eX12_sign_149, ↓eX12_sign_151, ↓eX12_sign_152, ↓eX12_sign_153, ↓eX12_sign_154, ↓eX12_sign_157, ↓eX12_sign_159, ↓eX12_sign_162, ↓eX12_sign_163, ↓eX12_sign_166, ↓eX12_sign_167, hk35 h, ↓ft, q, Int.cast_ofNat_Int, kd_si, gr_si, ln_si, gi_same, gi_na, gi_ni, nl_i, nl_r, nl_j, nj_i, nj_l, nj_r, true_and, and_true, and_self, cs_0, cs_1, cs_2, cs_3, cs_4, ↓reduceIte, Nat.reduceLeDiff, Nat.reduceEqDiff, Nat.reduceAdd, Int.reduceLE, Int.reduceLT, Int.reduceEq, Int.reduceAdd, Int.reduceNeg, Int.reduceToNat, Int.toNat_natCast, ne_eq, not_false_eq_true, not_true_eq_false, or_true, true_or, or_false, false_or]
    by_cases z2 : c = 40
    · subst z2; simp only [↓cpX12_sign, ↓eX12_sign_0, ↓eX12_sign_1, ↓eX12_sign_3, ↓eX12_sign_6, ↓eX12_sign_7, ↓eX12_sign_10, ↓eX12_sign_11, ↓eX12_sign_13, ↓eX12_sign_16, ↓eX12_sign_18, ↓eX12_sign_21, ↓eX12_sign_22, ↓eX12_sign_24, ↓eX12_sign_27, ↓eX12_sign_29, ↓eX12_sign_32, ↓eX12_sign_33, ↓eX12_sign_35, ↓eX12_sign_38, ↓eX12_sign_40, ↓eX12_sign_43, ↓eX12_sign_44, ↓eX12_sign_46, ↓eX12_sign_47, ↓eX12_sign_49, ↓eX12_sign_51, ↓eX12_sign_54, ↓eX12_sign_56, ↓eX12_sign_58, ↓eX12_sign_61, ↓eX12_sign_62, ↓eX12_sign_64, ↓eX12_sign_67, ↓eX12_sign_68, ↓eX12_sign_70, ↓eX12_sign_73, ↓eX12_sign_74, ↓eX12_sign_76, ↓eX12_sign_79, ↓eX12_sign_81, ↓eX12_sign_83, ↓eX12_sign_86, ↓eX12_sign_87, ↓eX12_sign_89, ↓eX12_sign_92, ↓eX12_sign_94, ↓eX12_sign_96, ↓eX12_sign_99, ↓eX12_sign_100, ↓eX12_sign_102, ↓eX12_sign_105, ↓eX12_sign_107, ↓eX12_sign_109, ↓eX12_sign_112, ↓eX12_sign_113, ↓eX12_sign_115, ↓eX12_sign_118, ↓eX12_sign_120, ↓eX12_sign_122, ↓eX12_sign_125, ↓eX12_sign_126, ↓eX12_sign_128, ↓eX12_sign_131, ↓eX12_sign_133, ↓eX12_sign_135, ↓eX12_sign_138, ↓eX12_sign_139, ↓eX12_sign_141, ↓eX12_sign_144, ↓eX12_sign_146, ↓eX12_sign_148, ↓eX12_sign_149, ↓eX12_sign_151, ↓eX12_sign_152, ↓eX12_sign_153, ↓eX12_sign_154, ↓eX12_sign_157, ↓eX12_sign_159, ↓eX12_sign_162, ↓eX12_sign_163, ↓eX12_sign_166, ↓eX12_sign_167, hk35 h, ↓ft, q, Int.cast_ofNat_Int, kd_si, gr_si, ln_si, gi_same, gi_na, gi_ni, nl_i, nl_r, nl_j, nj_i, nj_l, nj_r, true_and, and_true, and_self, cs_0, cs_1, cs_2, cs_3, cs_4, ↓reduceIte, Nat.reduceLeDiff, Nat.reduceEqDiff, Nat.reduceAdd, Int.reduceLE, Int.reduceLT, Int.reduceEq, Int.reduceAdd, Int.reduceNeg, Int.reduceToNat, Int.toNat_natCast, ne_eq, not_false_eq_true, not_true_eq_false, or_true, true_or, or_false, false_or]
    by_cases z3 : c = 41
    · subst z3; simp only [↓cpX12_sign, ↓eX12_sign_0, ↓eX12_sign_1, ↓eX12_sign_3, ↓eX12_sign_6, ↓eX12_sign_7, ↓eX12_sign_10, ↓eX12_sign_11, ↓eX12_sign_13, ↓eX12_sign_16, ↓eX12_sign_18, ↓eX12_sign_21, ↓eX12_sign_22, ↓eX12_sign_24, ↓eX12_sign_27, ↓eX12_sign_29, ↓eX12_sign_32, ↓eX12_sign_33, ↓eX12_sign_35, ↓eX12_sign_38, ↓eX12_sign_40, ↓eX12_sign_43, ↓eX12_sign_44, ↓eX12_sign_46, ↓eX12_sign_47, ↓eX12_sign_49, ↓eX12_sign_51, ↓eX12_sign_54, ↓eX12_sign_56, ↓eX12_sign_58, ↓eX12_sign_61, ↓eX12_sign_62, ↓eX12_sign_64, ↓eX12_sign_67, ↓eX12_sign_68, ↓eX12_sign_70, ↓eX12_sign_73, ↓eX12_sign_74, ↓eX12_sign_76, ↓eX12_sign_79, ↓eX12_sign_81, ↓eX12_sign_83, ↓eX12_sign_86, ↓eX12_sign_87, ↓eX12_sign_89, ↓eX12_sign_92, ↓eX12_sign_94, ↓eX12_sign_96, ↓eX12_sign_99, ↓eX12_sign_100, ↓eX12_sign_102, ↓eX12_sign_105, ↓eX12_sign_107, ↓eX12_sign_109, ↓eX12_sign_112, ↓eX12_sign_113, ↓eX12_sign_115, ↓eX12_sign_118, ↓eX12_sign_120, ↓eX12_sign_122, ↓eX12_sign_125, ↓eX12_sign_126, ↓eX12_sign_128, ↓eX12_sign_131, ↓eX12_sign_133, ↓eX12_sign_135, ↓eX12_sign_138, ↓eX12_sign_139, ↓eX12_sign_141, ↓eX12_sign_144, ↓eX12_sign_146, ↓eX12_sign_148, ↓eX12_sign_149, ↓eX12_sign_151, ↓eX12_sign_152, ↓eX12_sign_153, ↓eX12_sign_154, ↓eX12_sign_157, ↓eX12_sign_159, ↓eX12_sign_162, ↓eX12_sign_163, ↓eX12_sign_166, ↓eX12_sign_167, hk35 h, ↓ft, q, Int.cast_ofNat_Int, kd_si, gr_si, ln_si, gi_same, gi_na, gi_ni, nl_i, nl_r, nl_j, nj_i, nj_l, nj_r, true_and, and_true, and_self, cs_0, cs_1, cs_2, cs_3, cs_4, ↓reduceIte, Nat.reduceLeDiff, Nat.reduceEqDiff, Nat.reduceAdd, Int.reduceLE, Int.reduceLT, Int.reduceEq, Int.reduceAdd, Int.reduceNeg, Int.reduceToNat, Int.toNat_natCast, ne_eq, not_false_eq_true, not_true_eq_false, or_true, true_or, or_false, false_or]
    by_cases z4 : c = 43
    · subst z4; simp only [↓cpX12_sign, ↓eX12_sign_0, ↓eX12_sign_1, ↓eX12_sign_3, ↓eX12_sign_6, ↓eX12_sign_7, ↓eX12_sign_10, ↓eX12_sign_11, ↓eX12_sign_13, ↓eX12_sign_16, ↓eX12_sign_18, ↓eX12_sign_21, ↓eX12_sign_22, ↓eX12_sign_24, ↓eX12_sign_27, ↓eX12_sign_29, ↓eX12_sign_32, ↓eX12_sign_33, ↓eX12_sign_35, ↓eX12_sign_38, ↓eX12_sign_40, ↓eX12_sign_43, ↓eX12_sign_44, ↓eX12_sign_46, ↓eX12_sign_47, ↓eX12_sign_49, ↓eX12_sign_51, ↓eX12_sign_54, ↓eX12_sign_56, ↓eX12_sign_58, ↓eX12_sign_61, ↓eX12_sign_62, ↓eX12_sign_64, ↓eX12_sign_67, ↓eX12_sign_68, ↓eX12_sign_70, ↓eX12_sign_73, ↓eX12_sign_74, ↓eX12_sign_76, ↓eX12_sign_79, ↓eX12_sign_81, ↓eX12_sign_83, ↓eX12_sign_86, ↓eX12_sign_87, ↓eX12_sign_89, ↓eX12_sign_92, ↓eX12_sign_94, ↓eX12_sign_96, ↓eX12_sign_99, ↓eX12_sign_100, ↓eX12_sign_102, ↓eX12_sign_105, ↓eX12_sign_107, ↓eX12_sign_109, ↓eX12_sign_112, ↓eX12_sign_113, ↓eX12_sign_115, ↓eX12_sign_118, ↓eX12_sign_120, ↓eX12_sign_122, ↓eX12_sign_125, ↓eX12_sign_126, ↓eX12_sign_128, ↓eX12_sign_131, ↓eX12_sign_133, ↓eX12_sign_135, ↓eX12_sign_138, ↓eX12_sign_139, ↓eX12_sign_141, ↓eX12_sign_144, ↓eX12_sign_146, ↓eX12_sign_148, ↓eX12_sign_149, ↓eX12_sign_151, ↓eX12_sign_152, ↓eX12_sign_153, ↓eX12_sign_154, ↓eX12_sign_157, ↓eX12_sign_159, ↓eX12_sign_162, ↓eX12_sign_163, ↓eX12_sign_166, ↓eX12_sign_167, hk35 h, ↓ft, q, Int.cast_ofNat_Int, kd_si, gr_si, ln_si, gi_same, gi_na, gi_ni, nl_i, nl_r, nl_j, nj_i, nj_l, nj_r, true_and, and_true, and_self, cs_0, cs_1, cs_2, cs_3, cs_4, ↓reduceIte, Nat.reduceLeDiff, Nat.reduceEqDiff, Nat.reduceAdd, Int.reduceLE, Int.reduceLT, Int.reduceEq, Int.reduceAdd, Int.reduceNeg, Int.reduceToNat, Int.toNat_natCast, ne_eq, not_false_eq_true, not_true_eq_false, or_true, true_or, or_false, false_or]
    by_cases z5 : c = 45
    · subst z5; simp only [↓cpX12_sign, ↓eX12_sign_0, ↓eX12_sign_1, ↓eX12_sign_3, ↓eX12_sign_6, ↓eX12_sign_7, ↓eX12_sign_10, ↓eX12_sign_11, ↓eX12_sign_13, ↓eX12_sign_16, ↓eX12_sign_18, ↓eX12_sign_21, ↓eX12_sign_22, ↓eX12_sign_24, ↓eX12_sign_27, ↓eX12_sign_29, ↓eX12_sign_32, ↓eX12_sign_33, ↓eX12_sign_35, ↓eX12_sign_38, ↓eX12_sign_40, ↓eX12_sign_43, ↓eX12_sign_44, ↓eX12_sign_46, ↓eX12_sign_47, ↓eX12_sign_49, ↓eX12_sign_51, ↓eX12_sign_54, ↓eX12_sign_56, ↓eX12_sign_58, ↓eX12_sign_61, ↓eX12_sign_62, ↓eX12_sign_64, ↓eX12_sign_67, ↓eX12_sign_68, ↓eX12_sign_70, ↓eX12_sign_73, ↓eX12_sign_74, ↓eX12_sign_76, ↓eX12_sign_79, ↓eX12_sign_81, ↓eX12_sign_83, ↓eX12_sign_86, ↓eX12_sign_87, ↓eX12_sign_89, ↓eX12_sign_92, ↓eX12_sign_94, ↓eX12_sign_96, ↓eX12_sign_99, ↓eX12_sign_100, ↓eX12_sign_102, ↓eX12_sign_105, ↓eX12_sign_107, ↓eX12_sign_109, ↓eX12_sign_112, ↓eX12_sign_113, ↓eX12_sign_115, ↓eX12_sign_118, ↓eX12_sign_120, ↓eX12_sign_122, ↓eX12_sign_125, ↓eX12_sign_126, ↓eX12_sign_128, ↓eX12_sign_131, ↓eX12_sign_133, ↓eX12_sign_135, ↓eX12_sign_138, ↓eX12_sign_139, ↓eX12_sign_141, ↓eX12_sign_144, ↓eX12_sign_146, ↓eX12_sign_148, ↓eX12_sign_149, ↓eX12_sign_151, ↓eX12_sign_152, ↓eX12_sign_153, ↓eX12_sign_154, ↓eX12_sign_157, ↓eX12_sign_159, ↓eX12_sign_162, ↓eX12_sign_163, ↓eX12_sign_166, ↓eX12_sign_167, hk35 h, ↓ft, q, Int.cast_ofNat_Int, kd_si, gr_si, ln_si, gi_same, gi_na, gi_ni, nl_i, nl_r, nl_j, nj_i, nj_l, nj_r, true_and, and_true, and_self, cs_0, cs_1, cs_2, cs_3, cs_4, ↓reduceIte, Nat.reduceLeDiff, Nat.reduceEqDiff, Nat.reduceAdd, Int.reduceLE, Int.reduceLT, Int.reduceEq, Int.reduceAdd, Int.reduceNeg, Int.reduceToNat, Int.toNat_natCast, ne_eq, not_false_eq_true, not_true_eq_false, or_true, true_or, or_false, false_or]
    by_cases z6 : c = 42
    · subst z6; simp only [↓cpX12_sign, ↓eX12_sign_0, ↓eX12_sign_1, ↓eX12_sign_3, ↓eX12_sign_6, ↓eX12_sign_7, ↓eX12_sign_10, ↓eX12_sign_11, ↓eX12_sign_13, ↓eX12_sign_16, ↓eX12_sign_18, ↓eX12_sign_21, ↓eX12_sign_22, ↓eX12_sign_24, ↓eX12_sign_27, ↓eX12_sign_29, ↓eX12_sign_32, ↓eX12_sign_33, ↓eX12_sign_35, ↓eX12_sign_38, ↓eX12_sign_40, ↓eX12_sign_43, ↓eX12_sign_44, ↓eX12_sign_46, ↓eX12_sign_47, ↓eX12_sign_49, ↓eX12_sign_51, ↓eX12_sign_54, ↓eX12_sign_56, ↓eX12_sign_58, ↓eX12_sign_61, ↓eX12_sign_62, ↓eX12_sign_64, ↓eX12_sign_67, ↓eX12_sign_68, ↓eX12_sign_70, ↓eX12_sign_73, ↓eX12_sign_74, ↓eX12_sign_76, ↓eX12_sign_79, ↓eX12_sign_81, ↓eX12_sign_83, ↓eX12_sign_86, ↓eX12_sign_87, ↓eX12_sign_89, ↓eX12_sign_92, ↓eX12_sign_94, ↓eX12_sign_96, ↓eX12_sign_99, ↓eX12_sign_100, ↓eX12_sign_102, ↓eX12_sign_105, ↓eX12_sign_107, ↓eX12_sign_109, ↓eX12_sign_112, ↓eX12_sign_113, ↓eX12_sign_115, ↓eX12_sign_118, ↓eX12_sign_120, ↓eX12_sign_122, ↓eX12_sign_125, ↓eX12_sign_126, ↓eX12_sign_128, ↓eX12_sign_131, ↓eX12_sign_133, ↓eX12_sign_135, ↓eX12_sign_138, ↓eX12_sign_139, ↓eX12_sign_141, ↓eX12_sign_144, ↓eX12_sign_146, ↓eX12_sign_148, ↓eX12_sign_149, ↓eX12_sign_151, ↓eX12_sign_152, ↓eX12_sign_153, ↓eX12_sign_154, ↓eX12_sign_157, ↓eX12_sign_159, ↓eX12_sign_162, ↓eX12_sign_163, ↓eX12_sign_166, ↓eX12_sign_167, hk35 h, ↓ft, q, Int.cast_ofNat_Int, kd_si, gr_si, ln_si, gi_same, gi_na, gi_ni, nl_i, nl_r, nl_j, nj_i, nj_l, nj_r, true_and, and_true, and_self, cs_0, cs_1, cs_2, cs_3, cs_4, ↓reduceIte, Nat.reduceLeDiff, Nat.reduceEqDiff, Nat.reduceAdd, Int.reduceLE, Int.reduceLT, Int.reduceEq, Int.reduceAdd, Int.reduceNeg, Int.reduceToNat, Int.toNat_natCast, ne_eq, not_false_eq_true, not_true_eq_false, or_true, true_or, or_false, false_or]
    by_cases z7 : c = 60
    · subst z7; simp only [↓cpX12_sign, ↓eX12_sign_0, ↓eX12_sign_1, ↓eX12_sign_3, ↓eX12_sign_6, ↓eX12_sign_7, ↓eX12_sign_10, ↓eX12_sign_11, ↓eX12_sign_13, ↓eX12_sign_16, ↓eX12_sign_18, ↓eX12_sign_21, ↓eX12_sign_22, ↓eX12_sign_24, ↓eX12_sign_27, ↓eX12_sign_29, ↓eX12_sign_32, ↓eX12_sign_33, ↓eX12_sign_35, ↓eX12_sign_38, ↓eX12_sign_40, ↓eX12_sign_43, ↓eX12_sign_44, ↓eX12_sign_46, ↓eX12_sign_47, ↓eX12_sign_49, ↓eX12_sign_51, ↓eX12_sign_54, ↓eX12_sign_56, ↓eX12_sign_58, ↓eX12_sign_61, ↓eX12_sign_62, ↓eX12_sign_64, ↓eX12_sign_67, ↓eX12_sign_68, ↓eX12_sign_70, ↓eX12_sign_73, ↓eX12_sign_74, ↓eX12_sign_76, ↓eX12_sign_79, ↓eX12_sign_81, ↓eX12_sign_83, ↓eX12_sign_86, ↓eX12_sign_87, ↓eX12_sign_89, ↓eX12_sign_92, ↓eX12_sign_94, ↓eX12_sign_96, ↓eX12_sign_99, ↓eX12_sign_100, ↓eX12_sign_102, ↓eX12_sign_105, ↓eX12_sign_107, ↓eX12_sign_109, ↓eX12_sign_112, ↓eX12_sign_113, ↓eX12_sign_115, ↓eX12_sign_118, ↓eX12_sign_120, ↓eX12_sign_122, ↓eX12_sign_125, ↓eX12_sign_126, ↓eX12_sign_128, ↓eX12_sign_131, ↓eX12_sign_133, ↓eX12_sign_135, ↓eX12_sign_138, ↓eX12_sign_139, ↓eX12_sign_141, ↓eX12_sign_144, ↓eX12_sign_146, ↓eX12_sign_148, ↓eX12_sign_149, ↓eX12_sign_151, ↓eX12_sign_152, ↓eX12_sign_153, ↓eX12_sign_154, ↓eX12_sign_157, ↓eX12_sign_159, ↓eX12_sign_162, ↓eX12_sign_163, ↓eX12_sign_166, ↓eX12_sign_167, hk35 h, ↓ft, q, Int.cast_ofNat_Int, kd_si, gr_si, ln_si, gi_same, gi_na, gi_ni, nl_i, nl_r, nl_j, nj_i, nj_l, nj_r, true_and, and_true, and_self, cs_0, cs_1, cs_2, cs_3, cs_4, ↓reduceIte, Nat.reduceLeDiff, Nat.reduceEqDiff, Nat.reduceAdd, Int.reduceLE, Int.reduceLT, Int.reduceEq, Int.reduceAdd, Int.reduceNeg, Int.reduceToNat, Int.toNat_natCast, ne_eq, not_false_eq_true, not_true_eq_false, or_true, true_or, or_false, false_or]
    simp only [↓cpX12_sign, ↓eX12_sign_0, ↓eX12_sign_1, ↓eX12_sign_3, ↓eX12_sign_6, ↓eX12_sign_7, ↓eX12_sign_10, ↓eX12_sign_11, ↓eX12_sign_13, ↓eX12_sign_16, ↓eX12_sign_18, ↓eX12_sign_21, ↓eX12_sign_22, ↓eX12_sign_24, ↓eX12_sign_27, ↓eX12_sign_29, ↓eX12_sign_32, ↓eX12_sign_33, ↓eX12_sign_35, ↓eX12_sign_38, ↓eX12_sign_40, ↓eX12_sign_43, ↓eX12_sign_44, ↓eX12_sign_46, ↓eX12_sign_47, ↓eX12_sign_49, ↓eX12_sign_51, ↓eX12_sign_54, ↓eX12_sign_56, ↓eX12_sign_58, ↓eX12_sign_61, ↓eX12_sign_62, ↓eX12_sign_64, ↓eX12_sign_67, ↓eX12_sign_68, ↓eX12_sign_70, ↓eX12_sign_73, ↓eX12_sign_74, ↓eX12_sign_76, ↓eX12_sign_79, ↓eX12_sign_81, ↓eX12_sign_83, ↓eX12_sign_86, ↓eX12_sign_87, ↓eX12_sign_89, ↓eX12_sign_92, ↓eX12_sign_94, ↓eX12_sign_96, ↓eX12_sign_99, ↓eX12_sign_100, ↓eX12_sign_102, ↓eX12_sign_105, ↓eX12_sign_107, ↓eX12_sign_109, ↓eX12_sign_112, ↓eX12_sign_113, ↓eX12_sign_115, ↓eX12_sign_118, ↓eX12_sign_120, ↓eX12_sign_122, ↓eX12_sign_125, ↓eX12_sign_126, ↓eX12_sign_128, ↓eX12_sign_131, ↓eX12_sign_133, ↓eX12_sign_135, ↓eX12_sign_138, ↓eX12_sign_139, ↓eX12_sign_141, ↓eX12_sign_144, ↓eX12_sign_146, ↓eX12_sign_148, ↓eX12_sign_149, ↓eX12_sign_151, ↓eX12_sign_152, ↓eX12_sign_153, ↓eX12_sign_154, ↓eX12_sign_157, ↓eX12_sign_159, ↓eX12_sign_162, ↓eX12_sign_163, ↓eX12_sign_166, ↓eX12_sign_167, hk35 h, ↓ft, q, z1, z2, z3, z4, z5, z6, z7, Int.cast_ofNat_Int, kd_si, gr_si, ln_si, gi_same, gi_na, gi_ni, nl_i, nl_r, nl_j, nj_i, nj_l, nj_r, true_and, and_true, and_self, cs_0, cs_1, cs_2, cs_3, cs_4, ↓reduceIte, Nat.reduceLeDiff, Nat.reduceEqDiff, Nat.reduceAdd, Int.reduceLE, Int.reduceLT, Int.reduceEq, Int.reduceAdd, Int.reduceNeg, Int.reduceToNat, Int.toNat_natCast, ne_eq, not_false_eq_true, not_true_eq_false, or_true, true_or, or_false, false_or]
theorem ysk_KR {c d : Int} : KR (if d = 61 ∧ kp c ≠ 0 then kp c else ks c) (ysk c d) := by
  unfold ysk
  by_cases q : d = 61 ∧ kp c ≠ 0
  · rw [if_pos q, if_pos q]
    obtain ⟨-, q⟩ := q
    unfold kp at q ⊢
    by_cases z1 : c = 33
    · subst z1; exact Or.inr (by decide)
    by_cases z2 : c = 60
    · subst z2; exact Or.inr (by decide)
    by_cases z3 : c = 61
    · subst z3; exact Or.inr (by decide)
    exact absurd (by rw [if_neg z1, if_neg z2, if_neg z3]) q
  · rw [if_neg q, if_neg q]
    unfold ks
    by_cases z1 : c = 59
    · subst z1; exact Or.inr (by decide)
    by_cases z2 : c = 40
    · subst z2; exact Or.inr (by decide)
    by_cases z3 : c = 41
    · subst z3; exact Or.inr (by decide)
    by_cases z4 : c = 43
    · subst z4; exact Or.inr (by decide)
    by_cases z5 : c = 45
    · subst z5; exact Or.inr (by decide)
    by_cases z6 : c = 42
    · subst z6; exact Or.inr (by decide)
    by_cases z7 : c = 60
    · subst z7; exact Or.inr (by decide)
    simp only [z1, z2, z3, z4, z5, z6, z7, ↓reduceIte]
    exact Or.inl ⟨rfl, Or.inr rfl⟩
/-! ===== the places of tokens ===== -/
def bgE (B : Nat → Int) (sz : Nat) : Nat → Nat
  | 0 => 0
  | k + 1 => if skp B (sz - bgE B sz k) (bgE B sz k) < sz then tkE B sz (skp B (sz - bgE B sz k) (bgE B sz k)) else sz
def bg (B : Nat → Int) (sz k : Nat) : Nat := skp B (sz - bgE B sz k) (bgE B sz k)
theorem bgE_le (B : Nat → Int) (sz : Nat) : ∀ k, bgE B sz k ≤ sz := by
  intro k
  induction k with
  | zero => exact Nat.zero_le _
  | succ k ih =>
    rw [bgE]
    split
    · rename_i q
      exact (tkE_lt q).2
    · exact Nat.le_refl _
theorem bg_le (B : Nat → Int) (sz k : Nat) : bg B sz k ≤ sz := by
  have := skp_le B (sz - bgE B sz k) (bgE B sz k)
  have := bgE_le B sz k
  unfold bg
  omega
theorem bgE_s {B : Nat → Int} {sz k : Nat} (h : bg B sz k < sz) : bgE B sz (k + 1) = tkE B sz (bg B sz k) := by
  unfold bg at h ⊢
  rw [bgE, if_pos h]
theorem bg_s {B : Nat → Int} {sz k : Nat} (h : bg B sz k < sz) : bg B sz (k + 1) = skp B (sz - tkE B sz (bg B sz k)) (tkE B sz (bg B sz k)) := by
  rw [bg, bgE_s h]
/-- m tokens of the text lie in the reference's arrays -/
def TKS (B : Nat → Int) (sz : Nat) (N : mM) (m : Nat) : Prop := ∀ k, k < m → bg B sz k < sz ∧ KR (tkK B sz (bg B sz k)) (gi N 38 k) ∧ gi N 39 k = (bg B sz k : Nat) ∧ (tkK B sz (bg B sz k) = 1 → gi N 40 k = tkV B sz (bg B sz k))
def cutS (a i : Nat) : Prop := (38 ≤ a ∧ a ≤ 41) ∨ (a = 35 ∧ i = 10)
theorem tokM_YF {M N : mM} {m : Nat} {k p v x : Int} (h : YF cutS M N) : YF cutS M (tokM N m k p v x) := YF_si (Or.inr ⟨rfl, rfl⟩) (YF_si (Or.inl ⟨by decide, by decide⟩) (YF_si (Or.inl ⟨by decide, by decide⟩) (YF_si (Or.inl ⟨by decide, by decide⟩) (YF_si (Or.inl ⟨by decide, by decide⟩) h))))
theorem tokM_10 {N : mM} {m : Nat} {k p v x : Int} : gi (tokM N m k p v x) 35 10 = (m + 1 : Nat) := gi_same _ _ _ _
theorem tokM_TKS {B : Nat → Int} {sz : Nat} {N : mM} {m : Nat} {k p v x : Int} (h : TKS B sz N m) (h1 : bg B sz m < sz) (h2 : KR (tkK B sz (bg B sz m)) k) (h3 : p = (bg B sz m : Nat)) (h4 : tkK B sz (bg B sz m) = 1 → v = tkV B sz (bg B sz m)) : TKS B sz (tokM N m k p v x) (m + 1) := by
  intro j hj
  unfold tokM
  by_cases z : j = m
  · subst z
    simp only [gi_same, gi_na, ne_eq, Nat.reduceEqDiff, not_false_eq_true]
    exact ⟨h1, h2, h3, h4⟩
  · simp only [gi_ni z, gi_na, ne_eq, Nat.reduceEqDiff, not_false_eq_true]
    exact h j (by omega)
theorem tokM_end {N : mM} {m : Nat} {k p v x : Int} : gi (tokM N m k p v x) 38 m = k ∧ gi (tokM N m k p v x) 39 m = p := by
  unfold tokM
  simp only [gi_same, gi_na, ne_eq, Nat.reduceEqDiff, not_false_eq_true, and_self]
theorem tokM_old {B : Nat → Int} {sz : Nat} {N : mM} {m : Nat} {k p v x : Int} (h : TKS B sz N m) : TKS B sz (tokM N m k p v x) m := by
  intro j hj
  unfold tokM
  simp only [gi_ni (show j ≠ m by omega), gi_na, ne_eq, Nat.reduceEqDiff, not_false_eq_true]
  exact h j hj
