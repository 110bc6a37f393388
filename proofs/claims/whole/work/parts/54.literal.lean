/-! ===== the reference reads a literal ===== -/
section EXP
variable {d : Nat} {Q : mV → mM → Prop} {B : Nat → Int} {sz b : Nat} {T N : mM} {st k nt R bs lo : Nat} {cm : Bool} {am wp ck : Int} {me : Nat → Env → Int} {mt : Nat → Int} {A O L : Env → Int}
theorem y_expression (hT : TKB B sz T) (hb : b + 401 ≤ 1000) (h : SH N) (h38 : ∀ a i, 38 ≤ a → a ≤ 40 → gi N a i = gi T a i) (hk : ok B sz k) (hs : sg B sz k = (st, 0, cm, am, wp, nt, R, me, mt, bs, A, O, ck, L, [], fun _ => [])) (hst : st = 4 ∨ (st = 3 ∧ (bg B sz k < sz → tk B sz k ≠ 9 ∧ tk B sz k ≠ 10))) (h11 : gi N 35 11 = k) (h13 : gi N 35 13 = 0) (h12 : gi N 35 12 = 0) (h29 : gi N 35 29 = lo) (hlo : lo ≤ b + k)
    (hQ1 : ∀ k' nt w V P, k < k' → ok B sz k' → sg B sz k' = (6, 0, cm, am, wp, nt, R, me, mt, bs, A, O, ck, L, w, V) → (bg B sz k' < sz → ¬ (17 ≤ tk B sz k' ∧ tk B sz k' ≤ 19)) → YF (exS lo (b + 401)) N P → gi P 35 11 = k' → gi P 35 13 = 0 → gi P 35 12 = 0 → CM P lo [] (fun e => popV w (V e)) (b + k') → Q vj P)
    (hQ2 : ∀ k' P, FL B sz k' P → YF (exS lo (b + 401)) N P → Q vj P) : CP (mc (d + 4)) 145 [vr (some 35)] N Q := by
  have e33 : exS lo (b + 401) 35 33 := Or.inl ⟨rfl, Or.inr (Or.inr rfl)⟩
  have y0 : YF (exS lo (b + 401)) N (si N 35 33 0) := YF_si e33 YF_refl
  have H := (y_ex (d := d) (Q := Q) (B := B) (sz := sz) (lo := lo) (b := b) (k0 := k) (T := T) (N0 := N) (R := R) (bs := bs) (cm := cm) (am := am) (wp := wp) (ck := ck) (me := me) (mt := mt) (A := A) (O := O) (L := L) hT hb h h38 hQ1 hQ2 401).1 k st 0 nt [] (fun _ => []) (si N 35 33 0) vj vj (by omega) (Nat.le_refl k) hk hs hst y0 ⟨by rw [gi_ni (by decide)]; exact h11, by rw [gi_ni (by decide)]; exact h13, by rw [gi_ni (by decide)]; exact h12, ⟨gi_same _ _ _ _, trivial, lo, by rw [gi_ni (by decide)]; exact h29, Nat.le_refl _, by simp only [List.length_nil]; omega, by rw [Nat.sub_self]; intro j hj; exact absurd hj (Nat.not_lt_zero j), fun e => by rw [Nat.sub_self]; rfl⟩⟩ nlJ
  simp only [↓cpX12_expression, ↓eX12_expression_0, ↓eX12_expression_1, ↓eX12_expression_2, ↓eX12_expression_5, ↓eX12_expression_6, ↓eX12_expression_9, ↓eX12_expression_10, ↓eX12_expression_11, hk35 h, h12, Int.cast_ofNat_Int, kd_si, gr_si, ln_si, gi_same, gi_na, gi_ni, nl_i, nl_r, nl_j, nj_i, nj_l, nj_r, true_and, and_true, and_self, cs_0, cs_1, cs_2, cs_3, cs_4, ↓reduceIte, Nat.reduceLeDiff, Nat.reduceEqDiff, Nat.reduceAdd, Int.reduceLE, Int.reduceLT, Int.reduceEq, Int.reduceAdd, Int.reduceNeg, Int.reduceToNat, Int.toNat_natCast, ne_eq, not_false_eq_true, not_true_eq_false, or_true, true_or, or_false, false_or]
  exact H
theorem y_exprD (h : SH N) (h13 : 0 < gi N 35 13) : CP (mc (d + 1)) 145 [vr (some 35)] N Q = Q vj (si N 35 33 0) := by
  have e0 : (gi N 35 13 = 0) = False := eq_false (by omega)
  simp only [↓cpX12_expression, ↓eX12_expression_0, ↓eX12_expression_1, ↓eX12_expression_2, ↓eX12_expression_5, ↓eX12_expression_6, ↓eX12_expression_9, ↓eX12_expression_10, ↓eX12_expression_11, hk35 h, Int.cast_ofNat_Int, kd_si, gr_si, ln_si, gi_same, gi_na, gi_ni, nl_i, nl_r, nl_j, nj_i, nj_l, nj_r, true_and, and_true, and_self, cs_0, cs_1, cs_2, cs_3, cs_4, ↓reduceIte, Nat.reduceLeDiff, Nat.reduceEqDiff, Nat.reduceAdd, Int.reduceLE, Int.reduceLT, Int.reduceEq, Int.reduceAdd, Int.reduceNeg, Int.reduceToNat, Int.toNat_natCast, ne_eq, not_false_eq_true, not_true_eq_false, or_true, true_or, or_false, false_or]
  rw [eX12_expression_12]
  simp only [↓eX12_expression_13, ↓eX12_expression_16, ↓eX12_expression_17, ↓eX12_expression_20, ↓eX12_expression_360, hk35 h, e0, Int.cast_ofNat_Int, kd_si, gr_si, ln_si, gi_same, gi_na, gi_ni, nl_i, nl_r, nl_j, nj_i, nj_l, nj_r, true_and, and_true, and_self, cs_0, cs_1, cs_2, cs_3, cs_4, ↓reduceIte, Nat.reduceLeDiff, Nat.reduceEqDiff, Nat.reduceAdd, Int.reduceLE, Int.reduceLT, Int.reduceEq, Int.reduceAdd, Int.reduceNeg, Int.reduceToNat, Int.toNat_natCast, ne_eq, not_false_eq_true, not_true_eq_false, or_true, true_or, or_false, false_or]
theorem y_nextD (h : SH N) (h11 : gi N 35 11 = k) (hk : k ≤ 400) (h13 : 0 < gi N 35 13) : CP (mc (d + 2)) 137 [vr (some 35)] N Q = Q vj (if k = 400 then N else si N 35 11 (k + 1 : Nat)) := by
  by_cases z : k = 400
  · subst z
    have ff := fun (Q : mV → mM → Prop) => y_failN (d := d) (N := N) (Q := Q) (c := 2) h h13
    have h11' : gi N 35 11 = 400 := h11
    rw [if_pos rfl]
    simp only [↓cpX12_next, ↓eX12_next_0, ↓eX12_next_1, ↓eX12_next_4, ↓eX12_next_7, ↓eX12_next_10, ↓eX12_next_11, ↓eX12_next_12, ↓eX12_next_15, ↓eX12_next_18, ↓eX12_next_19, ↓eX12_next_20, ↓eX12_next_23, ↓eX12_next_24, ↓eX12_next_25, ↓eX12_next_28, hk35 h, h11', ↓ff, Int.cast_ofNat_Int, kd_si, gr_si, ln_si, gi_same, gi_na, gi_ni, nl_i, nl_r, nl_j, nj_i, nj_l, nj_r, true_and, and_true, and_self, cs_0, cs_1, cs_2, cs_3, cs_4, ↓reduceIte, Nat.reduceLeDiff, Nat.reduceEqDiff, Nat.reduceAdd, Int.reduceLE, Int.reduceLT, Int.reduceEq, Int.reduceAdd, Int.reduceNeg, Int.reduceToNat, Int.toNat_natCast, ne_eq, not_false_eq_true, not_true_eq_false, or_true, true_or, or_false, false_or]
  · rw [if_neg z]
    exact y_nextG h h11 (by omega)
end EXP
/-- values for which live and first are 0 or 1 -/
def EV (e : Env) : Prop := (e 7 = 0 ∨ e 7 = 1) ∧ (e 8 = 0 ∨ e 8 = 1)
/-- literal i of side sd, its words below c -/
def VL (N : mM) (sd c i : Nat) : Prop := (gi N 47 (400 * sd + i) = 4 ∨ gi N 47 (400 * sd + i) = 5) ∨ ((0 ≤ gi N 47 (400 * sd + i) ∧ gi N 47 (400 * sd + i) ≤ 3) ∧ ∃ lo mid hi : Nat, gi N 48 (400 * sd + i) = lo ∧ gi N 49 (400 * sd + i) = mid ∧ gi N 50 (400 * sd + i) = hi ∧ 500 * sd ≤ lo ∧ lo ≤ mid ∧ mid ≤ hi ∧ hi ≤ 500 * sd + c ∧ gM N lo (mid - lo) ∧ gM N mid (hi - mid) ∧ (∀ e, (rM N lo (mid - lo) e).length = 1) ∧ ∀ e, (rM N mid (hi - mid) e).length = 1)
def xl (N : mM) (sd i : Nat) (e : Env) : Int := if gi N 47 (400 * sd + i) = 4 then e 7 else if gi N 47 (400 * sd + i) = 5 then e 8 else jn (13 + gi N 47 (400 * sd + i)) ((rM N (gi N 48 (400 * sd + i)).toNat ((gi N 49 (400 * sd + i)).toNat - (gi N 48 (400 * sd + i)).toNat) e).headD 0) ((rM N (gi N 49 (400 * sd + i)).toNat ((gi N 50 (400 * sd + i)).toNat - (gi N 49 (400 * sd + i)).toNat) e).headD 0)
theorem VL_f {M N : mM} {sd c c' i : Nat} (h : ∀ a, 47 ≤ a → a ≤ 51 → gi N a (400 * sd + i) = gi M a (400 * sd + i)) (hc : ∀ j, j < 500 * sd + c → gi N 52 j = gi M 52 j ∧ gi N 53 j = gi M 53 j) (hcc : c ≤ c') (hv : VL M sd c i) : VL N sd c' i ∧ ∀ e, xl N sd i e = xl M sd i e := by
  have e47 := h 47 (by decide) (by decide)
  have e48 := h 48 (by decide) (by decide)
  have e49 := h 49 (by decide) (by decide)
  have e50 := h 50 (by decide) (by decide)
  unfold VL xl
  rw [e47, e48, e49, e50]
  rcases hv with hv | ⟨hv, lo, mid, hi, v1, v2, v3, v4, v5, v6, v7, v8, v9, v10, v11⟩
  · refine ⟨Or.inl hv, fun e => ?_⟩
    rcases hv with hv | hv
    · rw [if_pos hv, if_pos hv]
    · rw [if_neg (by omega), if_pos hv, if_neg (by omega), if_pos hv]
  · have k1 : ∀ j, j < mid - lo → gi N 52 (lo + j) = gi M 52 (lo + j) ∧ gi N 53 (lo + j) = gi M 53 (lo + j) := fun j hj => hc _ (by omega)
    have k2 : ∀ j, j < hi - mid → gi N 52 (mid + j) = gi M 52 (mid + j) ∧ gi N 53 (mid + j) = gi M 53 (mid + j) := fun j hj => hc _ (by omega)
    refine ⟨Or.inr ⟨hv, lo, mid, hi, v1, v2, v3, v4, v5, v6, by omega, gM_eq k1 v8, gM_eq k2 v9, fun e => by rw [rM_eq _ k1 e]; exact v10 e, fun e => by rw [rM_eq _ k2 e]; exact v11 e⟩, fun e => ?_⟩
    rw [v1, v2, v3]
    simp only [Int.toNat_natCast]
    rw [rM_eq _ k1 e, rM_eq _ k2 e]
theorem jn_01 {k a b : Int} (h1 : 13 ≤ k) (h2 : k ≤ 16) : jn k a b = 0 ∨ jn k a b = 1 := by
  unfold jn
  rw [if_neg (by omega), if_neg (by omega)]
  rcases (show k = 13 ∨ k = 14 ∨ k = 15 ∨ k = 16 by omega) with rfl | rfl | rfl | rfl
  · rw [if_pos rfl]; split <;> omega
  · rw [if_neg (by decide), if_pos rfl]; split <;> omega
  · rw [if_neg (by decide), if_neg (by decide), if_pos rfl]; split <;> omega
  · rw [if_neg (by decide), if_neg (by decide), if_neg (by decide), if_pos rfl]; split <;> omega
/-- what reading rules of side sd changes -/
def rmS (sd a i : Nat) : Prop := (a = 35 ∧ ((11 ≤ i ∧ i ≤ 16) ∨ i = 29 ∨ i = 33)) ∨ (a = 43 ∧ i = sd) ∨ (a = 44 ∧ 20 * sd ≤ i ∧ i < 20 * sd + 20) ∨ (a = 45 ∧ 21 * sd ≤ i ∧ i ≤ 21 * sd + 20) ∨ (a = 46 ∧ i = sd) ∨ (47 ≤ a ∧ a ≤ 51 ∧ 400 * sd ≤ i ∧ i < 400 * sd + 400) ∨ ((a = 52 ∨ a = 53) ∧ 500 * sd ≤ i ∧ i < 500 * sd + 401) ∨ a = 54
theorem ex_rm {sd c0 : Nat} {M N : mM} (h : YF (exS c0 (500 * sd + 401)) M N) (hc : 500 * sd ≤ c0) : YF (rmS sd) M N := YF_mono (fun a i z => by unfold exS at z; unfold rmS; omega) h
/-- a literal is kept -/
def ltM (N : mM) (sd n : Nat) (so l r c : Int) (o : Int) : mM := si (si (si (si (si (si N 47 (400 * sd + n) so) 48 (400 * sd + n) l) 49 (400 * sd + n) r) 50 (400 * sd + n) c) 51 (400 * sd + n) o) 46 sd (n + 1 : Nat)
section LIT
variable {d : Nat} {Q : mV → mM → Prop} {B : Nat → Int} {sz sd : Nat} {T N : mM} {k nt R bs c n : Nat} {am wp ck or : Int} {me : Nat → Env → Int} {mt : Nat → Int} {A O L : Env → Int}
theorem y_lit_keep {P : mM} {so l r cc : Int} (h : SH P) (hsd : sd ≤ 1) (h13 : gi P 35 13 = 0) (h19 : gi P 35 19 = sd) (h46 : gi P 46 sd = n) (hn : n < 400) (ho : or = 0 ∨ or = 1) (h29 : gi P 35 29 = cc) : WP (mc (d + 1)) tX12_literal 115 [vr (some 35), vi or, vi l, vi r, vi so, vj] [] P Q = Q vj (ltM P sd n so l r cc or) := by
  have e0 : (0 ≤ (sd : Int)) = True := eq_true (by omega)
  have e1 : ((sd : Int) < 2) = True := eq_true (by omega)
  have w1 : wr (400 * (sd : Int)) = ((400 * sd : Nat) : Int) := by rw [wr_id (by omega) (by omega)]; omega
  have w2 : wr (((400 * sd : Nat) : Int) + (n : Int)) = ((400 * sd + n : Nat) : Int) := by rw [wr_id (by omega) (by omega)]; omega
  have w3 : wr ((n : Int) + 1) = ((n + 1 : Nat) : Int) := by rw [wr_id (by omega) (by omega)]; omega
  have l0 : (0 ≤ ((400 * sd + n : Nat) : Int)) = True := eq_true (by omega)
  have l1 : (((400 * sd + n : Nat) : Int) < 800) = True := eq_true (by omega)
  simp only [↓eX12_literal_115, ↓eX12_literal_116, ↓eX12_literal_119, ↓eX12_literal_122, ↓eX12_literal_123, ↓eX12_literal_126, ↓eX12_literal_127, ↓eX12_literal_130, ↓eX12_literal_131, ↓eX12_literal_132, ↓eX12_literal_135, ↓eX12_literal_136, ↓eX12_literal_139, ↓eX12_literal_140, ↓eX12_literal_141, ↓eX12_literal_143, ↓eX12_literal_144, ↓eX12_literal_147, ↓eX12_literal_149, ↓eX12_literal_151, ↓eX12_literal_152, ↓eX12_literal_153, ↓eX12_literal_156, ↓eX12_literal_158, ↓eX12_literal_159, ↓eX12_literal_160, ↓eX12_literal_161, ↓eX12_literal_164, ↓eX12_literal_166, ↓eX12_literal_167, ↓eX12_literal_168, ↓eX12_literal_169, ↓eX12_literal_172, ↓eX12_literal_174, ↓eX12_literal_175, ↓eX12_literal_178, ↓eX12_literal_179, ↓eX12_literal_180, ↓eX12_literal_183, ↓eX12_literal_185, ↓eX12_literal_186, ↓eX12_literal_187, ↓eX12_literal_188, ↓eX12_literal_191, ↓eX12_literal_192, ↓eX12_literal_195, ↓eX12_literal_196, ↓eX12_literal_197, ↓eX12_literal_198, ↓eX12_literal_199, ↓eX12_literal_200, hk35 h, hr35_23 h, hr35_24 h, hr35_25 h, hr35_26 h, hr35_27 h, hr35_28 h, hk46 h, hl46 h, hk47 h, hl47 h, hk48 h, hl48 h, hk49 h, hl49 h, hk50 h, hl50 h, hk51 h, hl51 h, h13, h19, h46, h29, e0, e1, w1, w2, w3, l0, l1, ho, Int.cast_ofNat_Int, kd_si, gr_si, ln_si, gi_same, gi_na, gi_ni, nl_i, nl_r, nl_j, nj_i, nj_l, nj_r, true_and, and_true, and_self, cs_0, cs_1, cs_2, cs_3, cs_4, ↓reduceIte, Nat.reduceLeDiff, Nat.reduceEqDiff, Nat.reduceAdd, Int.reduceLE, Int.reduceLT, Int.reduceEq, Int.reduceAdd, Int.reduceNeg, Int.reduceToNat, Int.toNat_natCast, ne_eq, not_false_eq_true, not_true_eq_false, or_true, true_or, or_false, false_or]
  rfl
end LIT
