/-! ===== the reference reads: small steps ===== -/
theorem y_is {d : Nat} {N : mM} {Q : mV → mM → Prop} {k : Nat} {c : Int} (h : SH N) (ht : gi N 35 11 = k) (hk : k ≤ 400) : CP (mc (d + 1)) 134 [vr (some 35), vi c] N Q = if gi N 35 13 = 0 ∧ gi N 38 k = c then Q (vi 1) N else Q (vi 0) N := by
  have e3 : (0 ≤ (k : Int)) = True := eq_true (by omega)
  have e4 : ((k : Int) < 403) = True := eq_true (by omega)
  by_cases z : gi N 35 13 = 0
  · by_cases y : gi N 38 k = c
    · rw [if_pos ⟨z, y⟩]
      simp only [↓cpX12_is, ↓eX12_is_0, ↓eX12_is_1, ↓eX12_is_4, ↓eX12_is_7, ↓eX12_is_8, ↓eX12_is_11, ↓eX12_is_12, ↓eX12_is_15, ↓eX12_is_16, ↓eX12_is_17, ↓eX12_is_20, ↓eX12_is_21, ↓eX12_is_24, ↓eX12_is_25, hk35 h, hr35_5 h, hk38 h, hl38 h, ht, e3, e4, z, y, Int.cast_ofNat_Int, kd_si, gr_si, ln_si, gi_same, gi_na, gi_ni, nl_i, nl_r, nl_j, nj_i, nj_l, nj_r, true_and, and_true, and_self, cs_0, cs_1, cs_2, cs_3, cs_4, ↓reduceIte, Nat.reduceLeDiff, Nat.reduceEqDiff, Nat.reduceAdd, Int.reduceLE, Int.reduceLT, Int.reduceEq, Int.reduceAdd, Int.reduceNeg, Int.reduceToNat, Int.toNat_natCast, ne_eq, not_false_eq_true, not_true_eq_false, or_true, true_or, or_false, false_or]
    · rw [if_neg (fun w => y w.2)]
      simp only [↓cpX12_is, ↓eX12_is_0, ↓eX12_is_1, ↓eX12_is_4, ↓eX12_is_7, ↓eX12_is_8, ↓eX12_is_11, ↓eX12_is_12, ↓eX12_is_15, ↓eX12_is_16, ↓eX12_is_17, ↓eX12_is_20, ↓eX12_is_21, ↓eX12_is_24, ↓eX12_is_25, hk35 h, hr35_5 h, hk38 h, hl38 h, ht, e3, e4, z, y, Int.cast_ofNat_Int, kd_si, gr_si, ln_si, gi_same, gi_na, gi_ni, nl_i, nl_r, nl_j, nj_i, nj_l, nj_r, true_and, and_true, and_self, cs_0, cs_1, cs_2, cs_3, cs_4, ↓reduceIte, Nat.reduceLeDiff, Nat.reduceEqDiff, Nat.reduceAdd, Int.reduceLE, Int.reduceLT, Int.reduceEq, Int.reduceAdd, Int.reduceNeg, Int.reduceToNat, Int.toNat_natCast, ne_eq, not_false_eq_true, not_true_eq_false, or_true, true_or, or_false, false_or]
  · rw [if_neg (fun w => z w.1)]
    simp only [↓cpX12_is, ↓eX12_is_0, ↓eX12_is_1, ↓eX12_is_4, ↓eX12_is_7, ↓eX12_is_8, ↓eX12_is_11, ↓eX12_is_12, ↓eX12_is_15, ↓eX12_is_16, ↓eX12_is_17, ↓eX12_is_20, ↓eX12_is_21, ↓eX12_is_24, ↓eX12_is_25, hk35 h, z, Int.cast_ofNat_Int, kd_si, gr_si, ln_si, gi_same, gi_na, gi_ni, nl_i, nl_r, nl_j, nj_i, nj_l, nj_r, true_and, and_true, and_self, cs_0, cs_1, cs_2, cs_3, cs_4, ↓reduceIte, Nat.reduceLeDiff, Nat.reduceEqDiff, Nat.reduceAdd, Int.reduceLE, Int.reduceLT, Int.reduceEq, Int.reduceAdd, Int.reduceNeg, Int.reduceToNat, Int.toNat_natCast, ne_eq, not_false_eq_true, not_true_eq_false, or_true, true_or, or_false, false_or]
theorem y_fail {d : Nat} {N : mM} {Q : mV → mM → Prop} {k : Nat} {c : Int} (h : SH N) (ht : gi N 35 11 = k) (hk : k ≤ 400) (h0 : gi N 35 13 = 0) : CP (mc (d + 1)) 135 [vr (some 35), vi c] N Q = Q vj (si (si N 35 13 c) 35 14 (gi N 39 k)) := by
  have e3 : (0 ≤ (k : Int)) = True := eq_true (by omega)
  have e4 : ((k : Int) < 403) = True := eq_true (by omega)
  simp only [↓cpX12_fail, ↓eX12_fail_0, ↓eX12_fail_1, ↓eX12_fail_4, ↓eX12_fail_7, ↓eX12_fail_8, ↓eX12_fail_9, ↓eX12_fail_10, ↓eX12_fail_13, ↓eX12_fail_14, ↓eX12_fail_15, ↓eX12_fail_18, ↓eX12_fail_19, ↓eX12_fail_22, ↓eX12_fail_23, ↓eX12_fail_26, hk35 h, hr35_6 h, hk39 h, hl39 h, ht, h0, e3, e4, Int.cast_ofNat_Int, kd_si, gr_si, ln_si, gi_same, gi_na, gi_ni, nl_i, nl_r, nl_j, nj_i, nj_l, nj_r, true_and, and_true, and_self, cs_0, cs_1, cs_2, cs_3, cs_4, ↓reduceIte, Nat.reduceLeDiff, Nat.reduceEqDiff, Nat.reduceAdd, Int.reduceLE, Int.reduceLT, Int.reduceEq, Int.reduceAdd, Int.reduceNeg, Int.reduceToNat, Int.toNat_natCast, ne_eq, not_false_eq_true, not_true_eq_false, or_true, true_or, or_false, false_or]
theorem y_failN {d : Nat} {N : mM} {Q : mV → mM → Prop} {c : Int} (h : SH N) (h0 : 0 < gi N 35 13) : CP (mc (d + 1)) 135 [vr (some 35), vi c] N Q = Q vj N := by
  have e3 : (gi N 35 13 ≤ 0) = False := eq_false (by omega)
  simp only [↓cpX12_fail, ↓eX12_fail_0, ↓eX12_fail_1, ↓eX12_fail_4, ↓eX12_fail_7, ↓eX12_fail_8, ↓eX12_fail_9, ↓eX12_fail_10, ↓eX12_fail_13, ↓eX12_fail_14, ↓eX12_fail_15, ↓eX12_fail_18, ↓eX12_fail_19, ↓eX12_fail_22, ↓eX12_fail_23, ↓eX12_fail_26, hk35 h, e3, Int.cast_ofNat_Int, kd_si, gr_si, ln_si, gi_same, gi_na, gi_ni, nl_i, nl_r, nl_j, nj_i, nj_l, nj_r, true_and, and_true, and_self, cs_0, cs_1, cs_2, cs_3, cs_4, ↓reduceIte, Nat.reduceLeDiff, Nat.reduceEqDiff, Nat.reduceAdd, Int.reduceLE, Int.reduceLT, Int.reduceEq, Int.reduceAdd, Int.reduceNeg, Int.reduceToNat, Int.toNat_natCast, ne_eq, not_false_eq_true, not_true_eq_false, or_true, true_or, or_false, false_or]
theorem y_nextG {d : Nat} {N : mM} {Q : mV → mM → Prop} {k : Nat} (h : SH N) (ht : gi N 35 11 = k) (hk : k < 400) : CP (mc (d + 2)) 137 [vr (some 35)] N Q = Q vj (si N 35 11 (k + 1 : Nat)) := by
  have e3 : ((k : Int) = 400) = False := eq_false (by omega)
  have e2 : wr ((k : Int) + 1) = ((k + 1 : Nat) : Int) := by rw [wr_id (by omega) (by omega)]; omega
  simp only [↓cpX12_next, ↓eX12_next_0, ↓eX12_next_1, ↓eX12_next_4, ↓eX12_next_7, ↓eX12_next_10, ↓eX12_next_11, ↓eX12_next_12, ↓eX12_next_15, ↓eX12_next_18, ↓eX12_next_19, ↓eX12_next_20, ↓eX12_next_23, ↓eX12_next_24, ↓eX12_next_25, ↓eX12_next_28, hk35 h, ht, e2, e3, Int.cast_ofNat_Int, kd_si, gr_si, ln_si, gi_same, gi_na, gi_ni, nl_i, nl_r, nl_j, nj_i, nj_l, nj_r, true_and, and_true, and_self, cs_0, cs_1, cs_2, cs_3, cs_4, ↓reduceIte, Nat.reduceLeDiff, Nat.reduceEqDiff, Nat.reduceAdd, Int.reduceLE, Int.reduceLT, Int.reduceEq, Int.reduceAdd, Int.reduceNeg, Int.reduceToNat, Int.toNat_natCast, ne_eq, not_false_eq_true, not_true_eq_false, or_true, true_or, or_false, false_or]
theorem y_nextF {d : Nat} {N : mM} {Q : mV → mM → Prop} (h : SH N) (ht : gi N 35 11 = (400 : Nat)) (h0 : gi N 35 13 = 0) : CP (mc (d + 2)) 137 [vr (some 35)] N Q = Q vj (si (si N 35 13 2) 35 14 (gi N 39 400)) := by
  have ff := fun (Q : mV → mM → Prop) => y_fail (d := d) (Q := Q) (c := 2) h ht (by decide) h0
  have ht' : gi N 35 11 = 400 := ht
  simp only [↓cpX12_next, ↓eX12_next_0, ↓eX12_next_1, ↓eX12_next_4, ↓eX12_next_7, ↓eX12_next_10, ↓eX12_next_11, ↓eX12_next_12, ↓eX12_next_15, ↓eX12_next_18, ↓eX12_next_19, ↓eX12_next_20, ↓eX12_next_23, ↓eX12_next_24, ↓eX12_next_25, ↓eX12_next_28, hk35 h, ht', ↓ff, Int.cast_ofNat_Int, kd_si, gr_si, ln_si, gi_same, gi_na, gi_ni, nl_i, nl_r, nl_j, nj_i, nj_l, nj_r, true_and, and_true, and_self, cs_0, cs_1, cs_2, cs_3, cs_4, ↓reduceIte, Nat.reduceLeDiff, Nat.reduceEqDiff, Nat.reduceAdd, Int.reduceLE, Int.reduceLT, Int.reduceEq, Int.reduceAdd, Int.reduceNeg, Int.reduceToNat, Int.toNat_natCast, ne_eq, not_false_eq_true, not_true_eq_false, or_true, true_or, or_false, false_or]
theorem y_emit {d : Nat} {N : mM} {Q : mV → mM → Prop} {cd : Nat} {k v : Int} (h : SH N) (hc : gi N 35 29 = cd) (h1 : cd < 1000) : CP (mc (d + 1)) 143 [vr (some 35), vi k, vi v] N Q = Q vj (si (si (si N 52 cd k) 53 cd v) 35 29 (cd + 1 : Nat)) := by
  have e3 : (0 ≤ (cd : Int)) = True := eq_true (by omega)
  have e4 : ((cd : Int) < 1000) = True := eq_true (by omega)
  have e2 : wr ((cd : Int) + 1) = ((cd + 1 : Nat) : Int) := by rw [wr_id (by omega) (by omega)]; omega
  simp only [↓cpX12_emit, ↓eX12_emit_0, ↓eX12_emit_1, ↓eX12_emit_4, ↓eX12_emit_5, ↓eX12_emit_8, ↓eX12_emit_9, ↓eX12_emit_10, ↓eX12_emit_11, ↓eX12_emit_14, ↓eX12_emit_15, ↓eX12_emit_18, ↓eX12_emit_19, ↓eX12_emit_20, ↓eX12_emit_21, ↓eX12_emit_22, ↓eX12_emit_25, ↓eX12_emit_26, ↓eX12_emit_27, ↓eX12_emit_30, hk35 h, hr35_30 h, hr35_31 h, hk52 h, hl52 h, hk53 h, hl53 h, hc, e2, e3, e4, Int.cast_ofNat_Int, kd_si, gr_si, ln_si, gi_same, gi_na, gi_ni, nl_i, nl_r, nl_j, nj_i, nj_l, nj_r, true_and, and_true, and_self, cs_0, cs_1, cs_2, cs_3, cs_4, ↓reduceIte, Nat.reduceLeDiff, Nat.reduceEqDiff, Nat.reduceAdd, Int.reduceLE, Int.reduceLT, Int.reduceEq, Int.reduceAdd, Int.reduceNeg, Int.reduceToNat, Int.toNat_natCast, ne_eq, not_false_eq_true, not_true_eq_false, or_true, true_or, or_false, false_or]
/-! running the reference's words -/
def apM (c : Int) : List Int → List Int
  | b :: a :: r => (if c = 2 then wr (a + b) else if c = 3 then wr (a - b) else wr (a * b)) :: r
  | _ => []
def stM (e : Env) (c i : Int) (s : List Int) : List Int := if c < 2 then (if c = 0 then i else e i.toNat) :: s else apM c s
def rM (N : mM) (lo : Nat) : Nat → Env → List Int
  | 0, _ => []
  | k + 1, e => stM e (gi N 52 (lo + k)) (gi N 53 (lo + k)) (rM N lo k e)
theorem rM_eq {M N : mM} {lo : Nat} : ∀ (n : Nat), (∀ j, j < n → gi N 52 (lo + j) = gi M 52 (lo + j) ∧ gi N 53 (lo + j) = gi M 53 (lo + j)) → ∀ e, rM N lo n e = rM M lo n e := by
  intro n
  induction n with
  | zero => intro _ e; rfl
  | succ n ih =>
    intro h e
    rw [rM, rM, ih (fun j hj => h j (by omega)) e, (h n (Nat.lt_succ_self n)).1, (h n (Nat.lt_succ_self n)).2]
def gM (N : mM) (lo n : Nat) : Prop := ∀ k, k < n → ∀ e, (0 ≤ gi N 52 (lo + k) ∧ gi N 52 (lo + k) ≤ 4) ∧ (gi N 52 (lo + k) = 1 → 0 ≤ gi N 53 (lo + k) ∧ gi N 53 (lo + k) ≤ 6) ∧ (2 ≤ gi N 52 (lo + k) → 2 ≤ (rM N lo k e).length)
theorem gM_eq {M N : mM} {lo n : Nat} (h : ∀ j, j < n → gi N 52 (lo + j) = gi M 52 (lo + j) ∧ gi N 53 (lo + j) = gi M 53 (lo + j)) (hg : gM M lo n) : gM N lo n := by
  intro k hk e
  rw [(h k hk).1, (h k hk).2, rM_eq k (fun j hj => h j (by omega)) e]
  exact hg k hk e
theorem gM_s {N : mM} {lo n : Nat} (h : gM N lo n) (h1 : ∀ e, (0 ≤ gi N 52 (lo + n) ∧ gi N 52 (lo + n) ≤ 4) ∧ (gi N 52 (lo + n) = 1 → 0 ≤ gi N 53 (lo + n) ∧ gi N 53 (lo + n) ≤ 6) ∧ (2 ≤ gi N 52 (lo + n) → 2 ≤ (rM N lo n e).length)) : gM N lo (n + 1) := by
  intro k hk e
  by_cases z : k = n
  · rw [z]; exact h1 e
  · exact h k (by omega) e
/-- the kinds that wait, as the reference numbers them -/
def km (k : Int) : Int := if k = 20 then 6 else k - 9
def CM (N : mM) (lo : Nat) (w : List Int) (V : Env → List Int) (b : Nat) : Prop := gi N 35 33 = (w.length : Nat) ∧ stk (gi N 54) (w.map km) ∧ ∃ cd : Nat, gi N 35 29 = cd ∧ lo ≤ cd ∧ cd + w.length ≤ b ∧ gM N lo (cd - lo) ∧ ∀ e, rM N lo (cd - lo) e = V e
/-- what coming out changes -/
def coS (c0 b a i : Nat) : Prop := (a = 35 ∧ (i = 29 ∨ i = 33)) ∨ ((a = 52 ∨ a = 53) ∧ c0 ≤ i ∧ i < b)
def cdN (N : mM) : Nat := (gi N 35 29).toNat
theorem CM_emit {N : mM} {lo b : Nat} {w : List Int} {V : Env → List Int} {k v : Int} {cd : Nat} (h33 : gi N 35 33 = (w.length : Nat)) (hst : stk (gi N 54) (w.map km)) (hcd : gi N 35 29 = cd) (hs : lo ≤ cd) (hn : cd + 1 + w.length ≤ b) (hg : gM N lo (cd - lo)) (hr : ∀ e, rM N lo (cd - lo) e = V e)
    (hx : ∀ e, (0 ≤ k ∧ k ≤ 4) ∧ (k = 1 → 0 ≤ v ∧ v ≤ 6) ∧ (2 ≤ k → 2 ≤ (V e).length)) : CM (si (si (si N 52 cd k) 53 cd v) 35 29 (cd + 1 : Nat)) lo w (fun e => stM e k v (V e)) b := by
  have old : ∀ j, j < cd - lo → gi (si (si (si N 52 cd k) 53 cd v) 35 29 (cd + 1 : Nat)) 52 (lo + j) = gi N 52 (lo + j) ∧ gi (si (si (si N 52 cd k) 53 cd v) 35 29 (cd + 1 : Nat)) 53 (lo + j) = gi N 53 (lo + j) := fun j hj => by
    simp only [gi_na, gi_ni (show lo + j ≠ cd by omega), ne_eq, Nat.reduceEqDiff, not_false_eq_true, and_self]
  have n52 : gi (si (si (si N 52 cd k) 53 cd v) 35 29 (cd + 1 : Nat)) 52 (lo + (cd - lo)) = k := by
    rw [show lo + (cd - lo) = cd by omega]
    simp only [gi_na, gi_same, ne_eq, Nat.reduceEqDiff, not_false_eq_true]
  have n53 : gi (si (si (si N 52 cd k) 53 cd v) 35 29 (cd + 1 : Nat)) 53 (lo + (cd - lo)) = v := by
    rw [show lo + (cd - lo) = cd by omega]
    simp only [gi_na, gi_same, ne_eq, Nat.reduceEqDiff, not_false_eq_true]
  refine ⟨?_, ?_, cd + 1, gi_same _ _ _ _, by omega, by omega, ?_, fun e => ?_⟩
  · rw [gi_ni (by decide), gi_na (by decide), gi_na (by decide)]; exact h33
  · refine stk_eq _ (fun j _ => ?_) hst
    rw [gi_na (by decide), gi_na (by decide), gi_na (by decide)]
  · rw [show cd + 1 - lo = (cd - lo) + 1 by omega]
    refine gM_s (gM_eq old hg) (fun e => ?_)
    rw [n52, n53, rM_eq _ old e, hr e]
    exact hx e
  · rw [show cd + 1 - lo = (cd - lo) + 1 by omega, rM, n52, n53, rM_eq _ old e, hr e]
theorem jn17 (a b : Int) : jn 17 a b = wr (a + b) := by
  unfold jn
  rw [if_neg (by decide), if_neg (by decide), if_neg (by decide), if_neg (by decide), if_neg (by decide), if_neg (by decide), if_pos rfl]
theorem jn18 (a b : Int) : jn 18 a b = wr (a - b) := by
  unfold jn
  rw [if_neg (by decide), if_neg (by decide), if_neg (by decide), if_neg (by decide), if_neg (by decide), if_neg (by decide), if_neg (by decide), if_pos rfl]
theorem jn19 (a b : Int) : jn 19 a b = wr (a * b) := by
  unfold jn
  rw [if_neg (by decide), if_neg (by decide), if_neg (by decide), if_neg (by decide), if_neg (by decide), if_neg (by decide), if_neg (by decide), if_neg (by decide)]
theorem apM_ap {x : Int} (h1 : 17 ≤ x) (h2 : x ≤ 19) (v : List Int) : apM (x - 15) v = ap x v := by
  match v with
  | [] => rfl
  | [a] => rfl
  | b :: a :: r =>
    rw [ap, apM]
    rcases (show x = 17 ∨ x = 18 ∨ x = 19 by omega) with rfl | rfl | rfl
    · rw [jn17, if_pos (by decide)]
    · rw [jn18, if_neg (by decide), if_pos (by decide)]
    · rw [jn19, if_neg (by decide), if_neg (by decide)]
/-- comesOut: all of it down to an opening sign, or what is times -/
theorem y_co {d : Nat} {Q : mV → mM → Prop} {t : Int} {b lo : Nat} (ht : t = 0 ∨ t = 1) (hb : b ≤ 1000) :
    ∀ (w : List Int) (V : Env → List Int) (N : mM) (a2 : mV), SH N → CM N lo w V b → (∀ x ∈ w, 17 ≤ x ∧ x ≤ 20) → (∀ e, (V e).length = nops w + 1) → w.length ≤ 30 →
    (∀ R, YF (coS (cdN N) b) N R → CM R lo (if t = 0 then popW w else potW w) (fun e => if t = 0 then popV w (V e) else potV w (V e)) b → Q vj R) → WP (mc (d + 1)) tX12_comesOut 0 [vr (some 35), vi t, a2] [] N Q := by
  intro w
  induction w with
  | nil =>
    intro V N a2 h hC hw hV hl hQ
    have h33 : gi N 35 33 = 0 := hC.1
    rw [eX12_comesOut_0]
    simp only [↓eX12_comesOut_1, ↓eX12_comesOut_4, ↓eX12_comesOut_92, hk35 h, h33, Int.le_refl, Int.cast_ofNat_Int, kd_si, gr_si, ln_si, gi_same, gi_na, gi_ni, nl_i, nl_r, nl_j, nj_i, nj_l, nj_r, true_and, and_true, and_self, cs_0, cs_1, cs_2, cs_3, cs_4, ↓reduceIte, Nat.reduceLeDiff, Nat.reduceEqDiff, Nat.reduceAdd, Int.reduceLE, Int.reduceLT, Int.reduceEq, Int.reduceAdd, Int.reduceNeg, Int.reduceToNat, Int.toNat_natCast, ne_eq, not_false_eq_true, not_true_eq_false, or_true, true_or, or_false, false_or]
    refine hQ N YF_refl ?_
    have e1 : (if t = 0 then popW [] else potW []) = [] := by split <;> rfl
    have e2 : (fun e => if t = 0 then popV [] (V e) else potV [] (V e)) = V := by funext e; split <;> rfl
    rw [e1, e2]
    exact hC
  | cons x w ih =>
    intro V N a2 h hC hw hV hl hQ
    have hC' := hC
    obtain ⟨h33, hst, cd, c1, c2, c3, c4, c5⟩ := hC
    rw [List.length_cons] at h33 c3 hl
    obtain ⟨s1, s2⟩ := hst
    rw [List.length_map] at s1
    obtain ⟨x1, x2⟩ := hw x (List.mem_cons_self ..)
    have e0 : (((w.length + 1 : Nat) : Int) ≤ 0) = False := eq_false (by omega)
    have e1 : wr (((w.length + 1 : Nat) : Int) - 1) = ((w.length : Nat) : Int) := by rw [wr_id (by omega) (by omega)]; omega
    have e2 : (0 ≤ ((w.length : Nat) : Int)) = True := eq_true (by omega)
    have e3 : (((w.length : Nat) : Int) < 48) = True := eq_true (by omega)
    have stop : (if t = 0 then popW (x :: w) else potW (x :: w)) = x :: w → (fun e => if t = 0 then popV (x :: w) (V e) else potV (x :: w) (V e)) = V → Q vj N := fun q1 q2 => by
      refine hQ N YF_refl ?_
      rw [q1, q2]
      exact hC'
    by_cases q20 : x = 20
    · have k6 : km x = 6 := by unfold km; rw [if_pos q20]
      rw [k6] at s1
      rw [eX12_comesOut_0]
      simp only [↓eX12_comesOut_1, ↓eX12_comesOut_4, ↓eX12_comesOut_7, ↓eX12_comesOut_8, ↓eX12_comesOut_11, ↓eX12_comesOut_12, ↓eX12_comesOut_15, ↓eX12_comesOut_16, ↓eX12_comesOut_17, ↓eX12_comesOut_18, ↓eX12_comesOut_20, ↓eX12_comesOut_92, hk35 h, hr35_32 h, hk54 h, hl54 h, h33, e0, e1, e2, e3, s1, Int.cast_ofNat_Int, kd_si, gr_si, ln_si, gi_same, gi_na, gi_ni, nl_i, nl_r, nl_j, nj_i, nj_l, nj_r, true_and, and_true, and_self, cs_0, cs_1, cs_2, cs_3, cs_4, ↓reduceIte, Nat.reduceLeDiff, Nat.reduceEqDiff, Nat.reduceAdd, Int.reduceLE, Int.reduceLT, Int.reduceEq, Int.reduceAdd, Int.reduceNeg, Int.reduceToNat, Int.toNat_natCast, ne_eq, not_false_eq_true, not_true_eq_false, or_true, true_or, or_false, false_or]
      refine stop ?_ ?_
      · split
        · rw [popW, if_pos q20]
        · rw [potW, if_neg (by omega)]
      · funext e
        split
        · rw [popV, if_pos q20]
        · rw [potV, if_neg (by omega)]
    · have k6 : km x = x - 9 := by unfold km; rw [if_neg q20]
      rw [k6] at s1
      have n6 : (x - 9 = 6) = False := eq_false (by omega)
      by_cases qt : t = 1 ∧ x ≠ 19
      · have n10 : (x - 9 = 10) = False := eq_false (by omega)
        rw [eX12_comesOut_0]
        simp only [↓eX12_comesOut_1, ↓eX12_comesOut_4, ↓eX12_comesOut_7, ↓eX12_comesOut_8, ↓eX12_comesOut_11, ↓eX12_comesOut_12, ↓eX12_comesOut_15, ↓eX12_comesOut_16, ↓eX12_comesOut_17, ↓eX12_comesOut_18, ↓eX12_comesOut_20, ↓eX12_comesOut_23, ↓eX12_comesOut_24, ↓eX12_comesOut_27, ↓eX12_comesOut_28, ↓eX12_comesOut_31, ↓eX12_comesOut_32, ↓eX12_comesOut_35, ↓eX12_comesOut_36, ↓eX12_comesOut_37, ↓eX12_comesOut_38, ↓eX12_comesOut_40, ↓eX12_comesOut_92, hk35 h, hr35_32 h, hk54 h, hl54 h, h33, e0, e1, e2, e3, s1, n6, n10, qt.1, Int.cast_ofNat_Int, kd_si, gr_si, ln_si, gi_same, gi_na, gi_ni, nl_i, nl_r, nl_j, nj_i, nj_l, nj_r, true_and, and_true, and_self, cs_0, cs_1, cs_2, cs_3, cs_4, ↓reduceIte, Nat.reduceLeDiff, Nat.reduceEqDiff, Nat.reduceAdd, Int.reduceLE, Int.reduceLT, Int.reduceEq, Int.reduceAdd, Int.reduceNeg, Int.reduceToNat, Int.toNat_natCast, ne_eq, not_false_eq_true, not_true_eq_false, or_true, true_or, or_false, false_or]
        refine stop ?_ ?_
        · rw [if_neg (by omega), potW, if_neg qt.2]
        · funext e
          rw [if_neg (by omega), potV, if_neg qt.2]
      · have step : WP (mc (d + 1)) tX12_comesOut 0 [vr (some 35), vi t, a2] [] N Q = WP (mc (d + 1)) tX12_comesOut 0 [vr (some 35), vi t, vi (x - 9)] [] (si (si (si (si N 35 33 (w.length : Nat)) 52 cd (x - 15)) 53 cd 0) 35 29 (cd + 1 : Nat)) Q := by
          have hN1 : SH (si N 35 33 (w.length : Nat)) := h
          have fe := fun (Q : mV → mM → Prop) (k v : Int) => y_emit (d := d) (N := si N 35 33 (w.length : Nat)) (Q := Q) (cd := cd) (k := k) (v := v) hN1 (by rw [gi_ni (by decide)]; exact c1) (by omega)
          rw [eX12_comesOut_0]
          rcases (show x = 17 ∨ x = 18 ∨ x = 19 by omega) with rfl | rfl | rfl
          · have t0 : t = 0 := by omega
            simp only [↓eX12_comesOut_1, ↓eX12_comesOut_4, ↓eX12_comesOut_7, ↓eX12_comesOut_8, ↓eX12_comesOut_11, ↓eX12_comesOut_12, ↓eX12_comesOut_15, ↓eX12_comesOut_16, ↓eX12_comesOut_17, ↓eX12_comesOut_18, ↓eX12_comesOut_20, ↓eX12_comesOut_23, ↓eX12_comesOut_24, ↓eX12_comesOut_27, ↓eX12_comesOut_28, ↓eX12_comesOut_31, ↓eX12_comesOut_32, ↓eX12_comesOut_35, ↓eX12_comesOut_36, ↓eX12_comesOut_37, ↓eX12_comesOut_38, ↓eX12_comesOut_40, ↓eX12_comesOut_43, ↓eX12_comesOut_44, ↓eX12_comesOut_45, ↓eX12_comesOut_48, ↓eX12_comesOut_49, ↓eX12_comesOut_50, ↓eX12_comesOut_53, ↓eX12_comesOut_54, ↓eX12_comesOut_57, ↓eX12_comesOut_58, ↓eX12_comesOut_61, ↓eX12_comesOut_62, ↓eX12_comesOut_63, ↓eX12_comesOut_64, ↓eX12_comesOut_65, ↓eX12_comesOut_67, ↓eX12_comesOut_70, ↓eX12_comesOut_71, ↓eX12_comesOut_74, ↓eX12_comesOut_75, ↓eX12_comesOut_77, ↓eX12_comesOut_80, ↓eX12_comesOut_81, ↓eX12_comesOut_84, ↓eX12_comesOut_85, ↓eX12_comesOut_86, ↓eX12_comesOut_89, hk35 h, hr35_32 h, hk54 h, hl54 h, h33, e0, e1, e2, e3, s1, n6, t0, ↓fe, Int.reduceSub, Int.cast_ofNat_Int, kd_si, gr_si, ln_si, gi_same, gi_na, gi_ni, nl_i, nl_r, nl_j, nj_i, nj_l, nj_r, true_and, and_true, and_self, cs_0, cs_1, cs_2, cs_3, cs_4, ↓reduceIte, Nat.reduceLeDiff, Nat.reduceEqDiff, Nat.reduceAdd, Int.reduceLE, Int.reduceLT, Int.reduceEq, Int.reduceAdd, Int.reduceNeg, Int.reduceToNat, Int.toNat_natCast, ne_eq, not_false_eq_true, not_true_eq_false, or_true, true_or, or_false, false_or]
          · have t0 : t = 0 := by omega
            simp only [↓eX12_comesOut_1, ↓eX12_comesOut_4, ↓eX12_comesOut_7, ↓eX12_comesOut_8, ↓eX12_comesOut_11, ↓eX12_comesOut_12, ↓eX12_comesOut_15, ↓eX12_comesOut_16, ↓eX12_comesOut_17, ↓eX12_comesOut_18, ↓eX12_comesOut_20, ↓eX12_comesOut_23, ↓eX12_comesOut_24, ↓eX12_comesOut_27, ↓eX12_comesOut_28, ↓eX12_comesOut_31, ↓eX12_comesOut_32, ↓eX12_comesOut_35, ↓eX12_comesOut_36, ↓eX12_comesOut_37, ↓eX12_comesOut_38, ↓eX12_comesOut_40, ↓eX12_comesOut_43, ↓eX12_comesOut_44, ↓eX12_comesOut_45, ↓eX12_comesOut_48, ↓eX12_comesOut_49, ↓eX12_comesOut_50, ↓eX12_comesOut_53, ↓eX12_comesOut_54, ↓eX12_comesOut_57, ↓eX12_comesOut_58, ↓eX12_comesOut_61, ↓eX12_comesOut_62, ↓eX12_comesOut_63, ↓eX12_comesOut_64, ↓eX12_comesOut_65, ↓eX12_comesOut_67, ↓eX12_comesOut_70, ↓eX12_comesOut_71, ↓eX12_comesOut_74, ↓eX12_comesOut_75, ↓eX12_comesOut_77, ↓eX12_comesOut_80, ↓eX12_comesOut_81, ↓eX12_comesOut_84, ↓eX12_comesOut_85, ↓eX12_comesOut_86, ↓eX12_comesOut_89, hk35 h, hr35_32 h, hk54 h, hl54 h, h33, e0, e1, e2, e3, s1, n6, t0, ↓fe, Int.reduceSub, Int.cast_ofNat_Int, kd_si, gr_si, ln_si, gi_same, gi_na, gi_ni, nl_i, nl_r, nl_j, nj_i, nj_l, nj_r, true_and, and_true, and_self, cs_0, cs_1, cs_2, cs_3, cs_4, ↓reduceIte, Nat.reduceLeDiff, Nat.reduceEqDiff, Nat.reduceAdd, Int.reduceLE, Int.reduceLT, Int.reduceEq, Int.reduceAdd, Int.reduceNeg, Int.reduceToNat, Int.toNat_natCast, ne_eq, not_false_eq_true, not_true_eq_false, or_true, true_or, or_false, false_or]
          · rcases ht with t0 | t0
            · simp only [↓eX12_comesOut_1, ↓eX12_comesOut_4, ↓eX12_comesOut_7, ↓eX12_comesOut_8, ↓eX12_comesOut_11, ↓eX12_comesOut_12, ↓eX12_comesOut_15, ↓eX12_comesOut_16, ↓eX12_comesOut_17, ↓eX12_comesOut_18, ↓eX12_comesOut_20, ↓eX12_comesOut_23, ↓eX12_comesOut_24, ↓eX12_comesOut_27, ↓eX12_comesOut_28, ↓eX12_comesOut_31, ↓eX12_comesOut_32, ↓eX12_comesOut_35, ↓eX12_comesOut_36, ↓eX12_comesOut_37, ↓eX12_comesOut_38, ↓eX12_comesOut_40, ↓eX12_comesOut_43, ↓eX12_comesOut_44, ↓eX12_comesOut_45, ↓eX12_comesOut_48, ↓eX12_comesOut_49, ↓eX12_comesOut_50, ↓eX12_comesOut_53, ↓eX12_comesOut_54, ↓eX12_comesOut_57, ↓eX12_comesOut_58, ↓eX12_comesOut_61, ↓eX12_comesOut_62, ↓eX12_comesOut_63, ↓eX12_comesOut_64, ↓eX12_comesOut_65, ↓eX12_comesOut_67, ↓eX12_comesOut_70, ↓eX12_comesOut_71, ↓eX12_comesOut_74, ↓eX12_comesOut_75, ↓eX12_comesOut_77, ↓eX12_comesOut_80, ↓eX12_comesOut_81, ↓eX12_comesOut_84, ↓eX12_comesOut_85, ↓eX12_comesOut_86, ↓eX12_comesOut_89, hk35 h, hr35_32 h, hk54 h, hl54 h, h33, e0, e1, e2, e3, s1, n6, t0, ↓fe, Int.reduceSub, Int.cast_ofNat_Int, kd_si, gr_si, ln_si, gi_same, gi_na, gi_ni, nl_i, nl_r, nl_j, nj_i, nj_l, nj_r, true_and, and_true, and_self, cs_0, cs_1, cs_2, cs_3, cs_4, ↓reduceIte, Nat.reduceLeDiff, Nat.reduceEqDiff, Nat.reduceAdd, Int.reduceLE, Int.reduceLT, Int.reduceEq, Int.reduceAdd, Int.reduceNeg, Int.reduceToNat, Int.toNat_natCast, ne_eq, not_false_eq_true, not_true_eq_false, or_true, true_or, or_false, false_or]
            · simp only [↓eX12_comesOut_1, ↓eX12_comesOut_4, ↓eX12_comesOut_7, ↓eX12_comesOut_8, ↓eX12_comesOut_11, ↓eX12_comesOut_12, ↓eX12_comesOut_15, ↓eX12_comesOut_16, ↓eX12_comesOut_17, ↓eX12_comesOut_18, ↓eX12_comesOut_20, ↓eX12_comesOut_23, ↓eX12_comesOut_24, ↓eX12_comesOut_27, ↓eX12_comesOut_28, ↓eX12_comesOut_31, ↓eX12_comesOut_32, ↓eX12_comesOut_35, ↓eX12_comesOut_36, ↓eX12_comesOut_37, ↓eX12_comesOut_38, ↓eX12_comesOut_40, ↓eX12_comesOut_43, ↓eX12_comesOut_44, ↓eX12_comesOut_45, ↓eX12_comesOut_48, ↓eX12_comesOut_49, ↓eX12_comesOut_50, ↓eX12_comesOut_53, ↓eX12_comesOut_54, ↓eX12_comesOut_57, ↓eX12_comesOut_58, ↓eX12_comesOut_61, ↓eX12_comesOut_62, ↓eX12_comesOut_63, ↓eX12_comesOut_64, ↓eX12_comesOut_65, ↓eX12_comesOut_67, ↓eX12_comesOut_70, ↓eX12_comesOut_71, ↓eX12_comesOut_74, ↓eX12_comesOut_75, ↓eX12_comesOut_77, ↓eX12_comesOut_80, ↓eX12_comesOut_81, ↓eX12_comesOut_84, ↓eX12_comesOut_85, ↓eX12_comesOut_86, ↓eX12_comesOut_89, hk35 h, hr35_32 h, hk54 h, hl54 h, h33, e0, e1, e2, e3, s1, n6, t0, ↓fe, Int.reduceSub, Int.cast_ofNat_Int, kd_si, gr_si, ln_si, gi_same, gi_na, gi_ni, nl_i, nl_r, nl_j, nj_i, nj_l, nj_r, true_and, and_true, and_self, cs_0, cs_1, cs_2, cs_3, cs_4, ↓reduceIte, Nat.reduceLeDiff, Nat.reduceEqDiff, Nat.reduceAdd, Int.reduceLE, Int.reduceLT, Int.reduceEq, Int.reduceAdd, Int.reduceNeg, Int.reduceToNat, Int.toNat_natCast, ne_eq, not_false_eq_true, not_true_eq_false, or_true, true_or, or_false, false_or]
        rw [step]
        have hop : nops (x :: w) = nops w + 1 := by rw [nops, if_neg q20]; omega
        have cm := CM_emit (N := si N 35 33 (w.length : Nat)) (lo := lo) (b := b) (w := w) (V := V) (k := x - 15) (v := 0) (cd := cd) (gi_same _ _ _ _) (stk_eq _ (fun j _ => by rw [gi_na (by decide)]) s2) (by rw [gi_ni (by decide)]; exact c1) c2 (by omega) (gM_eq (fun j _ => by rw [gi_na (by decide), gi_na (by decide)]; exact ⟨rfl, rfl⟩) c4) (fun e => by rw [rM_eq (M := N) _ (fun j _ => by rw [gi_na (by decide), gi_na (by decide)]; exact ⟨rfl, rfl⟩) e]; exact c5 e) (fun e => ⟨⟨by omega, by omega⟩, fun z => by omega, fun _ => by rw [hV e, hop]; omega⟩)
        have ee : (fun e => stM e (x - 15) 0 (V e)) = fun e => ap x (V e) := by
          funext e
          unfold stM
          rw [if_neg (by omega), apM_ap x1 (by omega)]
        rw [ee] at cm
        refine ih (fun e => ap x (V e)) _ _ h cm (fun y hy => hw y (List.mem_cons_of_mem _ hy)) (fun e => by rw [ap_len (by rw [hV e, hop]; omega), hV e, hop]; omega) (by omega) (fun R yR cR => ?_)
        have cd0 : cdN N = cd := by unfold cdN; rw [c1]; rfl
        have cd1 : cdN (si (si (si (si N 35 33 (w.length : Nat)) 52 cd (x - 15)) 53 cd 0) 35 29 (cd + 1 : Nat)) = cd + 1 := by unfold cdN; rw [gi_same]; rfl
        refine hQ R ?_ ?_
        · rw [cd0]
          rw [cd1] at yR
          refine YF_trans (YF_si (Or.inl ⟨rfl, Or.inl rfl⟩) (YF_si (Or.inr ⟨Or.inr rfl, Nat.le_refl _, by omega⟩) (YF_si (Or.inr ⟨Or.inl rfl, Nat.le_refl _, by omega⟩) (YF_si (Or.inl ⟨rfl, Or.inr rfl⟩) YF_refl)))) (YF_mono (fun a i z => ?_) yR)
          rcases z with z | z
          · exact Or.inl z
          · exact Or.inr ⟨z.1, by omega, z.2.2⟩
        · have f1 : (if t = 0 then popW (x :: w) else potW (x :: w)) = if t = 0 then popW w else potW w := by
            by_cases y : t = 0
            · rw [if_pos y, if_pos y, popW, if_neg q20]
            · rw [if_neg y, if_neg y, potW, if_pos (by omega)]
          have f2 : (fun e => if t = 0 then popV (x :: w) (V e) else potV (x :: w) (V e)) = fun e => if t = 0 then popV w (ap x (V e)) else potV w (ap x (V e)) := by
            funext e
            by_cases y : t = 0
            · rw [if_pos y, if_pos y, popV, if_neg q20]
            · rw [if_neg y, if_neg y, potV, if_pos (by omega)]
          rw [f1, f2]
          exact cR
