/-! ===== the class reads: what waits, what is written ===== -/
def stk (f : Nat → Int) : List Int → Prop
  | [] => True
  | k :: w => f w.length = k ∧ stk f w
theorem stk_eq {f g : Nat → Int} : ∀ (w : List Int), (∀ j, j < w.length → g j = f j) → stk f w → stk g w := by
  intro w
  induction w with
  | nil => intro _ _; trivial
  | cons k w ih =>
    intro h hs
    rw [List.length_cons] at h
    exact ⟨by rw [h _ (Nat.lt_succ_self _)]; exact hs.1, ih (fun j hj => h j (by omega)) hs.2⟩
def stp (e : Env) (x : Int) (s : List Int) : List Int := if x ≤ -11 then ap (-x) s else (if 0 ≤ x then x else e (-x - 2).toNat) :: s
def rn (f : Nat → Int) (lo : Nat) : Nat → Env → List Int
  | 0, _ => []
  | k + 1, e => stp e (f (lo + k)) (rn f lo k e)
theorem rn_eq {f g : Nat → Int} {lo : Nat} : ∀ (n : Nat), (∀ j, j < n → g (lo + j) = f (lo + j)) → ∀ e, rn g lo n e = rn f lo n e := by
  intro n
  induction n with
  | zero => intro _ e; rfl
  | succ n ih =>
    intro h e
    rw [rn, rn, ih (fun j hj => h j (by omega)) e, h n (Nat.lt_succ_self n)]
/-- the words are such as can be run -/
def gd (f : Nat → Int) (lo n : Nat) : Prop := ∀ k, k < n → ∀ e, (f (lo + k) ≤ -11 → -19 ≤ f (lo + k) ∧ 2 ≤ (rn f lo k e).length) ∧ (-11 < f (lo + k) → (-10 ≤ f (lo + k) ∧ f (lo + k) ≠ -1) ∧ (rn f lo k e).length < 24)
theorem gd_eq {f g : Nat → Int} {lo n : Nat} (h : ∀ j, j < n → g (lo + j) = f (lo + j)) (hg : gd f lo n) : gd g lo n := by
  intro k hk e
  rw [h k hk, rn_eq k (fun j hj => h j (by omega)) e]
  exact hg k hk e
theorem gd_s {f : Nat → Int} {lo n : Nat} (h : gd f lo n) (h1 : ∀ e, (f (lo + n) ≤ -11 → -19 ≤ f (lo + n) ∧ 2 ≤ (rn f lo n e).length) ∧ (-11 < f (lo + n) → (-10 ≤ f (lo + n) ∧ f (lo + n) ≠ -1) ∧ (rn f lo n e).length < 24)) : gd f lo (n + 1) := by
  intro k hk e
  by_cases z : k = n
  · rw [z]; exact h1 e
  · exact h k (by omega) e
/-- what waits and what is written of a rule, n tokens taken -/
def CS (u : Nat) (M : mM) (s n : Nat) (W : List Int) (V : Env → List Int) : Prop := gi M 18 8 = (W.length : Nat) ∧ stk (gi M 19) W ∧ ∃ cl : Nat, gi M u 1 = cl ∧ s ≤ cl ∧ cl + W.length ≤ n ∧ gd (gi M (u + 1)) s (cl - s) ∧ ∀ e, rn (gi M (u + 1)) s (cl - s) e = V e
def rdS (u a i : Nat) : Prop := a = 18 ∨ a = 19 ∨ a = u ∨ (u + 1 ≤ a ∧ a ≤ u + 3)
/-- alone what waits and the words of the draft change -/
def wdS (u s a i : Nat) : Prop := (a = 18 ∧ i = 8) ∨ a = 19 ∨ (a = u ∧ i = 1) ∨ (a = u + 1 ∧ s ≤ i)
theorem wsh {M : mM} {u : Nat} (h : SH M) (hu : u = 21 ∨ u = 26) : kd M u = 10 ∧ (gr M u 2 = some (u + 1) ∧ gr M u 3 = some (u + 2) ∧ gr M u 4 = some (u + 3) ∧ gr M u 5 = some (u + 4)) ∧ (kd M (u + 1) = 14 ∧ kd M (u + 2) = 14 ∧ kd M (u + 3) = 14 ∧ kd M (u + 4) = 14) ∧ ln M (u + 1) = 400 ∧ ln M (u + 2) = 20 ∧ ln M (u + 3) = 20 ∧ ln M (u + 4) = 24 := by
  rcases hu with rfl | rfl
  · exact ⟨hk21 h, ⟨hr21_2 h, hr21_3 h, hr21_4 h, hr21_5 h⟩, ⟨hk22 h, hk23 h, hk24 h, hk25 h⟩, hl22 h, hl23 h, hl24 h, hl25 h⟩
  · exact ⟨hk26 h, ⟨hr26_2 h, hr26_3 h, hr26_4 h, hr26_5 h⟩, ⟨hk27 h, hk28 h, hk29 h, hk30 h⟩, hl27 h, hl28 h, hl29 h, hl30 h⟩
def tg (k : Int) : Int := if k = 11 then 2 else if k = 12 then 3 else if k = 17 then 5 else if k = 18 then 5 else if k = 19 then 6 else if k = 20 then 0 else if k = 21 then 1 else if k = 22 then 1 else 4
theorem x_tightness {d : Nat} {M : mM} {Q : mV → mM → Prop} {k : Int} : CP (mc (d + 1)) 92 [vi k] M Q = Q (vi (tg k)) M := by
  simp only [↓cpX9_tightness, ↓eX9_tightness_0, ↓eX9_tightness_1, ↓eX9_tightness_64, ↓eX9_tightness_65, ↓eX9_tightness_66, ↓eX9_tightness_67, ↓eX9_tightness_68, ↓eX9_tightness_69, ↓eX9_tightness_70, ↓eX9_tightness_71, ↓eX9_tightness_72, ↓eX9_tightness_73, ↓eX9_tightness_74, ↓eX9_tightness_76, ↓eX9_tightness_77, ↓eX9_tightness_78, Int.cast_ofNat_Int, kd_si, gr_si, ln_si, gi_same, gi_na, gi_ni, nl_i, nl_r, nl_j, nj_i, nj_l, nj_r, true_and, and_true, and_self, cs_0, cs_1, cs_2, cs_3, cs_4, ↓reduceIte, Nat.reduceLeDiff, Nat.reduceEqDiff, Nat.reduceAdd, Int.reduceLE, Int.reduceLT, Int.reduceEq, Int.reduceAdd, Int.reduceNeg, Int.reduceToNat, Int.toNat_natCast, ne_eq, not_false_eq_true, not_true_eq_false, or_true, true_or, or_false, false_or]
  unfold tg
  by_cases q1 : k = 11
  · subst q1; rfl
  by_cases q2 : k = 12
  · subst q2; rfl
  by_cases q3 : k = 17
  · subst q3; rfl
  by_cases q4 : k = 18
  · subst q4; rfl
  by_cases q5 : k = 19
  · subst q5; rfl
  by_cases q6 : k = 20
  · subst q6; rfl
  by_cases q7 : k = 21
  · subst q7; rfl
  by_cases q8 : k = 22
  · subst q8; rfl
  simp only [q1, q2, q3, q4, q5, q6, q7, q8, ↓reduceIte, ite_self]
theorem x_write {d : Nat} {M : mM} {Q : mV → mM → Prop} {u cl : Nat} {x : Int} (h : SH M) (hu : u = 21 ∨ u = 26) (h1 : gi M u 1 = cl) (h2 : cl < 400) : CP (mc (d + 1)) 95 [vr (some u), vi x] M Q = Q vj (si (si M (u + 1) cl x) u 1 (cl + 1 : Nat)) := by
  have e1 : ((400 : Int) ≤ (cl : Int)) = False := eq_false (by omega)
  have e2 : (0 ≤ (cl : Int)) = True := eq_true (by omega)
  have e3 : ((cl : Int) < 400) = True := eq_true (by omega)
  have e4 : wr ((cl : Int) + 1) = ((cl + 1 : Nat) : Int) := by rw [wr_id (by omega) (by omega)]; omega
  rcases hu with rfl | rfl
  · simp only [↓cpX10_write, ↓eX10_write_0, ↓eX10_write_1, ↓eX10_write_4, ↓eX10_write_5, ↓eX10_write_8, ↓eX10_write_9, ↓eX10_write_12, ↓eX10_write_13, ↓eX10_write_16, ↓eX10_write_17, ↓eX10_write_20, ↓eX10_write_21, ↓eX10_write_22, ↓eX10_write_23, ↓eX10_write_24, ↓eX10_write_27, ↓eX10_write_28, ↓eX10_write_29, ↓eX10_write_32, hk21 h, hr21_2 h, hk22 h, hl22 h, h1, e1, e2, e3, e4, Int.cast_ofNat_Int, kd_si, gr_si, ln_si, gi_same, gi_na, gi_ni, nl_i, nl_r, nl_j, nj_i, nj_l, nj_r, true_and, and_true, and_self, cs_0, cs_1, cs_2, cs_3, cs_4, ↓reduceIte, Nat.reduceLeDiff, Nat.reduceEqDiff, Nat.reduceAdd, Int.reduceLE, Int.reduceLT, Int.reduceEq, Int.reduceAdd, Int.reduceNeg, Int.reduceToNat, Int.toNat_natCast, ne_eq, not_false_eq_true, not_true_eq_false, or_true, true_or, or_false, false_or]
  · simp only [↓cpX10_write, ↓eX10_write_0, ↓eX10_write_1, ↓eX10_write_4, ↓eX10_write_5, ↓eX10_write_8, ↓eX10_write_9, ↓eX10_write_12, ↓eX10_write_13, ↓eX10_write_16, ↓eX10_write_17, ↓eX10_write_20, ↓eX10_write_21, ↓eX10_write_22, ↓eX10_write_23, ↓eX10_write_24, ↓eX10_write_27, ↓eX10_write_28, ↓eX10_write_29, ↓eX10_write_32, hk26 h, hr26_2 h, hk27 h, hl27 h, h1, e1, e2, e3, e4, Int.cast_ofNat_Int, kd_si, gr_si, ln_si, gi_same, gi_na, gi_ni, nl_i, nl_r, nl_j, nj_i, nj_l, nj_r, true_and, and_true, and_self, cs_0, cs_1, cs_2, cs_3, cs_4, ↓reduceIte, Nat.reduceLeDiff, Nat.reduceEqDiff, Nat.reduceAdd, Int.reduceLE, Int.reduceLT, Int.reduceEq, Int.reduceAdd, Int.reduceNeg, Int.reduceToNat, Int.toNat_natCast, ne_eq, not_false_eq_true, not_true_eq_false, or_true, true_or, or_false, false_or]
theorem x_putOff {d : Nat} {M : mM} {Q : mV → mM → Prop} {n : Nat} {k : Int} (h : SH M) (h1 : gi M 18 8 = n) (h2 : n < 23) : CP (mc (d + 1)) 90 [vr (some 18), vi k] M Q = Q vj (si (si M 19 n k) 18 8 (n + 1 : Nat)) := by
  have e1 : ((23 : Int) ≤ (n : Int)) = False := eq_false (by omega)
  have e2 : (0 ≤ (n : Int)) = True := eq_true (by omega)
  have e3 : ((n : Int) < 23) = True := eq_true (by omega)
  have e4 : wr ((n : Int) + 1) = ((n + 1 : Nat) : Int) := by rw [wr_id (by omega) (by omega)]; omega
  simp only [↓cpX9_putOff, ↓eX9_putOff_0, ↓eX9_putOff_1, ↓eX9_putOff_4, ↓eX9_putOff_5, ↓eX9_putOff_8, ↓eX9_putOff_9, ↓eX9_putOff_12, ↓eX9_putOff_13, ↓eX9_putOff_16, ↓eX9_putOff_17, ↓eX9_putOff_20, ↓eX9_putOff_21, ↓eX9_putOff_22, ↓eX9_putOff_23, ↓eX9_putOff_24, ↓eX9_putOff_27, ↓eX9_putOff_28, ↓eX9_putOff_29, ↓eX9_putOff_32, hk18 h, hr18_9 h, hk19 h, hl19 h, h1, e1, e2, e3, e4, Int.cast_ofNat_Int, kd_si, gr_si, ln_si, gi_same, gi_na, gi_ni, nl_i, nl_r, nl_j, nj_i, nj_l, nj_r, true_and, and_true, and_self, cs_0, cs_1, cs_2, cs_3, cs_4, ↓reduceIte, Nat.reduceLeDiff, Nat.reduceEqDiff, Nat.reduceAdd, Int.reduceLE, Int.reduceLT, Int.reduceEq, Int.reduceAdd, Int.reduceNeg, Int.reduceToNat, Int.toNat_natCast, ne_eq, not_false_eq_true, not_true_eq_false, or_true, true_or, or_false, false_or]
/-- what is at least so tight is taken out -/
def pgW (t : Int) : List Int → List Int
  | [] => []
  | k :: w => if t ≤ tg k then pgW t w else k :: w
def pgV (t : Int) : List Int → List Int → List Int
  | [], v => v
  | k :: w, v => if t ≤ tg k then pgV t w (ap k v) else v
theorem CS_write {u : Nat} {M : mM} {s n : Nat} {W : List Int} {V : Env → List Int} {x : Int} {cl : Nat} (hu : u = 21 ∨ u = 26) (h8 : gi M 18 8 = (W.length : Nat)) (hst : stk (gi M 19) W) (hcl : gi M u 1 = cl) (hs : s ≤ cl) (hn : cl + 1 + W.length ≤ n) (hg : gd (gi M (u + 1)) s (cl - s)) (hr : ∀ e, rn (gi M (u + 1)) s (cl - s) e = V e)
    (hx : ∀ e, (x ≤ -11 → -19 ≤ x ∧ 2 ≤ (V e).length) ∧ (-11 < x → (-10 ≤ x ∧ x ≠ -1) ∧ (V e).length < 24)) : CS u (si (si M (u + 1) cl x) u 1 (cl + 1 : Nat)) s n W (fun e => stp e x (V e)) := by
  have g1 : ∀ j, gi (si (si M (u + 1) cl x) u 1 (cl + 1 : Nat)) (u + 1) j = if j = cl then x else gi M (u + 1) j := fun j => by
    rw [gi_na (by omega), gi_si]
    by_cases z : j = cl
    · rw [if_pos ⟨rfl, z⟩, if_pos z]
    · rw [if_neg (fun w => z w.2), if_neg z]
  have old : ∀ j, j < cl - s → gi (si (si M (u + 1) cl x) u 1 (cl + 1 : Nat)) (u + 1) (s + j) = gi M (u + 1) (s + j) := fun j hj => by rw [g1, if_neg (by omega)]
  have new : gi (si (si M (u + 1) cl x) u 1 (cl + 1 : Nat)) (u + 1) (s + (cl - s)) = x := by rw [g1, if_pos (by omega)]
  refine ⟨?_, ?_, cl + 1, gi_same _ _ _ _, by omega, by omega, ?_, fun e => ?_⟩
  · rw [gi_na (by omega), gi_na (by omega)]; exact h8
  · refine stk_eq W (fun j _ => ?_) hst
    rw [gi_na (by omega), gi_na (by omega)]
  · rw [show cl + 1 - s = (cl - s) + 1 by omega]
    refine gd_s (gd_eq old hg) (fun e => ?_)
    rw [new, rn_eq _ old e, hr e]
    exact hx e
  · rw [show cl + 1 - s = (cl - s) + 1 by omega, rn, new, rn_eq _ old e, hr e]
theorem x_wt {d : Nat} {M : mM} {Q : mV → mM → Prop} {u s n : Nat} {k : Int} (h : SH M) (hu : u = 21 ∨ u = 26) (hn : n ≤ 399) :
    ∀ (W : List Int) (V : Env → List Int) (N : mM), YF (wdS u s) M N → CS u N s n W V → (∀ x ∈ W, 11 ≤ x ∧ x ≤ 20) → (∀ e, (V e).length = nops W + 1) → 0 < tg k → W.length ≤ 23 →
    (∀ R, YF (wdS u s) M R → CS u R s n (pgW (tg k) W) (fun e => pgV (tg k) W (V e)) → Q vj R) → WP (mc (d + 1)) tX9_writeTighter 0 [vr (some 18), vi k, vr (some u)] [] N Q := by
  intro W
  induction W with
  | nil =>
    intro V N hF hC hW hV ht hl hQ
    have hN := YF_SH hF h
    have h8 := hC.1
    have h8' : gi N 18 8 = 0 := h8
    simp only [↓eX9_writeTighter_0, ↓eX9_writeTighter_1, ↓eX9_writeTighter_4, ↓eX9_writeTighter_55, hk18 hN, h8', Int.le_refl, Int.cast_ofNat_Int, kd_si, gr_si, ln_si, gi_same, gi_na, gi_ni, nl_i, nl_r, nl_j, nj_i, nj_l, nj_r, true_and, and_true, and_self, cs_0, cs_1, cs_2, cs_3, cs_4, ↓reduceIte, Nat.reduceLeDiff, Nat.reduceEqDiff, Nat.reduceAdd, Int.reduceLE, Int.reduceLT, Int.reduceEq, Int.reduceAdd, Int.reduceNeg, Int.reduceToNat, Int.toNat_natCast, ne_eq, not_false_eq_true, not_true_eq_false, or_true, true_or, or_false, false_or]
    exact hQ N hF hC
  | cons x W ih =>
    intro V N hF hC hW hV ht hl hQ
    have hN := YF_SH hF h
    obtain ⟨h8, hst, cl, c1, c2, c3, c4, c5⟩ := hC
    rw [List.length_cons] at h8 c3 hl
    obtain ⟨s1, s2⟩ := hst
    have e0 : (((W.length + 1 : Nat) : Int) ≤ 0) = False := eq_false (by omega)
    have e1 : wr (((W.length + 1 : Nat) : Int) - 1) = ((W.length : Nat) : Int) := by rw [wr_id (by omega) (by omega)]; omega
    have e2 : (0 ≤ ((W.length : Nat) : Int)) = True := eq_true (by omega)
    have e3 : (((W.length : Nat) : Int) < 23) = True := eq_true (by omega)
    obtain ⟨x1, x2⟩ := hW x (List.mem_cons_self ..)
    by_cases q : tg k ≤ tg x
    · have q' : (tg x < tg k) = False := eq_false (by omega)
      have hx20 : x ≠ 20 := fun w => by
        subst w
        have : tg 20 = 0 := rfl
        omega
      have w1 : wr (-x) = -x := wr_id (by omega) (by omega)
      have hN1 : SH (si N 18 8 (W.length : Nat)) := hN
      have fw := fun (Q : mV → mM → Prop) => x_write (d := d) (M := si N 18 8 (W.length : Nat)) (Q := Q) (u := u) (cl := cl) (x := -x) hN1 hu (by rw [gi_na (by omega)]; exact c1) (by omega)
      have ku : kd N u = 10 := (wsh hN hu).1
      rw [eX9_writeTighter_0]
      simp only [↓eX9_writeTighter_1, ↓eX9_writeTighter_4, ↓eX9_writeTighter_7, ↓eX9_writeTighter_8, ↓eX9_writeTighter_11, ↓eX9_writeTighter_12, ↓eX9_writeTighter_15, ↓eX9_writeTighter_16, ↓eX9_writeTighter_17, ↓eX9_writeTighter_18, ↓eX9_writeTighter_21, ↓eX9_writeTighter_22, ↓eX9_writeTighter_25, ↓eX9_writeTighter_28, ↓eX9_writeTighter_29, ↓eX9_writeTighter_30, ↓eX9_writeTighter_33, ↓eX9_writeTighter_34, ↓eX9_writeTighter_35, ↓eX9_writeTighter_38, ↓eX9_writeTighter_39, ↓eX9_writeTighter_40, ↓eX9_writeTighter_43, ↓eX9_writeTighter_44, ↓eX9_writeTighter_47, ↓eX9_writeTighter_48, ↓eX9_writeTighter_49, ↓eX9_writeTighter_52, hk18 hN, hr18_9 hN, hk19 hN, hl19 hN, h8, e0, e1, e2, e3, s1, ↓x_tightness, q', w1, ↓fw, ku, Int.cast_ofNat_Int, kd_si, gr_si, ln_si, gi_same, gi_na, gi_ni, nl_i, nl_r, nl_j, nj_i, nj_l, nj_r, true_and, and_true, and_self, cs_0, cs_1, cs_2, cs_3, cs_4, ↓reduceIte, Nat.reduceLeDiff, Nat.reduceEqDiff, Nat.reduceAdd, Int.reduceLE, Int.reduceLT, Int.reduceEq, Int.reduceAdd, Int.reduceNeg, Int.reduceToNat, Int.toNat_natCast, ne_eq, not_false_eq_true, not_true_eq_false, or_true, true_or, or_false, false_or]
      have hop : nops (x :: W) = nops W + 1 := by rw [nops, if_neg hx20]; omega
      refine ih (fun e => ap x (V e)) _ (YF_si (Or.inr (Or.inr (Or.inl ⟨rfl, rfl⟩))) (YF_si (Or.inr (Or.inr (Or.inr ⟨rfl, by omega⟩))) (YF_si (Or.inl ⟨rfl, rfl⟩) hF))) ?_ (fun y hy => hW y (List.mem_cons_of_mem _ hy)) (fun e => ?_) ht (by omega) (fun R r1 r2 => hQ R r1 ?_)
      · have := CS_write (u := u) (M := si N 18 8 (W.length : Nat)) (s := s) (n := n) (W := W) (V := V) (x := -x) (cl := cl) hu (gi_same _ _ _ _) (stk_eq W (fun j _ => by rw [gi_na (by decide)]) s2) (by rw [gi_na (by omega)]; exact c1) c2 (by omega) (gd_eq (fun j _ => by rw [gi_na (by omega)]) c4) (fun e => by rw [rn_eq _ (fun j _ => by rw [gi_na (by omega)]) e]; exact c5 e) (fun e => ⟨fun _ => ⟨by omega, by rw [hV e, hop]; omega⟩, fun z => by omega⟩)
        have ee : (fun e => stp e (-x) (V e)) = fun e => ap x (V e) := by
          funext e
          unfold stp
          rw [if_pos (by omega), Int.neg_neg]
        rw [ee] at this
        exact this
      · rw [ap_len (by rw [hV e, hop]; omega), hV e, hop]
        omega
      · rw [pgW, if_pos q]
        have ee : (fun e => pgV (tg k) (x :: W) (V e)) = fun e => pgV (tg k) W (ap x (V e)) := by
          funext e
          rw [pgV, if_pos q]
        rw [ee]
        exact r2
    · have q' : (tg x < tg k) = True := eq_true (by omega)
      rw [eX9_writeTighter_0]
      simp only [↓eX9_writeTighter_1, ↓eX9_writeTighter_4, ↓eX9_writeTighter_7, ↓eX9_writeTighter_8, ↓eX9_writeTighter_11, ↓eX9_writeTighter_12, ↓eX9_writeTighter_15, ↓eX9_writeTighter_16, ↓eX9_writeTighter_17, ↓eX9_writeTighter_18, ↓eX9_writeTighter_21, ↓eX9_writeTighter_22, ↓eX9_writeTighter_25, ↓eX9_writeTighter_55, hk18 hN, hr18_9 hN, hk19 hN, hl19 hN, h8, e0, e1, e2, e3, s1, ↓x_tightness, q', Int.cast_ofNat_Int, kd_si, gr_si, ln_si, gi_same, gi_na, gi_ni, nl_i, nl_r, nl_j, nj_i, nj_l, nj_r, true_and, and_true, and_self, cs_0, cs_1, cs_2, cs_3, cs_4, ↓reduceIte, Nat.reduceLeDiff, Nat.reduceEqDiff, Nat.reduceAdd, Int.reduceLE, Int.reduceLT, Int.reduceEq, Int.reduceAdd, Int.reduceNeg, Int.reduceToNat, Int.toNat_natCast, ne_eq, not_false_eq_true, not_true_eq_false, or_true, true_or, or_false, false_or]
      refine hQ N hF ?_
      rw [pgW, if_neg q]
      have ee : (fun e => pgV (tg k) (x :: W) (V e)) = V := by
        funext e
        rw [pgV, if_neg q]
      rw [ee]
      exact ⟨h8, ⟨s1, s2⟩, cl, c1, c2, c3, c4, c5⟩
