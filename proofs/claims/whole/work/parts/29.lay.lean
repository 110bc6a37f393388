/-! ===== the class lays notices ===== -/
/-- ints change in cells of P alone -/
def DF (P : Nat → Prop) (M N : mM) : Prop := N.2 = M.2 ∧ ∀ a i, ¬ P a → gi N a i = gi M a i
theorem DF_refl {P : Nat → Prop} {M : mM} : DF P M M := ⟨rfl, fun _ _ _ => rfl⟩
theorem DF_trans {P : Nat → Prop} {M N O : mM} (h : DF P M N) (k : DF P N O) : DF P M O := ⟨k.1.trans h.1, fun a i ha => (k.2 a i ha).trans (h.2 a i ha)⟩
theorem DF_mono {P P' : Nat → Prop} {M N : mM} (hp : ∀ a, P a → P' a) (h : DF P M N) : DF P' M N := ⟨h.1, fun a i ha => h.2 a i (fun w => ha (hp a w))⟩
theorem DF_si {P : Nat → Prop} {M N : mM} {a i : Nat} {z : Int} (ha : P a) (h : DF P M N) : DF P M (si N a i z) := ⟨h.1, fun b j hb => by
  rw [gi_na (fun (e : b = a) => hb (by rw [e]; exact ha))]; exact h.2 b j hb⟩
theorem DF_sw {P : Nat → Prop} {M N : mM} {a : Nat} {f : Nat → Int} (ha : P a) (h : DF P M N) : DF P M (sw N a f) := ⟨h.1, fun b j hb => by
  rw [gi_swn (fun (e : b = a) => hb (by rw [e]; exact ha))]; exact h.2 b j hb⟩
theorem DF_r {P : Nat → Prop} {M N : mM} (h : DF P M N) (a i : Nat) : gr N a i = gr M a i := by unfold gr; rw [h.1]
theorem DF_k {P : Nat → Prop} {M N : mM} (h : DF P M N) (a : Nat) : kd N a = kd M a := by unfold kd; rw [h.1]
theorem DF_l {P : Nat → Prop} {M N : mM} (h : DF P M N) (a : Nat) : ln N a = ln M a := by unfold ln; rw [h.1]
theorem DF_n {P : Nat → Prop} {M N : mM} (h : DF P M N) : nx N = nx M := by unfold nx; rw [h.1]
theorem DF_z {P : Nat → Prop} {M N : mM} (h : DF P M N) : zs N = zs M := by unfold zs; rw [h.1]
theorem DF_SH {P : Nat → Prop} {M N : mM} (h : DF P M N) (s : SH M) : SH N := ⟨fun a ha => by rw [DF_k h]; exact s.1 a ha, fun a ha => by rw [DF_l h]; exact s.2.1 a ha, fun q hq => by rw [DF_r h]; exact s.2.2.1 q hq, by rw [DF_n h]; exact s.2.2.2⟩
theorem DF_FRM {P : Nat → Prop} {M N : mM} (h : DF P M N) : FRM (fun a _ => P a) (fun _ => False) M N := ⟨fun a i _ hn => h.2 a i hn, fun a i _ _ => DF_r h a i, fun a _ => ⟨DF_k h a, DF_l h a⟩, by rw [DF_n h]; exact Nat.le_refl _, by rw [DF_n h, DF_z h]; exact Nat.le_refl _⟩
theorem row_r {M : mM} (h : SH M) {c : Nat} (hc : c < 6) : gr M 6 c = some (7 + c) ∧ kd M (7 + c) = 14 ∧ ln M (7 + c) = 288 := by
  rcases (show c = 0 ∨ c = 1 ∨ c = 2 ∨ c = 3 ∨ c = 4 ∨ c = 5 by omega) with rfl | rfl | rfl | rfl | rfl | rfl
  · exact ⟨hr6_0 h, hk7 h, hl7 h⟩
  · exact ⟨hr6_1 h, hk8 h, hl8 h⟩
  · exact ⟨hr6_2 h, hk9 h, hl9 h⟩
  · exact ⟨hr6_3 h, hk10 h, hl10 h⟩
  · exact ⟨hr6_4 h, hk11 h, hl11 h⟩
  · exact ⟨hr6_5 h, hk12 h, hl12 h⟩
theorem x_layN_loop {C : mC} {Q : mV → mM → Prop} {o : Option Nat} {v : Int} {a u : Nat} (hu : u ≤ 288) : ∀ (r i : Nat) (M : mM), i + r = u → kd M a = 14 → ln M a = 288 → WP C tX1_layNotice 20 [vr (some a), vr o, vi v, vi u, vi i] [] M Q = Q vj (sw M a (fun j => if i ≤ j ∧ j < u then v else gi M a j)) := by
  intro r
  induction r with
  | zero =>
    intro i M hi hk hl
    have e : i = u := by omega
    subst e
    simp only [↓eX1_layNotice_20, ↓eX1_layNotice_22, ↓eX1_layNotice_23, ↓eX1_layNotice_26, ↓eX1_layNotice_27, ↓eX1_layNotice_29, ↓eX1_layNotice_30, ↓eX1_layNotice_31, ↓eX1_layNotice_34, ↓eX1_layNotice_37, Int.le_refl, Int.cast_ofNat_Int, kd_si, gr_si, ln_si, gi_same, gi_na, gi_ni, nl_i, nl_r, nl_j, nj_i, nj_l, nj_r, true_and, and_true, and_self, cs_0, cs_1, cs_2, cs_3, cs_4, ↓reduceIte, Nat.reduceLeDiff, Nat.reduceEqDiff, Nat.reduceAdd, Int.reduceLE, Int.reduceLT, Int.reduceEq, Int.reduceAdd, Int.reduceNeg, Int.reduceToNat, Int.toNat_natCast, ne_eq, not_false_eq_true, not_true_eq_false, or_true, true_or, or_false, false_or]
    have e2 : (fun j => if i ≤ j ∧ j < i then v else gi M a j) = fun j => gi M a j := by
      funext j
      rw [if_neg (by omega)]
    rw [e2, sw_id]
  | succ r ih =>
    intro i M hi hk hl
    have e : ((u : Int) ≤ (i : Int)) = False := eq_false (by omega)
    have e0 : 0 ≤ (i : Int) := by omega
    have e1 : (i : Int) < 288 := by omega
    have e2 : wr ((i : Int) + 1) = ((i + 1 : Nat) : Int) := by rw [wr_id (by omega) (by omega)]; omega
    rw [eX1_layNotice_20]
    simp only [↓eX1_layNotice_22, ↓eX1_layNotice_23, ↓eX1_layNotice_26, ↓eX1_layNotice_27, ↓eX1_layNotice_29, ↓eX1_layNotice_30, ↓eX1_layNotice_31, ↓eX1_layNotice_34, e, e0, e1, e2, hk, hl, Int.cast_ofNat_Int, kd_si, gr_si, ln_si, gi_same, gi_na, gi_ni, nl_i, nl_r, nl_j, nj_i, nj_l, nj_r, true_and, and_true, and_self, cs_0, cs_1, cs_2, cs_3, cs_4, ↓reduceIte, Nat.reduceLeDiff, Nat.reduceEqDiff, Nat.reduceAdd, Int.reduceLE, Int.reduceLT, Int.reduceEq, Int.reduceAdd, Int.reduceNeg, Int.reduceToNat, Int.toNat_natCast, ne_eq, not_false_eq_true, not_true_eq_false, or_true, true_or, or_false, false_or]
    rw [ih (i + 1) (si M a i v) (by omega) hk hl, sw_si]
    congr 1
    refine sw_eq (fun j => ?_)
    by_cases q : j = i
    · subst q
      rw [gi_same, if_neg (by omega), if_pos (by omega)]
    · rw [gi_ni q]
      by_cases q2 : i + 1 ≤ j ∧ j < u
      · rw [if_pos q2, if_pos (by omega)]
      · rw [if_neg q2, if_neg (by omega)]
theorem mMin_l {x y : Int} (h : x ≤ y) : mMin x y = x := by unfold mMin; split <;> omega
theorem mMin_r {x y : Int} (h : y ≤ x) : mMin x y = y := by unfold mMin; split <;> omega
theorem mMax_l {x y : Int} (h : y ≤ x) : mMax x y = x := by unfold mMax; split <;> omega
theorem mMax_r {x y : Int} (h : x ≤ y) : mMax x y = y := by unfold mMax; split <;> omega
theorem x_layNotice {d : Nat} {M : mM} {Q : mV → mM → Prop} {a b : Nat} {v : Int} {f u : Nat} (hk : kd M a = 14) (hl : ln M a = 288) (hb : kd M b = 2) (hf : gi M b 2 = f) (hu : gi M b 3 = u) (h1 : f < u) (h2 : u ≤ 288) : CP (mc (d + 1)) 13 [vr (some a), vr (some b), vi v] M Q = Q vj (sw M a (fun j => if f ≤ j ∧ j < u then v else gi M a j)) := by
  have e1 : mMin (u : Int) 288 = u := mMin_l (by omega)
  have e2 : mMax (f : Int) 0 = f := mMax_l (by omega)
  simp only [↓cpX1_layNotice, ↓eX1_layNotice_0, ↓eX1_layNotice_1, ↓eX1_layNotice_4, ↓eX1_layNotice_5, ↓eX1_layNotice_6, ↓eX1_layNotice_9, ↓eX1_layNotice_10, ↓eX1_layNotice_11, ↓eX1_layNotice_14, ↓eX1_layNotice_15, ↓eX1_layNotice_18, hk, hl, hb, hf, hu, e1, e2, Int.cast_ofNat_Int, kd_si, gr_si, ln_si, gi_same, gi_na, gi_ni, nl_i, nl_r, nl_j, nj_i, nj_l, nj_r, true_and, and_true, and_self, cs_0, cs_1, cs_2, cs_3, cs_4, ↓reduceIte, Nat.reduceLeDiff, Nat.reduceEqDiff, Nat.reduceAdd, Int.reduceLE, Int.reduceLT, Int.reduceEq, Int.reduceAdd, Int.reduceNeg, Int.reduceToNat, Int.toNat_natCast, ne_eq, not_false_eq_true, not_true_eq_false, or_true, true_or, or_false, false_or]
  rw [x_layN_loop h2 (u - f) f M (by omega) hk hl]
theorem hrd_n {M : mM} {s c : Int} {k t : Nat} (h : ¬ (gi M 56 k = 0 ∧ gi M 57 k = s ∧ gi M 58 k = c ∧ gi M 59 k ≤ t ∧ (t : Int) < gi M 60 k)) : hrd M s c (k + 1) t = hrd M s c k t := by rw [hrd, if_neg h]
def isRow (a : Nat) : Prop := 7 ≤ a ∧ a ≤ 13
/-- the facts loop of one source -/
theorem x_lay_in {d : Nat} {M : mM} {Q : mV → mM → Prop} {W n x s : Nat} {rk : Int} {B : Nat → Nat → Int} (h : SH M) (h1 : I1 M) (h3 : I3 M) (hf : FM M) (hn : (n : Int) ≤ gi M 1 2) (hkn : gi M 5 1 = n) (hW : gi M 5 2 = W) (hW2 : gi M 1 0 = W) (hx : kd M x = 7) (hs : gi M x 0 = s) (hx8 : 88 ≤ x)
    (hQ : ∀ N (a4 a5 : mV), DF isRow M N → nl a4 → (∀ c t : Nat, c < W → gi N (7 + c) t = if hrd M s c n t ≠ -1 then vlo M (hrd M s c n t) else B c t) → WP (mc (d + 1)) tX1_layNotices 109 [vr (some 5), vr (some 1), vi rk, vr (some x), a4, a5] [] N Q) :
    ∀ (r i : Nat) (a5 : mV) (N : mM), i + r = n → DF isRow M N → (∀ c t : Nat, c < W → gi N (7 + c) t = if hrd M s c i t ≠ -1 then vlo M (hrd M s c i t) else B c t) → WP (mc (d + 1)) tX1_layNotices 19 [vr (some 5), vr (some 1), vi rk, vr (some x), vi i, a5] [] N Q := by
  have i1 := h1
  obtain ⟨⟨b1, b2, b3⟩, ⟨b4, b5, b6⟩, ⟨b7, b8, b9⟩, -⟩ := i1
  intro r
  induction r with
  | zero =>
    intro i a5 N hi hD hA
    have e : i = n := by omega
    subst e
    have k5 : gi N 5 1 = i := by rw [hD.2 5 1 (by unfold isRow; omega)]; exact hkn
    have hN := DF_SH hD h
    simp only [↓eX1_layNotices_19, ↓eX1_layNotices_21, ↓eX1_layNotices_22, ↓eX1_layNotices_25, hk5 hN, k5, Int.le_refl, Int.cast_ofNat_Int, kd_si, gr_si, ln_si, gi_same, gi_na, gi_ni, nl_i, nl_r, nl_j, nj_i, nj_l, nj_r, true_and, and_true, and_self, cs_0, cs_1, cs_2, cs_3, cs_4, ↓reduceIte, Nat.reduceLeDiff, Nat.reduceEqDiff, Nat.reduceAdd, Int.reduceLE, Int.reduceLT, Int.reduceEq, Int.reduceAdd, Int.reduceNeg, Int.reduceToNat, Int.toNat_natCast, ne_eq, not_false_eq_true, not_true_eq_false, or_true, true_or, or_false, false_or]
    exact hQ N _ _ hD (nlI _) hA
  | succ r ih =>
    intro i a5 N hi hD hA
    have hN := DF_SH hD h
    have k5 : gi N 5 1 = n := by rw [hD.2 5 1 (by unfold isRow; omega)]; exact hkn
    have k52 : gi N 5 2 = W := by rw [hD.2 5 2 (by unfold isRow; omega)]; exact hW
    have k12 : gi N 1 2 = gi M 1 2 := hD.2 1 2 (by unfold isRow; omega)
    have e : ((n : Int) ≤ (i : Int)) = False := eq_false (by omega)
    have e2 : wr ((i : Int) + 1) = ((i + 1 : Nat) : Int) := by rw [wr_id (by omega) (by omega)]; omega
    obtain ⟨a, ha8, han, ha, hka, g1, g2, g3, g4⟩ := h3.2 i (by omega)
    have hra : ¬ isRow a := by unfold isRow; omega
    have hrx : ¬ isRow x := by unfold isRow; omega
    have fa := fun (Q : mV → mM → Prop) => x_factAt (d := d) (Q := Q) (k := i) hN (by omega) (by omega)
    have ha' : gr N 4 i = some a := by rw [DF_r hD]; exact ha
    have hka' : kd N a = 2 := by rw [DF_k hD]; exact hka
    have hx' : kd N x = 7 := by rw [DF_k hD]; exact hx
    have hs' : gi N x 0 = s := by rw [hD.2 x 0 hrx]; exact hs
    have gN := fun j => hD.2 a j hra
    obtain ⟨f1, f2, f3, f4⟩ := hf i (by omega)
    have key : ∀ (a5 : mV) (N : mM), DF isRow M N → (∀ c t : Nat, c < W → gi N (7 + c) t = if hrd M s c (i + 1) t ≠ -1 then vlo M (hrd M s c (i + 1) t) else B c t) → WP (mc (d + 1)) tX1_layNotices 103 [vr (some 5), vr (some 1), vi rk, vr (some x), vi i, a5] [] N Q := by
      intro a5 N hD hA
      simp only [↓eX1_layNotices_103, ↓eX1_layNotices_106, e2, Int.cast_ofNat_Int, kd_si, gr_si, ln_si, gi_same, gi_na, gi_ni, nl_i, nl_r, nl_j, nj_i, nj_l, nj_r, true_and, and_true, and_self, cs_0, cs_1, cs_2, cs_3, cs_4, ↓reduceIte, Nat.reduceLeDiff, Nat.reduceEqDiff, Nat.reduceAdd, Int.reduceLE, Int.reduceLT, Int.reduceEq, Int.reduceAdd, Int.reduceNeg, Int.reduceToNat, Int.toNat_natCast, ne_eq, not_false_eq_true, not_true_eq_false, or_true, true_or, or_false, false_or]
      exact ih (i + 1) a5 N (by omega) hD hA
    rw [eX1_layNotices_19]
    rcases f1 with f1 | f1
    · obtain ⟨q1, q2, q3, q4, q5⟩ := g3 f1
      obtain ⟨⟨p1, p2⟩, ⟨p3, p4, p5⟩, -⟩ := f3 f1
      obtain ⟨y, hy8, -, hy, hky, hy0, -⟩ := h3.1 (gi M 57 i).toNat (by omega)
      have hry : ¬ isRow y := by unfold isRow; omega
      have hy1 : gi N y 0 = gi M 57 i := by rw [hD.2 y 0 hry, hy0]; omega
      have fw := fun (Q : mV → mM → Prop) => x_isWordOf (d := d) (M := N) (Q := Q) (b := x) hka' (by rw [DF_r hD]; exact q1.trans hy) (by rw [DF_k hD]; exact hky) hx'
      simp only [↓eX1_layNotices_21, ↓eX1_layNotices_22, ↓eX1_layNotices_25, ↓eX1_layNotices_28, ↓eX1_layNotices_29, ↓eX1_layNotices_32, ↓eX1_layNotices_33, ↓eX1_layNotices_35, ↓eX1_layNotices_38, ↓eX1_layNotices_40, ↓eX1_layNotices_42, ↓eX1_layNotices_45, ↓eX1_layNotices_47, ↓eX1_layNotices_48, ↓eX1_layNotices_51, e, k5, ↓fa, ha', ↓fw, hka', hk1 hN, hk5 hN, hs', hy1, reduceCtorEq, Int.cast_ofNat_Int, kd_si, gr_si, ln_si, gi_same, gi_na, gi_ni, nl_i, nl_r, nl_j, nj_i, nj_l, nj_r, true_and, and_true, and_self, cs_0, cs_1, cs_2, cs_3, cs_4, ↓reduceIte, Nat.reduceLeDiff, Nat.reduceEqDiff, Nat.reduceAdd, Int.reduceLE, Int.reduceLT, Int.reduceEq, Int.reduceAdd, Int.reduceNeg, Int.reduceToNat, Int.toNat_natCast, ne_eq, not_false_eq_true, not_true_eq_false, or_true, true_or, or_false, false_or]
      by_cases z1 : gi M 57 i = s
      · rw [if_pos z1]
        obtain ⟨ch, hch⟩ : ∃ c : Nat, gi M 58 i = c := ⟨(gi M 58 i).toNat, by omega⟩
        have c1 : gi N a 1 = ch := by rw [gN, g1, hch]
        have cW : ch < W := by omega
        have c2 : ((ch : Int) < 0) = False := eq_false (by omega)
        have c3 : ((W : Int) ≤ (ch : Int)) = False := eq_false (by omega)
        have c4 : (0 ≤ (ch : Int)) = True := eq_true (by omega)
        have c5 : ((ch : Int) < 6) = True := eq_true (by omega)
        obtain ⟨r1, r2, r3⟩ := row_r hN (c := ch) (by omega)
        obtain ⟨fr, hfr⟩ : ∃ c : Nat, gi M 59 i = c := ⟨(gi M 59 i).toNat, by omega⟩
        obtain ⟨un, hun⟩ : ∃ c : Nat, gi M 60 i = c := ⟨(gi M 60 i).toNat, by omega⟩
        have fl := fun (v : Int) (Q : mV → mM → Prop) => x_layNotice (d := d) (Q := Q) (v := v) (f := fr) (u := un) r2 r3 hka' (by rw [gN, g2, hfr]) (by rw [gN, q2, hun]) (by omega) (by omega)
        have done : ∀ v : Int, v = vlo M i → WP (mc (d + 1)) tX1_layNotices 103 [vr (some 5), vr (some 1), vi rk, vr (some x), vi i, vr (some a)] [] (sw N (7 + ch) (fun j => if fr ≤ j ∧ j < un then v else gi N (7 + ch) j)) Q := by
          intro v hv
          refine key _ _ (DF_sw (by unfold isRow; omega) hD) (fun c t hc => ?_)
          rw [hrd]
          by_cases y1 : c = ch
          · subst y1
            rw [gi_sws]
            by_cases y2 : fr ≤ t ∧ t < un
            · rw [if_pos y2, if_pos (c := gi M 56 i = 0 ∧ gi M 57 i = ↑s ∧ gi M 58 i = ↑c ∧ gi M 59 i ≤ ↑t ∧ (t : Int) < gi M 60 i) ⟨f1, z1, hch, by omega, by omega⟩, if_pos (by omega), hv]
            · rw [if_neg y2, if_neg (c := gi M 56 i = 0 ∧ gi M 57 i = ↑s ∧ gi M 58 i = ↑c ∧ gi M 59 i ≤ ↑t ∧ (t : Int) < gi M 60 i) (fun w => by omega)]
              exact hA c t hc
          · rw [gi_swn (by omega), if_neg (c := gi M 56 i = 0 ∧ gi M 57 i = ↑s ∧ gi M 58 i = ↑c ∧ gi M 59 i ≤ ↑t ∧ (t : Int) < gi M 60 i) (fun w => by omega)]
            exact hA c t hc
        have t4 : gi N a 4 = gi M 61 i := by rw [gN, q3]
        simp only [↓eX1_layNotices_54, ↓eX1_layNotices_56, ↓eX1_layNotices_59, ↓eX1_layNotices_62, ↓eX1_layNotices_64, ↓eX1_layNotices_67, ↓eX1_layNotices_68, ↓eX1_layNotices_71, ↓eX1_layNotices_74, ↓eX1_layNotices_75, ↓eX1_layNotices_78, ↓eX1_layNotices_80, ↓eX1_layNotices_83, ↓eX1_layNotices_84, ↓eX1_layNotices_86, ↓eX1_layNotices_88, ↓eX1_layNotices_91, hka', c1, c2, c3, c4, c5, k52, hk5 hN, hr5_3 hN, hk6 hN, hl6 hN, r1, t4, reduceCtorEq, Int.cast_ofNat_Int, kd_si, gr_si, ln_si, gi_same, gi_na, gi_ni, nl_i, nl_r, nl_j, nj_i, nj_l, nj_r, true_and, and_true, and_self, cs_0, cs_1, cs_2, cs_3, cs_4, ↓reduceIte, Nat.reduceLeDiff, Nat.reduceEqDiff, Nat.reduceAdd, Int.reduceLE, Int.reduceLT, Int.reduceEq, Int.reduceAdd, Int.reduceNeg, Int.reduceToNat, Int.toNat_natCast, ne_eq, not_false_eq_true, not_true_eq_false, or_true, true_or, or_false, false_or]
        by_cases z2 : gi M 61 i = 0
        · rw [if_pos z2]
          simp only [↓eX1_layNotices_94, ↓eX1_layNotices_95, ↓eX1_layNotices_98, ↓eX1_layNotices_100, ↓fl, Int.cast_ofNat_Int, kd_si, gr_si, ln_si, gi_same, gi_na, gi_ni, nl_i, nl_r, nl_j, nj_i, nj_l, nj_r, true_and, and_true, and_self, cs_0, cs_1, cs_2, cs_3, cs_4, ↓reduceIte, Nat.reduceLeDiff, Nat.reduceEqDiff, Nat.reduceAdd, Int.reduceLE, Int.reduceLT, Int.reduceEq, Int.reduceAdd, Int.reduceNeg, Int.reduceToNat, Int.toNat_natCast, ne_eq, not_false_eq_true, not_true_eq_false, or_true, true_or, or_false, false_or]
          refine done _ ?_
          unfold vlo
          rw [if_pos ⟨by omega, by rw [Int.toNat_natCast]; exact z2⟩]
        · rw [if_neg z2]
          simp only [↓eX1_layNotices_94, ↓eX1_layNotices_95, ↓eX1_layNotices_98, ↓eX1_layNotices_100, ↓fl, Int.cast_ofNat_Int, kd_si, gr_si, ln_si, gi_same, gi_na, gi_ni, nl_i, nl_r, nl_j, nj_i, nj_l, nj_r, true_and, and_true, and_self, cs_0, cs_1, cs_2, cs_3, cs_4, ↓reduceIte, Nat.reduceLeDiff, Nat.reduceEqDiff, Nat.reduceAdd, Int.reduceLE, Int.reduceLT, Int.reduceEq, Int.reduceAdd, Int.reduceNeg, Int.reduceToNat, Int.toNat_natCast, ne_eq, not_false_eq_true, not_true_eq_false, or_true, true_or, or_false, false_or]
          refine done _ ?_
          unfold vlo
          rw [if_neg (fun w => z2 (by have := w.2; rwa [Int.toNat_natCast] at this))]
      · rw [if_neg z1]
        refine key _ _ hD (fun c t hc => ?_)
        rw [hrd_n (fun w => z1 w.2.1)]
        exact hA c t hc
    · obtain ⟨q1, -⟩ := g4 f1
      have fw := fun (Q : mV → mM → Prop) => x_isWordOf0 (d := d) (M := N) (Q := Q) (b := x) hka' (by rw [DF_r hD]; exact q1)
      simp only [↓eX1_layNotices_21, ↓eX1_layNotices_22, ↓eX1_layNotices_25, ↓eX1_layNotices_28, ↓eX1_layNotices_29, ↓eX1_layNotices_32, ↓eX1_layNotices_33, ↓eX1_layNotices_35, ↓eX1_layNotices_38, ↓eX1_layNotices_40, ↓eX1_layNotices_42, ↓eX1_layNotices_45, ↓eX1_layNotices_47, ↓eX1_layNotices_48, ↓eX1_layNotices_51, e, k5, ↓fa, ha', ↓fw, hka', hk1 hN, hk5 hN, reduceCtorEq, Int.cast_ofNat_Int, kd_si, gr_si, ln_si, gi_same, gi_na, gi_ni, nl_i, nl_r, nl_j, nj_i, nj_l, nj_r, true_and, and_true, and_self, cs_0, cs_1, cs_2, cs_3, cs_4, ↓reduceIte, Nat.reduceLeDiff, Nat.reduceEqDiff, Nat.reduceAdd, Int.reduceLE, Int.reduceLT, Int.reduceEq, Int.reduceAdd, Int.reduceNeg, Int.reduceToNat, Int.toNat_natCast, ne_eq, not_false_eq_true, not_true_eq_false, or_true, true_or, or_false, false_or]
      refine key _ _ hD (fun c t hc => ?_)
      rw [hrd_n (fun w => by omega)]
      exact hA c t hc
