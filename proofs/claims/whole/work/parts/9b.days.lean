/-! ===== pairs: sent, showings, showing, holds ===== -/
theorem x_sentN {d : Nat} {M : mM} {Q : mV → mM → Prop} {c t n : Int} (h : SH M) (q : ¬ ((0 ≤ c ∧ c < gi M 1 0) ∧ (0 ≤ t ∧ t < 288) ∧ 0 ≤ n ∧ n ≤ gi M 1 2)) : CP (mc (d + 2)) 112 [vr (some 0), vi c, vi t, vi n] M Q = Q (vi (-1)) M := by
  have fh := fun (Q : mV → mM → Prop) => x_hasChannel (d := d) (M := M) (Q := Q) (n := c) h
  have fk := fun (Q : mV → mM → Prop) => x_isKnown (d := d) (M := M) (Q := Q) (n := n) h
  by_cases q1 : 0 ≤ c ∧ c < gi M 1 0
  · simp only [if_pos q1] at fh
    by_cases q2 : t < 0
    · simp only [↓cpX11_sent, ↓eX11_sent_0, ↓eX11_sent_1, ↓eX11_sent_4, ↓eX11_sent_5, ↓eX11_sent_8, ↓eX11_sent_11, ↓eX11_sent_12, ↓eX11_sent_15, ↓eX11_sent_16, ↓eX11_sent_19, ↓eX11_sent_22, ↓eX11_sent_23, ↓eX11_sent_26, ↓eX11_sent_27, ↓eX11_sent_30, ↓eX11_sent_33, ↓eX11_sent_34, ↓eX11_sent_35, ↓eX11_sent_36, ↓eX11_sent_39, ↓eX11_sent_40, ↓eX11_sent_43, ↓eX11_sent_44, hk0 h, hr0_0 h, hk1 h, ↓fh, q2, Int.cast_ofNat_Int, kd_si, gr_si, ln_si, gi_same, gi_na, gi_ni, nl_i, nl_r, nl_j, nj_i, nj_l, nj_r, true_and, and_true, and_self, cs_0, cs_1, cs_2, cs_3, cs_4, ↓reduceIte, Nat.reduceLeDiff, Nat.reduceEqDiff, Nat.reduceAdd, Int.reduceLE, Int.reduceLT, Int.reduceEq, Int.reduceAdd, Int.reduceNeg, Int.reduceToNat, Int.toNat_natCast, ne_eq, not_false_eq_true, not_true_eq_false, or_true, true_or, or_false, false_or]
    · by_cases q3 : 288 ≤ t
      · simp only [↓cpX11_sent, ↓eX11_sent_0, ↓eX11_sent_1, ↓eX11_sent_4, ↓eX11_sent_5, ↓eX11_sent_8, ↓eX11_sent_11, ↓eX11_sent_12, ↓eX11_sent_15, ↓eX11_sent_16, ↓eX11_sent_19, ↓eX11_sent_22, ↓eX11_sent_23, ↓eX11_sent_26, ↓eX11_sent_27, ↓eX11_sent_30, ↓eX11_sent_33, ↓eX11_sent_34, ↓eX11_sent_35, ↓eX11_sent_36, ↓eX11_sent_39, ↓eX11_sent_40, ↓eX11_sent_43, ↓eX11_sent_44, hk0 h, hr0_0 h, hk1 h, ↓fh, q2, q3, Int.cast_ofNat_Int, kd_si, gr_si, ln_si, gi_same, gi_na, gi_ni, nl_i, nl_r, nl_j, nj_i, nj_l, nj_r, true_and, and_true, and_self, cs_0, cs_1, cs_2, cs_3, cs_4, ↓reduceIte, Nat.reduceLeDiff, Nat.reduceEqDiff, Nat.reduceAdd, Int.reduceLE, Int.reduceLT, Int.reduceEq, Int.reduceAdd, Int.reduceNeg, Int.reduceToNat, Int.toNat_natCast, ne_eq, not_false_eq_true, not_true_eq_false, or_true, true_or, or_false, false_or]
      · have q4 : ¬ (0 ≤ n ∧ n ≤ gi M 1 2) := fun w => q ⟨q1, by omega, w⟩
        simp only [if_neg q4] at fk
        simp only [↓cpX11_sent, ↓eX11_sent_0, ↓eX11_sent_1, ↓eX11_sent_4, ↓eX11_sent_5, ↓eX11_sent_8, ↓eX11_sent_11, ↓eX11_sent_12, ↓eX11_sent_15, ↓eX11_sent_16, ↓eX11_sent_19, ↓eX11_sent_22, ↓eX11_sent_23, ↓eX11_sent_26, ↓eX11_sent_27, ↓eX11_sent_30, ↓eX11_sent_33, ↓eX11_sent_34, ↓eX11_sent_35, ↓eX11_sent_36, ↓eX11_sent_39, ↓eX11_sent_40, ↓eX11_sent_43, ↓eX11_sent_44, hk0 h, hr0_0 h, hk1 h, ↓fh, ↓fk, q2, q3, Int.cast_ofNat_Int, kd_si, gr_si, ln_si, gi_same, gi_na, gi_ni, nl_i, nl_r, nl_j, nj_i, nj_l, nj_r, true_and, and_true, and_self, cs_0, cs_1, cs_2, cs_3, cs_4, ↓reduceIte, Nat.reduceLeDiff, Nat.reduceEqDiff, Nat.reduceAdd, Int.reduceLE, Int.reduceLT, Int.reduceEq, Int.reduceAdd, Int.reduceNeg, Int.reduceToNat, Int.toNat_natCast, ne_eq, not_false_eq_true, not_true_eq_false, or_true, true_or, or_false, false_or]
  · simp only [if_neg q1] at fh
    simp only [↓cpX11_sent, ↓eX11_sent_0, ↓eX11_sent_1, ↓eX11_sent_4, ↓eX11_sent_5, ↓eX11_sent_8, ↓eX11_sent_11, ↓eX11_sent_12, ↓eX11_sent_15, ↓eX11_sent_16, ↓eX11_sent_19, ↓eX11_sent_22, ↓eX11_sent_23, ↓eX11_sent_26, ↓eX11_sent_27, ↓eX11_sent_30, ↓eX11_sent_33, ↓eX11_sent_34, ↓eX11_sent_35, ↓eX11_sent_36, ↓eX11_sent_39, ↓eX11_sent_40, ↓eX11_sent_43, ↓eX11_sent_44, hk0 h, hr0_0 h, hk1 h, ↓fh, Int.cast_ofNat_Int, kd_si, gr_si, ln_si, gi_same, gi_na, gi_ni, nl_i, nl_r, nl_j, nj_i, nj_l, nj_r, true_and, and_true, and_self, cs_0, cs_1, cs_2, cs_3, cs_4, ↓reduceIte, Nat.reduceLeDiff, Nat.reduceEqDiff, Nat.reduceAdd, Int.reduceLE, Int.reduceLT, Int.reduceEq, Int.reduceAdd, Int.reduceNeg, Int.reduceToNat, Int.toNat_natCast, ne_eq, not_false_eq_true, not_true_eq_false, or_true, true_or, or_false, false_or]
theorem y_sentN {d : Nat} {M : mM} {Q : mV → mM → Prop} {c t n : Int} (h : SH M) (q : ¬ ((0 ≤ c ∧ c < gi M 35 34) ∧ (0 ≤ t ∧ t < 288) ∧ 0 ≤ n ∧ n ≤ gi M 35 37)) : CP (mc (d + 2)) 160 [vr (some 35), vi c, vi t, vi n] M Q = Q (vi (-1)) M := by
  have fh := fun (Q : mV → mM → Prop) => y_isChannel (d := d) (M := M) (Q := Q) (n := c) h
  have fs := fun (Q : mV → mM → Prop) => y_isSlot (d := d) (M := M) (Q := Q) (a := t)
  have fk := fun (Q : mV → mM → Prop) => y_isKnown (d := d) (M := M) (Q := Q) (n := n) h
  by_cases q1 : 0 ≤ c ∧ c < gi M 35 34
  · simp only [if_pos q1] at fh
    by_cases q2 : 0 ≤ t ∧ t < 288
    · have q4 : ¬ (0 ≤ n ∧ n ≤ gi M 35 37) := fun w => q ⟨q1, q2, w⟩
      simp only [if_pos q2] at fs
      simp only [if_neg q4] at fk
      simp only [↓cpX12_sent, ↓eX12_sent_0, ↓eX12_sent_1, ↓eX12_sent_2, ↓eX12_sent_5, ↓eX12_sent_8, ↓eX12_sent_9, ↓eX12_sent_12, ↓eX12_sent_15, ↓eX12_sent_16, ↓eX12_sent_17, ↓eX12_sent_20, ↓eX12_sent_23, ↓eX12_sent_24, ↓eX12_sent_25, ↓eX12_sent_26, ↓eX12_sent_27, hk35 h, ↓fh, ↓fs, ↓fk, Int.cast_ofNat_Int, kd_si, gr_si, ln_si, gi_same, gi_na, gi_ni, nl_i, nl_r, nl_j, nj_i, nj_l, nj_r, true_and, and_true, and_self, cs_0, cs_1, cs_2, cs_3, cs_4, ↓reduceIte, Nat.reduceLeDiff, Nat.reduceEqDiff, Nat.reduceAdd, Int.reduceLE, Int.reduceLT, Int.reduceEq, Int.reduceAdd, Int.reduceNeg, Int.reduceToNat, Int.toNat_natCast, ne_eq, not_false_eq_true, not_true_eq_false, or_true, true_or, or_false, false_or]
    · simp only [if_neg q2] at fs
      simp only [↓cpX12_sent, ↓eX12_sent_0, ↓eX12_sent_1, ↓eX12_sent_2, ↓eX12_sent_5, ↓eX12_sent_8, ↓eX12_sent_9, ↓eX12_sent_12, ↓eX12_sent_15, ↓eX12_sent_16, ↓eX12_sent_17, ↓eX12_sent_20, ↓eX12_sent_23, ↓eX12_sent_24, ↓eX12_sent_25, ↓eX12_sent_26, ↓eX12_sent_27, hk35 h, ↓fh, ↓fs, Int.cast_ofNat_Int, kd_si, gr_si, ln_si, gi_same, gi_na, gi_ni, nl_i, nl_r, nl_j, nj_i, nj_l, nj_r, true_and, and_true, and_self, cs_0, cs_1, cs_2, cs_3, cs_4, ↓reduceIte, Nat.reduceLeDiff, Nat.reduceEqDiff, Nat.reduceAdd, Int.reduceLE, Int.reduceLT, Int.reduceEq, Int.reduceAdd, Int.reduceNeg, Int.reduceToNat, Int.toNat_natCast, ne_eq, not_false_eq_true, not_true_eq_false, or_true, true_or, or_false, false_or]
  · simp only [if_neg q1] at fh
    simp only [↓cpX12_sent, ↓eX12_sent_0, ↓eX12_sent_1, ↓eX12_sent_2, ↓eX12_sent_5, ↓eX12_sent_8, ↓eX12_sent_9, ↓eX12_sent_12, ↓eX12_sent_15, ↓eX12_sent_16, ↓eX12_sent_17, ↓eX12_sent_20, ↓eX12_sent_23, ↓eX12_sent_24, ↓eX12_sent_25, ↓eX12_sent_26, ↓eX12_sent_27, hk35 h, ↓fh, Int.cast_ofNat_Int, kd_si, gr_si, ln_si, gi_same, gi_na, gi_ni, nl_i, nl_r, nl_j, nj_i, nj_l, nj_r, true_and, and_true, and_self, cs_0, cs_1, cs_2, cs_3, cs_4, ↓reduceIte, Nat.reduceLeDiff, Nat.reduceEqDiff, Nat.reduceAdd, Int.reduceLE, Int.reduceLT, Int.reduceEq, Int.reduceAdd, Int.reduceNeg, Int.reduceToNat, Int.toNat_natCast, ne_eq, not_false_eq_true, not_true_eq_false, or_true, true_or, or_false, false_or]
/-- behind a survey of the class: what the reference's day needs -/
theorem day_told {M N : mM} (h : SH M) (hF : FRM (dayS M) colT M N) : gi N 1 2 = gi M 1 2 ∧ gi N 1 0 = gi M 1 0 := by
  have h8 := h.2.2.2
  exact ⟨hF.1 1 2 (by omega) (by unfold dayS isRow; rw [hk1 h]; omega), hF.1 1 0 (by omega) (by unfold dayS isRow; rw [hk1 h]; omega)⟩
theorem GROW_FRM {S : Nat → Nat → Prop} {T : Nat → Prop} {M N : mM} (h : FRM S T M N) (hn : nx N ≤ nx M + 614) : GROW M N := ⟨h.2.2.2.1, hn, h.2.2.2.2⟩
theorem GROW_Y {S : Nat → Nat → Prop} {M N R : mM} (h : GROW M N) (y : YF S N R) : GROW M R := by
  have h1 := YF_n y
  have h2 : zs R = zs N := DF_z (YF_DFk y)
  obtain ⟨a, b, c⟩ := h
  unfold GROW
  omega
theorem p_sent (c t n : Int) : PAIR 112 160 [vi c, vi t, vi n] := fun M hI => by
  have h := hI.1.1
  obtain ⟨⟨a1, a2, a3⟩, -, ⟨a7, a8, a9⟩, -⟩ := hI.1.2.1
  by_cases q : (0 ≤ c ∧ c < gi M 1 0) ∧ (0 ≤ t ∧ t < 288) ∧ 0 ≤ n ∧ n ≤ gi M 1 2
  · obtain ⟨⟨q1, q2⟩, ⟨q3, q4⟩, q5, q6⟩ := q
    obtain ⟨c', rfl⟩ : ∃ k : Nat, c = k := ⟨c.toNat, by omega⟩
    obtain ⟨t', rfl⟩ : ∃ k : Nat, t = k := ⟨t.toNat, by omega⟩
    obtain ⟨n', rfl⟩ : ∃ k : Nat, n = k := ⟨n.toNat, by omega⟩
    refine x_sentG (d := 13) hI.1 q2 (by omega) q6 (fun N hF tN hx => ⟨_, rfl, ?_⟩)
    obtain ⟨e12, e10⟩ := day_told h hF
    have i37 := tN.2.1.2.2.1
    refine y_sentG (d := 16) tN (by omega) (by omega) (by omega) (fun R yR tR => ⟨?_, ⟨tR, REST_md yR (REST_day h hF hI.2)⟩, GROW_Y (GROW_FRM hF (by omega)) yR⟩)
    rw [dyD tN.2.2.2.1 (by omega) (YF_fe yR n')]
  · rw [x_sentN (d := 17) h q]
    refine ⟨_, rfl, ?_⟩
    rw [y_sentN (d := 17) h (by rw [a3, a9]; exact q)]
    exact ⟨rfl, hI, GROW_refl⟩
theorem p_showings (n : Int) : PAIR 115 168 [vi n] := fun M hI => by
  have h := hI.1.1
  obtain ⟨⟨a1, a2, a3⟩, -, ⟨a7, a8, a9⟩, -⟩ := hI.1.2.1
  by_cases q : 0 ≤ n ∧ n ≤ gi M 1 2
  · obtain ⟨n', rfl⟩ : ∃ k : Nat, n = k := ⟨n.toNat, by omega⟩
    refine x_showingsG (d := 13) hI.1 q.2 (fun N W hF tN hW hx => ⟨_, rfl, ?_⟩)
    obtain ⟨e12, e10⟩ := day_told h hF
    have i37 := tN.2.1.2.2.1
    refine y_showingsG (d := 16) tN (by omega) (fun R W' yR tR hW' => ⟨?_, ⟨tR, REST_md yR (REST_day h hF hI.2)⟩, GROW_Y (GROW_FRM hF (by omega)) yR⟩)
    have eW : W' = W := by omega
    rw [dyD tN.2.2.2.1 (by omega) (YF_fe yR n'), eW]
  · have fk := fun (Q : mV → mM → Prop) => x_isKnown (d := 17) (M := M) (Q := Q) (n := n) h
    have fy := fun (Q : mV → mM → Prop) => y_isKnown (d := 17) (M := M) (Q := Q) (n := n) h
    have q' : ¬ (0 ≤ n ∧ n ≤ gi M 35 37) := by rw [a9]; exact q
    simp only [if_neg q] at fk
    simp only [if_neg q'] at fy
    have e1 : ∀ Q : mV → mM → Prop, CP (mc 19) 115 [vr (some 0), vi n] M Q = Q (vi (-1)) M := fun Q => by
      simp only [↓cpX11_showings, ↓eX11_showings_0, ↓eX11_showings_1, ↓eX11_showings_4, ↓eX11_showings_5, ↓eX11_showings_8, ↓eX11_showings_11, ↓eX11_showings_12, hk0 h, hr0_0 h, hk1 h, ↓fk, Int.cast_ofNat_Int, kd_si, gr_si, ln_si, gi_same, gi_na, gi_ni, nl_i, nl_r, nl_j, nj_i, nj_l, nj_r, true_and, and_true, and_self, cs_0, cs_1, cs_2, cs_3, cs_4, ↓reduceIte, Nat.reduceLeDiff, Nat.reduceEqDiff, Nat.reduceAdd, Int.reduceLE, Int.reduceLT, Int.reduceEq, Int.reduceAdd, Int.reduceNeg, Int.reduceToNat, Int.toNat_natCast, ne_eq, not_false_eq_true, not_true_eq_false, or_true, true_or, or_false, false_or]
    have e2 : ∀ Q : mV → mM → Prop, CP (mc 19) 168 [vr (some 35), vi n] M Q = Q (vi (-1)) M := fun Q => by
      simp only [↓cpX12_showings, ↓eX12_showings_0, ↓eX12_showings_1, ↓eX12_showings_2, ↓eX12_showings_5, ↓eX12_showings_8, ↓eX12_showings_9, hk35 h, ↓fy, Int.cast_ofNat_Int, kd_si, gr_si, ln_si, gi_same, gi_na, gi_ni, nl_i, nl_r, nl_j, nj_i, nj_l, nj_r, true_and, and_true, and_self, cs_0, cs_1, cs_2, cs_3, cs_4, ↓reduceIte, Nat.reduceLeDiff, Nat.reduceEqDiff, Nat.reduceAdd, Int.reduceLE, Int.reduceLT, Int.reduceEq, Int.reduceAdd, Int.reduceNeg, Int.reduceToNat, Int.toNat_natCast, ne_eq, not_false_eq_true, not_true_eq_false, or_true, true_or, or_false, false_or]
    rw [e1]
    refine ⟨_, rfl, ?_⟩
    rw [e2]
    exact ⟨rfl, hI, GROW_refl⟩
/-! showing -/
theorem dbt_F {M : mM} {F G : Nat → Int} {k m : Nat} (h : ∀ j, j < m → F j = G j) (hk : k < m) : ∀ r j, j + r = m → dbt M F k r j = dbt M G k r j := by
  intro r
  induction r with
  | zero => intro j _; rfl
  | succ r ih =>
    intro j hj
    rw [dbt, dbt, h k hk, h j (by omega), ih (j + 1) (by omega)]
theorem dbt_M {M N : mM} {F : Nat → Int} {k m : Nat} (h : ∀ j, j < m → gi N 61 (F j).toNat = gi M 61 (F j).toNat ∧ gi N 62 (F j).toNat = gi M 62 (F j).toNat) (hk : k < m) : ∀ r j, j + r = m → dbt N F k r j = dbt M F k r j := by
  intro r
  induction r with
  | zero => intro j _; rfl
  | succ r ih =>
    intro j hj
    rw [dbt, dbt, (h k hk).1, (h k hk).2, (h j (by omega)).1, (h j (by omega)).2, ih (j + 1) (by omega)]
theorem shv_fe {M N : mM} {n W k : Nat} {wt what : Int} (hf : FM M) (hn : (n : Int) ≤ gi M 35 37) (h : fe n M N) (hk : k < cnt (dy M n) W 288) : shv N (dy M n) W k wt what = shv M (dy M n) W k wt what := by
  obtain ⟨-, a, b, c, -⟩ := enP_fe (W := W) hf hn h hk
  unfold shv
  rw [a, b, c, dbt_M (fun j hj => ⟨(enP_fe (W := W) hf hn h hj).2.2.1, (enP_fe (W := W) hf hn h hj).2.2.2.1⟩) hk _ 0 (by omega)]
section SHOW
variable {d n W k a u R : Nat} {N : mM} {Q : mV → mM → Prop} {me : Nat → Env → Int} {mt : Nat → Int} {what k' n' : Int}
/-- the class's answers of a showing, all of them -/
theorem x_showing_a (hT : TI N) (hd : DAYC N n W) (hn : (n : Int) ≤ gi N 35 37) (hk : k < cnt (dy N n) W 288) (ha : gr N 14 k = some a) (hs : shob N N (dy N n) W k a) (g5 : gr N 0 5 = some u) (hu : u = 21 ∨ u = 26) (hR : gi N u 0 = R) (hR20 : R ≤ 20) (hRU : RU u N R me mt)
    (hQ : ∀ P, YF skS N P → Q (vi (shv N (dy N n) W k (wgh me mt (enP N (dy N n) W k) R 0 0) what)) P) : WP (mc (d + 6)) tX11_showing 15 [vr (some 0), vi k', vi n', vi what, vr (some a)] [] N Q := by
  have h := hT.1
  have hf := hT.2.2.2.1
  have i37 := hT.2.1.2.2.1
  have c6 := cnt_600 hf hn W
  have o1 := hT.2.2.2.2.2.1.1.1 k a (by omega) ha
  by_cases z6 : what = 6
  · subst z6
    have lv : gi N a 8 = 0 ∨ gi N a 8 = 1 := by
      obtain ⟨-, -, -, -, -, -, -, -, -, s8, -⟩ := hs
      rw [s8]
      obtain ⟨f, e, f1, f2, -⟩ := sF_n hf hn hk
      rw [e, Int.toNat_natCast]
      exact ((hf f (by omega)).2.2.1 f2).2.2.2.2
    have wg := x_weigh (d := d + 3) (M := N) (Q := fun v P => v ≠ vj ∧ WP (mc (d + 6)) tX11_showing 113 [vr (some 0), vi k', vi n', vi 6, vr (some a)] [v] P Q) h hu hs.1 o1.1 lv hR hR20 hRU (fun P dP => ⟨(fun x => by cases x), by
      rw [enC_P hs]
      simp only [↓eX11_showing_113]
      exact hQ P (YF_mono (fun b i w => by unfold skS; omega) (YF_DF dP))⟩)
    simp only [↓eX11_showing_15, ↓eX11_showing_16, ↓eX11_showing_68, ↓eX11_showing_70, ↓eX11_showing_73, ↓eX11_showing_74, ↓eX11_showing_76, ↓eX11_showing_79, ↓eX11_showing_80, ↓eX11_showing_82, ↓eX11_showing_85, ↓eX11_showing_86, ↓eX11_showing_88, ↓eX11_showing_91, ↓eX11_showing_92, ↓eX11_showing_94, ↓eX11_showing_97, ↓eX11_showing_98, ↓eX11_showing_100, ↓eX11_showing_103, ↓eX11_showing_104, ↓eX11_showing_105, ↓eX11_showing_108, ↓eX11_showing_110, hk0 h, g5, (wsh h hu).1, Int.cast_ofNat_Int, kd_si, gr_si, ln_si, gi_same, gi_na, gi_ni, nl_i, nl_r, nl_j, nj_i, nj_l, nj_r, true_and, and_true, and_self, cs_0, cs_1, cs_2, cs_3, cs_4, ↓reduceIte, Nat.reduceLeDiff, Nat.reduceEqDiff, Nat.reduceAdd, Int.reduceLE, Int.reduceLT, Int.reduceEq, Int.reduceAdd, Int.reduceNeg, Int.reduceToNat, Int.toNat_natCast, ne_eq, not_false_eq_true, not_true_eq_false, or_true, true_or, or_false, false_or]
    exact wg
  by_cases z8 : what = 8
  · subst z8
    have q := hQ N YF_refl
    have hc : ∀ j, j < cnt (dy N n) W 288 → gr N 14 j = some ((gr N 14 j).getD 0) ∧ shob N N (dy N n) W j ((gr N 14 j).getD 0) := fun j hj => by
      obtain ⟨b, b1, b2⟩ := hd.2.2 j hj
      rw [b1]; exact ⟨rfl, b2⟩
    have lp := x_db_loop (d := d + 4) (N := N) (Q := Q) (s := cnt (dy N n) W 288) (k := k) (a := a) (F := sF (dy N n) W) (cell := fun j => (gr N 14 j).getD 0) h hd.1 (by omega) hk (by show (gr N 14 k).getD 0 = a; rw [ha]; rfl) (fun j hj => by
      obtain ⟨c1, c2⟩ := hc j hj
      obtain ⟨s, s0, s1, s2, s3, s4, s5, s6, -⟩ := c2
      exact ⟨c1, s, s0, s5, s6⟩) (cnt (dy N n) W 288) 0 vj (by omega)
    have lp' : WP (mc (d + 5)) tX1_firstDoubted 2 [vr (some 5), vr (some a), vi 0, vj] [] N Q = Q (vi (dbt N (sF (dy N n) W) k (cnt (dy N n) W 288) 0)) N := lp
    have fd : ∀ Q : mV → mM → Prop, CP (mc (d + 6)) 11 [vr (some 5), vr (some a)] N Q = Q (vi (dbt N (sF (dy N n) W) k (cnt (dy N n) W 288) 0)) N := fun Q => by
      have lp := x_db_loop (d := d + 4) (N := N) (Q := Q) (s := cnt (dy N n) W 288) (k := k) (a := a) (F := sF (dy N n) W) (cell := fun j => (gr N 14 j).getD 0) h hd.1 (by omega) hk (by show (gr N 14 k).getD 0 = a; rw [ha]; rfl) (fun j hj => by
        obtain ⟨c1, c2⟩ := hc j hj
        obtain ⟨s, s0, s1, s2, s3, s4, s5, s6, -⟩ := c2
        exact ⟨c1, s, s0, s5, s6⟩) (cnt (dy N n) W 288) 0 vj (by omega)
      have lp' : WP (mc (d + 5)) tX1_firstDoubted 2 [vr (some 5), vr (some a), vi 0, vj] [] N Q = Q (vi (dbt N (sF (dy N n) W) k (cnt (dy N n) W 288) 0)) N := lp
      rw [← lp']
      simp only [↓cpX1_firstDoubted, ↓eX1_firstDoubted_0, ↓eX1_firstDoubted_1, Int.cast_ofNat_Int, kd_si, gr_si, ln_si, gi_same, gi_na, gi_ni, nl_i, nl_r, nl_j, nj_i, nj_l, nj_r, true_and, and_true, and_self, cs_0, cs_1, cs_2, cs_3, cs_4, ↓reduceIte, Nat.reduceLeDiff, Nat.reduceEqDiff, Nat.reduceAdd, Int.reduceLE, Int.reduceLT, Int.reduceEq, Int.reduceAdd, Int.reduceNeg, Int.reduceToNat, Int.toNat_natCast, ne_eq, not_false_eq_true, not_true_eq_false, or_true, true_or, or_false, false_or]
    have e : shv N (dy N n) W k (wgh me mt (enP N (dy N n) W k) R 0 0) 8 = dbt N (sF (dy N n) W) k (cnt (dy N n) W 288) 0 := rfl
    rw [e] at q
    simp only [↓eX11_showing_15, ↓eX11_showing_16, ↓eX11_showing_68, ↓eX11_showing_70, ↓eX11_showing_73, ↓eX11_showing_74, ↓eX11_showing_76, ↓eX11_showing_79, ↓eX11_showing_80, ↓eX11_showing_82, ↓eX11_showing_85, ↓eX11_showing_86, ↓eX11_showing_88, ↓eX11_showing_91, ↓eX11_showing_92, ↓eX11_showing_94, ↓eX11_showing_97, ↓eX11_showing_98, ↓eX11_showing_100, ↓eX11_showing_103, ↓eX11_showing_104, ↓eX11_showing_105, ↓eX11_showing_108, ↓eX11_showing_110, ↓eX11_showing_113, ↓eX11_showing_114, ↓eX11_showing_116, ↓eX11_showing_119, ↓eX11_showing_120, ↓eX11_showing_121, ↓eX11_showing_124, ↓eX11_showing_126, ↓eX11_showing_129, hk0 h, hr0_1 h, hk5 h, ↓fd, Int.cast_ofNat_Int, kd_si, gr_si, ln_si, gi_same, gi_na, gi_ni, nl_i, nl_r, nl_j, nj_i, nj_l, nj_r, true_and, and_true, and_self, cs_0, cs_1, cs_2, cs_3, cs_4, ↓reduceIte, Nat.reduceLeDiff, Nat.reduceEqDiff, Nat.reduceAdd, Int.reduceLE, Int.reduceLT, Int.reduceEq, Int.reduceAdd, Int.reduceNeg, Int.reduceToNat, Int.toNat_natCast, ne_eq, not_false_eq_true, not_true_eq_false, or_true, true_or, or_false, false_or]
    exact q
  · rw [x_showing_g (d := d) h hs z6 z8]
    have q := hQ N YF_refl
    have e : shv N (dy N n) W k (wgh me mt (enP N (dy N n) W k) R 0 0) what = shv N (dy N n) W k 0 what := by
      unfold shv
      rw [if_neg z6, if_neg z6]
    rw [e] at q
    exact q
/-- the reference's answers -/
theorem y_showing_a {sd c0 : Nat} (hT : TI N) (hd : DAYM N n W) (hn : (n : Int) ≤ gi N 35 37) (hk : k < cnt (dy N n) W 288) (hw : YW N sd R c0 me mt)
    (hQ : ∀ P, YF skS N P → Q (vi (shv N (dy N n) W k (wgh me mt (enP N (dy N n) W k) R 0 0) what)) P) : WP (mc (d + 5)) tX12_showing 29 [vr (some 35), vi (k : Nat), vi n', vi what, vj, vj] [] N Q := by
  have h := hT.1
  have hf := hT.2.2.2.1
  have i1 := hT.2.1
  have i37 := i1.2.2.1
  have c6 := cnt_600 hf hn W
  have hs := SFM_of hf hn (by omega) (by have := i1.2.1; omega) hd.2.2 hk
  obtain ⟨f, ef, f1, f2, -⟩ := sF_n hf hn hk
  obtain ⟨l1, l2, l3, l4⟩ := hd.2.2 k hk
  have q67 : gi N 67 k = (f : Nat) := by rw [l1]; exact ef
  have k0 : (0 ≤ (k : Int)) = True := eq_true (by omega)
  have k1 : ((k : Int) < 1728) = True := eq_true (by omega)
  have f0' : (0 ≤ (f : Int)) = True := eq_true (by omega)
  have f1' : ((f : Int) < 300) = True := eq_true (by omega)
  have to37 : WP (mc (d + 5)) tX12_showing 29 [vr (some 35), vi (k : Nat), vi n', vi what, vj, vj] [] N Q = WP (mc (d + 5)) tX12_showing 37 [vr (some 35), vi (k : Nat), vi n', vi what, vi (f : Nat), vj] [] N Q := by
    simp only [↓eX12_showing_29, ↓eX12_showing_30, ↓eX12_showing_33, ↓eX12_showing_34, ↓eX12_showing_35, hk35 h, hr35_56 h, hk67 h, hl67 h, k0, k1, q67, Int.cast_ofNat_Int, kd_si, gr_si, ln_si, gi_same, gi_na, gi_ni, nl_i, nl_r, nl_j, nj_i, nj_l, nj_r, true_and, and_true, and_self, cs_0, cs_1, cs_2, cs_3, cs_4, ↓reduceIte, Nat.reduceLeDiff, Nat.reduceEqDiff, Nat.reduceAdd, Int.reduceLE, Int.reduceLT, Int.reduceEq, Int.reduceAdd, Int.reduceNeg, Int.reduceToNat, Int.toNat_natCast, ne_eq, not_false_eq_true, not_true_eq_false, or_true, true_or, or_false, false_or]
  rw [to37]
  have q := hQ N YF_refl
  by_cases z6 : what = 6
  · subst z6
    have wg := y_wt (d := d) (k := k) (M := N) (Q := fun v P => v ≠ vj ∧ WP (mc (d + 5)) tX12_showing 133 [vr (some 35), vi (k : Nat), vi n', vi 6, vi (f : Nat), vj] [v] P Q) hT hd hn hw hk (fun P dP => ⟨(fun x => by cases x), by
      simp only [↓eX12_showing_133]
      exact hQ P (YF_mono (fun b i w => Or.inr (Or.inr w)) (YF_DF dP))⟩)
    simp only [↓eX12_showing_37, ↓eX12_showing_38, ↓eX12_showing_88, ↓eX12_showing_90, ↓eX12_showing_91, ↓eX12_showing_92, ↓eX12_showing_95, ↓eX12_showing_96, ↓eX12_showing_97, ↓eX12_showing_98, ↓eX12_showing_99, ↓eX12_showing_102, ↓eX12_showing_103, ↓eX12_showing_104, ↓eX12_showing_105, ↓eX12_showing_106, ↓eX12_showing_109, ↓eX12_showing_110, ↓eX12_showing_111, ↓eX12_showing_112, ↓eX12_showing_113, ↓eX12_showing_116, ↓eX12_showing_118, ↓eX12_showing_119, ↓eX12_showing_120, ↓eX12_showing_121, ↓eX12_showing_124, ↓eX12_showing_126, ↓eX12_showing_127, ↓eX12_showing_128, ↓eX12_showing_129, ↓eX12_showing_130, hk35 h, Int.cast_ofNat_Int, kd_si, gr_si, ln_si, gi_same, gi_na, gi_ni, nl_i, nl_r, nl_j, nj_i, nj_l, nj_r, true_and, and_true, and_self, cs_0, cs_1, cs_2, cs_3, cs_4, ↓reduceIte, Nat.reduceLeDiff, Nat.reduceEqDiff, Nat.reduceAdd, Int.reduceLE, Int.reduceLT, Int.reduceEq, Int.reduceAdd, Int.reduceNeg, Int.reduceToNat, Int.toNat_natCast, ne_eq, not_false_eq_true, not_true_eq_false, or_true, true_or, or_false, false_or]
    exact wg
  by_cases z0 : what = 0
  · subst z0
    have e : shv N (dy N n) W k (wgh me mt (enP N (dy N n) W k) R 0 0) 0 = (f : Nat) := ef
    rw [e] at q
    simp only [↓eX12_showing_37, ↓eX12_showing_38, ↓eX12_showing_88, ↓eX12_showing_90, ↓eX12_showing_91, ↓eX12_showing_92, ↓eX12_showing_95, ↓eX12_showing_96, ↓eX12_showing_97, ↓eX12_showing_98, ↓eX12_showing_99, ↓eX12_showing_102, ↓eX12_showing_103, ↓eX12_showing_104, ↓eX12_showing_105, ↓eX12_showing_106, ↓eX12_showing_109, ↓eX12_showing_110, ↓eX12_showing_111, ↓eX12_showing_112, ↓eX12_showing_113, ↓eX12_showing_116, ↓eX12_showing_118, ↓eX12_showing_119, ↓eX12_showing_120, ↓eX12_showing_121, ↓eX12_showing_124, ↓eX12_showing_126, ↓eX12_showing_127, ↓eX12_showing_128, ↓eX12_showing_129, ↓eX12_showing_130, ↓eX12_showing_133, ↓eX12_showing_134, ↓eX12_showing_135, ↓eX12_showing_136, ↓eX12_showing_139, ↓eX12_showing_140, ↓eX12_showing_141, ↓eX12_showing_143, ↓eX12_showing_145, ↓eX12_showing_146, ↓eX12_showing_149, ↓eX12_showing_152, ↓eX12_showing_154, ↓eX12_showing_155, ↓eX12_showing_158, ↓eX12_showing_159, ↓eX12_showing_162, ↓eX12_showing_163, ↓eX12_showing_166, ↓eX12_showing_168, ↓eX12_showing_169, ↓eX12_showing_170, ↓eX12_showing_171, ↓eX12_showing_174, ↓eX12_showing_176, ↓eX12_showing_177, ↓eX12_showing_180, ↓eX12_showing_181, ↓eX12_showing_184, ↓eX12_showing_186, ↓eX12_showing_187, ↓eX12_showing_190, ↓eX12_showing_191, ↓eX12_showing_194, ↓eX12_showing_195, ↓eX12_showing_198, ↓eX12_showing_200, ↓eX12_showing_201, ↓eX12_showing_202, ↓eX12_showing_205, ↓eX12_showing_207, ↓eX12_showing_208, ↓eX12_showing_211, ↓eX12_showing_214, ↓eX12_showing_215, ↓eX12_showing_216, ↓eX12_showing_217, Int.cast_ofNat_Int, kd_si, gr_si, ln_si, gi_same, gi_na, gi_ni, nl_i, nl_r, nl_j, nj_i, nj_l, nj_r, true_and, and_true, and_self, cs_0, cs_1, cs_2, cs_3, cs_4, ↓reduceIte, Nat.reduceLeDiff, Nat.reduceEqDiff, Nat.reduceAdd, Int.reduceLE, Int.reduceLT, Int.reduceEq, Int.reduceAdd, Int.reduceNeg, Int.reduceToNat, Int.toNat_natCast, ne_eq, not_false_eq_true, not_true_eq_false, or_true, true_or, or_false, false_or]
    exact q
  by_cases z1 : what = 1
  · subst z1
    have e : shv N (dy N n) W k (wgh me mt (enP N (dy N n) W k) R 0 0) 1 = (sC (dy N n) W k : Nat) := rfl
    rw [e] at q
    simp only [↓eX12_showing_37, ↓eX12_showing_38, ↓eX12_showing_88, ↓eX12_showing_90, ↓eX12_showing_91, ↓eX12_showing_92, ↓eX12_showing_95, ↓eX12_showing_96, ↓eX12_showing_97, ↓eX12_showing_98, ↓eX12_showing_99, ↓eX12_showing_102, ↓eX12_showing_103, ↓eX12_showing_104, ↓eX12_showing_105, ↓eX12_showing_106, ↓eX12_showing_109, ↓eX12_showing_110, ↓eX12_showing_111, ↓eX12_showing_112, ↓eX12_showing_113, ↓eX12_showing_116, ↓eX12_showing_118, ↓eX12_showing_119, ↓eX12_showing_120, ↓eX12_showing_121, ↓eX12_showing_124, ↓eX12_showing_126, ↓eX12_showing_127, ↓eX12_showing_128, ↓eX12_showing_129, ↓eX12_showing_130, ↓eX12_showing_133, ↓eX12_showing_134, ↓eX12_showing_135, ↓eX12_showing_136, ↓eX12_showing_139, ↓eX12_showing_140, ↓eX12_showing_141, ↓eX12_showing_143, ↓eX12_showing_145, ↓eX12_showing_146, ↓eX12_showing_149, ↓eX12_showing_152, ↓eX12_showing_154, ↓eX12_showing_155, ↓eX12_showing_158, ↓eX12_showing_159, ↓eX12_showing_162, ↓eX12_showing_163, ↓eX12_showing_166, ↓eX12_showing_168, ↓eX12_showing_169, ↓eX12_showing_170, ↓eX12_showing_171, ↓eX12_showing_174, ↓eX12_showing_176, ↓eX12_showing_177, ↓eX12_showing_180, ↓eX12_showing_181, ↓eX12_showing_184, ↓eX12_showing_186, ↓eX12_showing_187, ↓eX12_showing_190, ↓eX12_showing_191, ↓eX12_showing_194, ↓eX12_showing_195, ↓eX12_showing_198, ↓eX12_showing_200, ↓eX12_showing_201, ↓eX12_showing_202, ↓eX12_showing_205, ↓eX12_showing_207, ↓eX12_showing_208, ↓eX12_showing_211, ↓eX12_showing_214, ↓eX12_showing_215, ↓eX12_showing_216, ↓eX12_showing_217, hk35 h, hr35_57 h, hk68 h, hl68 h, k0, k1, l2, Int.cast_ofNat_Int, kd_si, gr_si, ln_si, gi_same, gi_na, gi_ni, nl_i, nl_r, nl_j, nj_i, nj_l, nj_r, true_and, and_true, and_self, cs_0, cs_1, cs_2, cs_3, cs_4, ↓reduceIte, Nat.reduceLeDiff, Nat.reduceEqDiff, Nat.reduceAdd, Int.reduceLE, Int.reduceLT, Int.reduceEq, Int.reduceAdd, Int.reduceNeg, Int.reduceToNat, Int.toNat_natCast, ne_eq, not_false_eq_true, not_true_eq_false, or_true, true_or, or_false, false_or]
    exact q
  by_cases z2 : what = 2
  · subst z2
    have e : shv N (dy N n) W k (wgh me mt (enP N (dy N n) W k) R 0 0) 2 = (sT (dy N n) W k : Nat) := rfl
    rw [e] at q
    simp only [↓eX12_showing_37, ↓eX12_showing_38, ↓eX12_showing_88, ↓eX12_showing_90, ↓eX12_showing_91, ↓eX12_showing_92, ↓eX12_showing_95, ↓eX12_showing_96, ↓eX12_showing_97, ↓eX12_showing_98, ↓eX12_showing_99, ↓eX12_showing_102, ↓eX12_showing_103, ↓eX12_showing_104, ↓eX12_showing_105, ↓eX12_showing_106, ↓eX12_showing_109, ↓eX12_showing_110, ↓eX12_showing_111, ↓eX12_showing_112, ↓eX12_showing_113, ↓eX12_showing_116, ↓eX12_showing_118, ↓eX12_showing_119, ↓eX12_showing_120, ↓eX12_showing_121, ↓eX12_showing_124, ↓eX12_showing_126, ↓eX12_showing_127, ↓eX12_showing_128, ↓eX12_showing_129, ↓eX12_showing_130, ↓eX12_showing_133, ↓eX12_showing_134, ↓eX12_showing_135, ↓eX12_showing_136, ↓eX12_showing_139, ↓eX12_showing_140, ↓eX12_showing_141, ↓eX12_showing_143, ↓eX12_showing_145, ↓eX12_showing_146, ↓eX12_showing_149, ↓eX12_showing_152, ↓eX12_showing_154, ↓eX12_showing_155, ↓eX12_showing_158, ↓eX12_showing_159, ↓eX12_showing_162, ↓eX12_showing_163, ↓eX12_showing_166, ↓eX12_showing_168, ↓eX12_showing_169, ↓eX12_showing_170, ↓eX12_showing_171, ↓eX12_showing_174, ↓eX12_showing_176, ↓eX12_showing_177, ↓eX12_showing_180, ↓eX12_showing_181, ↓eX12_showing_184, ↓eX12_showing_186, ↓eX12_showing_187, ↓eX12_showing_190, ↓eX12_showing_191, ↓eX12_showing_194, ↓eX12_showing_195, ↓eX12_showing_198, ↓eX12_showing_200, ↓eX12_showing_201, ↓eX12_showing_202, ↓eX12_showing_205, ↓eX12_showing_207, ↓eX12_showing_208, ↓eX12_showing_211, ↓eX12_showing_214, ↓eX12_showing_215, ↓eX12_showing_216, ↓eX12_showing_217, hk35 h, hr35_58 h, hk69 h, hl69 h, k0, k1, l3, Int.cast_ofNat_Int, kd_si, gr_si, ln_si, gi_same, gi_na, gi_ni, nl_i, nl_r, nl_j, nj_i, nj_l, nj_r, true_and, and_true, and_self, cs_0, cs_1, cs_2, cs_3, cs_4, ↓reduceIte, Nat.reduceLeDiff, Nat.reduceEqDiff, Nat.reduceAdd, Int.reduceLE, Int.reduceLT, Int.reduceEq, Int.reduceAdd, Int.reduceNeg, Int.reduceToNat, Int.toNat_natCast, ne_eq, not_false_eq_true, not_true_eq_false, or_true, true_or, or_false, false_or]
    exact q
  by_cases z3 : what = 3
  · subst z3
    have e : shv N (dy N n) W k (wgh me mt (enP N (dy N n) W k) R 0 0) 3 = (sU (dy N n) W k : Nat) := rfl
    rw [e] at q
    simp only [↓eX12_showing_37, ↓eX12_showing_38, ↓eX12_showing_88, ↓eX12_showing_90, ↓eX12_showing_91, ↓eX12_showing_92, ↓eX12_showing_95, ↓eX12_showing_96, ↓eX12_showing_97, ↓eX12_showing_98, ↓eX12_showing_99, ↓eX12_showing_102, ↓eX12_showing_103, ↓eX12_showing_104, ↓eX12_showing_105, ↓eX12_showing_106, ↓eX12_showing_109, ↓eX12_showing_110, ↓eX12_showing_111, ↓eX12_showing_112, ↓eX12_showing_113, ↓eX12_showing_116, ↓eX12_showing_118, ↓eX12_showing_119, ↓eX12_showing_120, ↓eX12_showing_121, ↓eX12_showing_124, ↓eX12_showing_126, ↓eX12_showing_127, ↓eX12_showing_128, ↓eX12_showing_129, ↓eX12_showing_130, ↓eX12_showing_133, ↓eX12_showing_134, ↓eX12_showing_135, ↓eX12_showing_136, ↓eX12_showing_139, ↓eX12_showing_140, ↓eX12_showing_141, ↓eX12_showing_143, ↓eX12_showing_145, ↓eX12_showing_146, ↓eX12_showing_149, ↓eX12_showing_152, ↓eX12_showing_154, ↓eX12_showing_155, ↓eX12_showing_158, ↓eX12_showing_159, ↓eX12_showing_162, ↓eX12_showing_163, ↓eX12_showing_166, ↓eX12_showing_168, ↓eX12_showing_169, ↓eX12_showing_170, ↓eX12_showing_171, ↓eX12_showing_174, ↓eX12_showing_176, ↓eX12_showing_177, ↓eX12_showing_180, ↓eX12_showing_181, ↓eX12_showing_184, ↓eX12_showing_186, ↓eX12_showing_187, ↓eX12_showing_190, ↓eX12_showing_191, ↓eX12_showing_194, ↓eX12_showing_195, ↓eX12_showing_198, ↓eX12_showing_200, ↓eX12_showing_201, ↓eX12_showing_202, ↓eX12_showing_205, ↓eX12_showing_207, ↓eX12_showing_208, ↓eX12_showing_211, ↓eX12_showing_214, ↓eX12_showing_215, ↓eX12_showing_216, ↓eX12_showing_217, hk35 h, hr35_59 h, hk70 h, hl70 h, k0, k1, l4, Int.cast_ofNat_Int, kd_si, gr_si, ln_si, gi_same, gi_na, gi_ni, nl_i, nl_r, nl_j, nj_i, nj_l, nj_r, true_and, and_true, and_self, cs_0, cs_1, cs_2, cs_3, cs_4, ↓reduceIte, Nat.reduceLeDiff, Nat.reduceEqDiff, Nat.reduceAdd, Int.reduceLE, Int.reduceLT, Int.reduceEq, Int.reduceAdd, Int.reduceNeg, Int.reduceToNat, Int.toNat_natCast, ne_eq, not_false_eq_true, not_true_eq_false, or_true, true_or, or_false, false_or]
    exact q
  by_cases z4 : what = 4
  · subst z4
    have e : shv N (dy N n) W k (wgh me mt (enP N (dy N n) W k) R 0 0) 4 = gi N 61 f := by
      show gi N 61 (sF (dy N n) W k).toNat = _
      rw [ef, Int.toNat_natCast]
    rw [e] at q
    simp only [↓eX12_showing_37, ↓eX12_showing_38, ↓eX12_showing_88, ↓eX12_showing_90, ↓eX12_showing_91, ↓eX12_showing_92, ↓eX12_showing_95, ↓eX12_showing_96, ↓eX12_showing_97, ↓eX12_showing_98, ↓eX12_showing_99, ↓eX12_showing_102, ↓eX12_showing_103, ↓eX12_showing_104, ↓eX12_showing_105, ↓eX12_showing_106, ↓eX12_showing_109, ↓eX12_showing_110, ↓eX12_showing_111, ↓eX12_showing_112, ↓eX12_showing_113, ↓eX12_showing_116, ↓eX12_showing_118, ↓eX12_showing_119, ↓eX12_showing_120, ↓eX12_showing_121, ↓eX12_showing_124, ↓eX12_showing_126, ↓eX12_showing_127, ↓eX12_showing_128, ↓eX12_showing_129, ↓eX12_showing_130, ↓eX12_showing_133, ↓eX12_showing_134, ↓eX12_showing_135, ↓eX12_showing_136, ↓eX12_showing_139, ↓eX12_showing_140, ↓eX12_showing_141, ↓eX12_showing_143, ↓eX12_showing_145, ↓eX12_showing_146, ↓eX12_showing_149, ↓eX12_showing_152, ↓eX12_showing_154, ↓eX12_showing_155, ↓eX12_showing_158, ↓eX12_showing_159, ↓eX12_showing_162, ↓eX12_showing_163, ↓eX12_showing_166, ↓eX12_showing_168, ↓eX12_showing_169, ↓eX12_showing_170, ↓eX12_showing_171, ↓eX12_showing_174, ↓eX12_showing_176, ↓eX12_showing_177, ↓eX12_showing_180, ↓eX12_showing_181, ↓eX12_showing_184, ↓eX12_showing_186, ↓eX12_showing_187, ↓eX12_showing_190, ↓eX12_showing_191, ↓eX12_showing_194, ↓eX12_showing_195, ↓eX12_showing_198, ↓eX12_showing_200, ↓eX12_showing_201, ↓eX12_showing_202, ↓eX12_showing_205, ↓eX12_showing_207, ↓eX12_showing_208, ↓eX12_showing_211, ↓eX12_showing_214, ↓eX12_showing_215, ↓eX12_showing_216, ↓eX12_showing_217, hk35 h, hr35_43 h, hk61 h, hl61 h, f0', f1', Int.cast_ofNat_Int, kd_si, gr_si, ln_si, gi_same, gi_na, gi_ni, nl_i, nl_r, nl_j, nj_i, nj_l, nj_r, true_and, and_true, and_self, cs_0, cs_1, cs_2, cs_3, cs_4, ↓reduceIte, Nat.reduceLeDiff, Nat.reduceEqDiff, Nat.reduceAdd, Int.reduceLE, Int.reduceLT, Int.reduceEq, Int.reduceAdd, Int.reduceNeg, Int.reduceToNat, Int.toNat_natCast, ne_eq, not_false_eq_true, not_true_eq_false, or_true, true_or, or_false, false_or]
    exact q
  by_cases z5 : what = 5
  · subst z5
    have e : shv N (dy N n) W k (wgh me mt (enP N (dy N n) W k) R 0 0) 5 = gi N 62 f := by
      show gi N 62 (sF (dy N n) W k).toNat = _
      rw [ef, Int.toNat_natCast]
    rw [e] at q
    simp only [↓eX12_showing_37, ↓eX12_showing_38, ↓eX12_showing_88, ↓eX12_showing_90, ↓eX12_showing_91, ↓eX12_showing_92, ↓eX12_showing_95, ↓eX12_showing_96, ↓eX12_showing_97, ↓eX12_showing_98, ↓eX12_showing_99, ↓eX12_showing_102, ↓eX12_showing_103, ↓eX12_showing_104, ↓eX12_showing_105, ↓eX12_showing_106, ↓eX12_showing_109, ↓eX12_showing_110, ↓eX12_showing_111, ↓eX12_showing_112, ↓eX12_showing_113, ↓eX12_showing_116, ↓eX12_showing_118, ↓eX12_showing_119, ↓eX12_showing_120, ↓eX12_showing_121, ↓eX12_showing_124, ↓eX12_showing_126, ↓eX12_showing_127, ↓eX12_showing_128, ↓eX12_showing_129, ↓eX12_showing_130, ↓eX12_showing_133, ↓eX12_showing_134, ↓eX12_showing_135, ↓eX12_showing_136, ↓eX12_showing_139, ↓eX12_showing_140, ↓eX12_showing_141, ↓eX12_showing_143, ↓eX12_showing_145, ↓eX12_showing_146, ↓eX12_showing_149, ↓eX12_showing_152, ↓eX12_showing_154, ↓eX12_showing_155, ↓eX12_showing_158, ↓eX12_showing_159, ↓eX12_showing_162, ↓eX12_showing_163, ↓eX12_showing_166, ↓eX12_showing_168, ↓eX12_showing_169, ↓eX12_showing_170, ↓eX12_showing_171, ↓eX12_showing_174, ↓eX12_showing_176, ↓eX12_showing_177, ↓eX12_showing_180, ↓eX12_showing_181, ↓eX12_showing_184, ↓eX12_showing_186, ↓eX12_showing_187, ↓eX12_showing_190, ↓eX12_showing_191, ↓eX12_showing_194, ↓eX12_showing_195, ↓eX12_showing_198, ↓eX12_showing_200, ↓eX12_showing_201, ↓eX12_showing_202, ↓eX12_showing_205, ↓eX12_showing_207, ↓eX12_showing_208, ↓eX12_showing_211, ↓eX12_showing_214, ↓eX12_showing_215, ↓eX12_showing_216, ↓eX12_showing_217, hk35 h, hr35_44 h, hk62 h, hl62 h, f0', f1', Int.cast_ofNat_Int, kd_si, gr_si, ln_si, gi_same, gi_na, gi_ni, nl_i, nl_r, nl_j, nj_i, nj_l, nj_r, true_and, and_true, and_self, cs_0, cs_1, cs_2, cs_3, cs_4, ↓reduceIte, Nat.reduceLeDiff, Nat.reduceEqDiff, Nat.reduceAdd, Int.reduceLE, Int.reduceLT, Int.reduceEq, Int.reduceAdd, Int.reduceNeg, Int.reduceToNat, Int.toNat_natCast, ne_eq, not_false_eq_true, not_true_eq_false, or_true, true_or, or_false, false_or]
    exact q
  by_cases z7 : what = 7
  · subst z7
    have el : lo N (gi N 67) k = lo N (sF (dy N n) W) k := lo_F (m := cnt (dy N n) W 288) (fun j hj => (hd.2.2 j hj).1) hk
    have e : shv N (dy N n) W k (wgh me mt (enP N (dy N n) W k) R 0 0) 7 = (lo N (sF (dy N n) W) k : Nat) := rfl
    have fl := fun (Q : mV → mM → Prop) => y_leastOne (d := d + 3) (M := N) (Q := Q) (k := k) h hs
    rw [el] at fl
    rw [e] at q
    simp only [↓eX12_showing_37, ↓eX12_showing_38, ↓eX12_showing_88, ↓eX12_showing_90, ↓eX12_showing_91, ↓eX12_showing_92, ↓eX12_showing_95, ↓eX12_showing_96, ↓eX12_showing_97, ↓eX12_showing_98, ↓eX12_showing_99, ↓eX12_showing_102, ↓eX12_showing_103, ↓eX12_showing_104, ↓eX12_showing_105, ↓eX12_showing_106, ↓eX12_showing_109, ↓eX12_showing_110, ↓eX12_showing_111, ↓eX12_showing_112, ↓eX12_showing_113, ↓eX12_showing_116, ↓eX12_showing_118, ↓eX12_showing_119, ↓eX12_showing_120, ↓eX12_showing_121, ↓eX12_showing_124, ↓eX12_showing_126, ↓eX12_showing_127, ↓eX12_showing_128, ↓eX12_showing_129, ↓eX12_showing_130, ↓eX12_showing_133, ↓eX12_showing_134, ↓eX12_showing_135, ↓eX12_showing_136, ↓eX12_showing_139, ↓eX12_showing_140, ↓eX12_showing_141, ↓eX12_showing_143, ↓eX12_showing_145, ↓eX12_showing_146, ↓eX12_showing_149, ↓eX12_showing_152, ↓eX12_showing_154, ↓eX12_showing_155, ↓eX12_showing_158, ↓eX12_showing_159, ↓eX12_showing_162, ↓eX12_showing_163, ↓eX12_showing_166, ↓eX12_showing_168, ↓eX12_showing_169, ↓eX12_showing_170, ↓eX12_showing_171, ↓eX12_showing_174, ↓eX12_showing_176, ↓eX12_showing_177, ↓eX12_showing_180, ↓eX12_showing_181, ↓eX12_showing_184, ↓eX12_showing_186, ↓eX12_showing_187, ↓eX12_showing_190, ↓eX12_showing_191, ↓eX12_showing_194, ↓eX12_showing_195, ↓eX12_showing_198, ↓eX12_showing_200, ↓eX12_showing_201, ↓eX12_showing_202, ↓eX12_showing_205, ↓eX12_showing_207, ↓eX12_showing_208, ↓eX12_showing_211, ↓eX12_showing_214, ↓eX12_showing_215, ↓eX12_showing_216, ↓eX12_showing_217, hk35 h, ↓fl, Int.cast_ofNat_Int, kd_si, gr_si, ln_si, gi_same, gi_na, gi_ni, nl_i, nl_r, nl_j, nj_i, nj_l, nj_r, true_and, and_true, and_self, cs_0, cs_1, cs_2, cs_3, cs_4, ↓reduceIte, Nat.reduceLeDiff, Nat.reduceEqDiff, Nat.reduceAdd, Int.reduceLE, Int.reduceLT, Int.reduceEq, Int.reduceAdd, Int.reduceNeg, Int.reduceToNat, Int.toNat_natCast, ne_eq, not_false_eq_true, not_true_eq_false, or_true, true_or, or_false, false_or]
    exact q
  by_cases z8 : what = 8
  · subst z8
    have e : shv N (dy N n) W k (wgh me mt (enP N (dy N n) W k) R 0 0) 8 = dbt N (sF (dy N n) W) k (cnt (dy N n) W 288) 0 := rfl
    have lp := y_db_loop (C := mc (d + 5)) (M := N) (Q := Q) (s := cnt (dy N n) W 288) (k := k) (f := f) (n := n') (w := 8) h hd.2.1 (by omega) q67 (by omega) hk (fun j hj => by
      obtain ⟨g, eg, g1, g2, -⟩ := sF_n hf hn hj
      exact ⟨g, by rw [(hd.2.2 j hj).1]; exact eg, by omega⟩) (cnt (dy N n) W 288) 0 (by omega)
    have lp' : WP (mc (d + 5)) tX12_showing 143 [vr (some 35), vi (k : Nat), vi n', vi 8, vi (f : Nat), vi 0] [] N Q = _ := lp
    rw [dbt_F (fun j hj => (hd.2.2 j hj).1) hk _ 0 (by omega)] at lp'
    rw [e] at q
    simp only [↓eX12_showing_37, ↓eX12_showing_38, ↓eX12_showing_88, ↓eX12_showing_90, ↓eX12_showing_91, ↓eX12_showing_92, ↓eX12_showing_95, ↓eX12_showing_96, ↓eX12_showing_97, ↓eX12_showing_98, ↓eX12_showing_99, ↓eX12_showing_102, ↓eX12_showing_103, ↓eX12_showing_104, ↓eX12_showing_105, ↓eX12_showing_106, ↓eX12_showing_109, ↓eX12_showing_110, ↓eX12_showing_111, ↓eX12_showing_112, ↓eX12_showing_113, ↓eX12_showing_116, ↓eX12_showing_118, ↓eX12_showing_119, ↓eX12_showing_120, ↓eX12_showing_121, ↓eX12_showing_124, ↓eX12_showing_126, ↓eX12_showing_127, ↓eX12_showing_128, ↓eX12_showing_129, ↓eX12_showing_130, ↓eX12_showing_133, ↓eX12_showing_134, ↓eX12_showing_135, ↓eX12_showing_136, ↓eX12_showing_139, ↓eX12_showing_140, ↓eX12_showing_141, nlI, Int.cast_ofNat_Int, kd_si, gr_si, ln_si, gi_same, gi_na, gi_ni, nl_i, nl_r, nl_j, nj_i, nj_l, nj_r, true_and, and_true, and_self, cs_0, cs_1, cs_2, cs_3, cs_4, ↓reduceIte, Nat.reduceLeDiff, Nat.reduceEqDiff, Nat.reduceAdd, Int.reduceLE, Int.reduceLT, Int.reduceEq, Int.reduceAdd, Int.reduceNeg, Int.reduceToNat, Int.toNat_natCast, ne_eq, not_false_eq_true, not_true_eq_false, or_true, true_or, or_false, false_or]
    rw [lp']
    exact q
  have e : shv N (dy N n) W k (wgh me mt (enP N (dy N n) W k) R 0 0) what = -1 := by
    unfold shv
    rw [if_neg z0, if_neg z1, if_neg z2, if_neg z3, if_neg z4, if_neg z5, if_neg z6, if_neg z7, if_neg z8]
  rw [e] at q
  simp only [↓eX12_showing_37, ↓eX12_showing_38, ↓eX12_showing_216, ↓eX12_showing_217, z0, z1, z2, z3, z4, z5, z6, z7, z8, Int.cast_ofNat_Int, kd_si, gr_si, ln_si, gi_same, gi_na, gi_ni, nl_i, nl_r, nl_j, nj_i, nj_l, nj_r, true_and, and_true, and_self, cs_0, cs_1, cs_2, cs_3, cs_4, ↓reduceIte, Nat.reduceLeDiff, Nat.reduceEqDiff, Nat.reduceAdd, Int.reduceLE, Int.reduceLT, Int.reduceEq, Int.reduceAdd, Int.reduceNeg, Int.reduceToNat, Int.toNat_natCast, ne_eq, not_false_eq_true, not_true_eq_false, or_true, true_or, or_false, false_or]
  exact q
end SHOW
theorem x_findN {d : Nat} {M : mM} {Q : mV → mM → Prop} {k n : Int} (h : SH M) (q : ¬ (0 ≤ n ∧ n ≤ gi M 1 2)) : CP (mc (d + 2)) 121 [vr (some 0), vi k, vi n] M Q = Q (vr none) M := by
  have fk := fun (Q : mV → mM → Prop) => x_isKnown (d := d) (M := M) (Q := Q) (n := n) h
  simp only [if_neg q] at fk
  simp only [↓cpX11_findShowing, ↓eX11_findShowing_0, ↓eX11_findShowing_1, ↓eX11_findShowing_4, ↓eX11_findShowing_5, ↓eX11_findShowing_8, ↓eX11_findShowing_11, ↓eX11_findShowing_12, hk0 h, hr0_0 h, hk1 h, ↓fk, Int.cast_ofNat_Int, kd_si, gr_si, ln_si, gi_same, gi_na, gi_ni, nl_i, nl_r, nl_j, nj_i, nj_l, nj_r, true_and, and_true, and_self, cs_0, cs_1, cs_2, cs_3, cs_4, ↓reduceIte, Nat.reduceLeDiff, Nat.reduceEqDiff, Nat.reduceAdd, Int.reduceLE, Int.reduceLT, Int.reduceEq, Int.reduceAdd, Int.reduceNeg, Int.reduceToNat, Int.toNat_natCast, ne_eq, not_false_eq_true, not_true_eq_false, or_true, true_or, or_false, false_or]
/-- values of showings on both sides of frames -/
theorem val_fe {N R : mM} {n W k Ru : Nat} {me : Nat → Env → Int} {mt : Nat → Int} {what : Int} (hf : FM N) (hn : (n : Int) ≤ gi N 35 37) (hfe : fe n N R) (hk : k < cnt (dy N n) W 288) : shv R (dy R n) W k (wgh me mt (enP R (dy R n) W k) Ru 0 0) what = shv N (dy N n) W k (wgh me mt (enP N (dy N n) W k) Ru 0 0) what := by
  rw [dyD hf hn hfe, (enP_fe hf hn hfe hk).1, shv_fe hf hn hfe hk]
theorem fe_YF {S : Nat → Nat → Prop} {M N : mM} (h : YF S M N) (hS : ∀ a i, S a i → ¬ (55 ≤ a ∧ a ≤ 63)) (n : Nat) : fe n M N := ⟨fun a k h1 h2 _ => h.2 a k (fun w => hS a k w (by omega)), fun s _ => h.2 55 s (fun w => hS 55 s w (by omega))⟩
theorem p_showing (k n what : Int) : PAIR 114 169 [vi k, vi n, vi what] := fun M hI => by
  have h := hI.1.1
  obtain ⟨⟨a1, a2, a3⟩, -, ⟨a7, a8, a9⟩, -⟩ := hI.1.2.1
  by_cases q : 0 ≤ n ∧ n ≤ gi M 1 2
  · obtain ⟨n', rfl⟩ : ∃ k : Nat, n = k := ⟨n.toNat, by omega⟩
    have fnd := x_findG (d := 12) (n := n') (M := M) (k := k) (Q := fun v N => v ≠ vj ∧ WP (mc 18) tX11_showing 6 [vr (some 0), vi k, vi n', vi what, vj] [v] N (fun v N => ∃ z, v = vi z ∧ CP (mc 19) 169 [vr (some 35), vi k, vi n', vi what] N (fun w R => w = vi z ∧ INV R ∧ GROW M R))) hI.1 q.2 (fun N W hF tN hW n51 n52 dN hx => ⟨(fun x => by cases x), by
      have hN := tN.1
      have rN := REST_day h hF hI.2
      obtain ⟨e12, e10⟩ := day_told h hF
      have i37 := tN.2.1.2.2.1
      have hn37 : (n' : Int) ≤ gi N 35 37 := by omega
      have gN : GROW M N := GROW_FRM hF (by omega)
      have fy := fun (P : mM) (hP : SH P) (Q : mV → mM → Prop) => y_isKnown (d := 17) (M := P) (Q := Q) (n := (n' : Nat)) hP
      by_cases z : 0 ≤ k ∧ k < (cnt (dy N n') W 288 : Nat)
      · obtain ⟨k', rfl⟩ : ∃ j : Nat, k = j := ⟨k.toNat, by omega⟩
        have hk : k' < cnt (dy N n') W 288 := by omega
        obtain ⟨a, ga, hs⟩ := dN.2.2 k' hk
        obtain ⟨u, u', sd, Ru, c0, me, mt, w5, w6, wu, wsd, w18, wu0, wR, wRU, w43, wc, wM, wfr, wmt⟩ := rN.2.2.1
        rw [if_pos z, Int.toNat_natCast, ga]
        have xs := x_showing_a (d := 12) (k := k') (a := a) (N := N) (what := what) (k' := (k' : Nat)) (n' := (n' : Nat)) (Q := fun v N => ∃ z, v = vi z ∧ CP (mc 19) 169 [vr (some 35), vi (k' : Nat), vi (n' : Nat), vi what] N (fun w R => w = vi z ∧ INV R ∧ GROW M R)) tN dN hn37 hk ga hs w5 (by omega) wu0 wR wRU (fun P yP => ⟨_, rfl, by
          have tP := TI_sk yP tN
          have rP := REST_sk yP rN
          have hP := tP.1
          have o1 : ∀ i, gi P 1 i = gi N 1 i := fun i => yP.2 1 i (by unfold skS; omega)
          have o35 : ∀ i, gi P 35 i = gi N 35 i := fun i => yP.2 35 i (by unfold skS; omega)
          have kn : 0 ≤ (n' : Int) ∧ (n' : Int) ≤ gi P 35 37 := by rw [o35]; omega
          have fyP := fy P hP
          simp only [if_pos kn] at fyP
          have k0 : (0 ≤ ((k' : Nat) : Int)) = True := eq_true (by omega)
          have mk := y_mk (d := 16) (n := n') (M := P) (Q := fun v R1 => v = vj ∧ WP (mc 18) tX12_showing 19 [vr (some 35), vi (k' : Nat), vi (n' : Nat), vi what, vj, vj] [] R1 (fun w R => w = vi (shv N (dy N n') W k' (wgh me mt (enP N (dy N n') W k') Ru 0 0) what) ∧ INV R ∧ GROW M R)) tP (by rw [o1]; omega) (fun R1 W' y1 t1 hW' d1 => ⟨rfl, by
            have eW : W' = W := by rw [o1] at hW'; omega
            subst eW
            have h1 := t1.1
            have feR : fe n' N R1 := by
              have f1 := fe_YF yP (fun a i w => by unfold skS at w; omega) n'
              have f2 := YF_fe y1 n'
              refine ⟨fun a k h1 h2 h3 => by rw [f2.1 a k h1 h2 h3, f1.1 a k h1 h2 h3], fun s hs' => ?_⟩
              rw [f2.2 s (by rw [o35]; exact hs'), f1.2 s hs']
            have eD : dy R1 n' = dy N n' := dyD tN.2.2.2.1 hn37 feR
            have oR : ∀ i, ¬ (i = 51 ∨ i = 55) → gi R1 35 i = gi N 35 i := fun i w => by rw [y1.2 35 i (by unfold mdS; omega), o35]
            have ywR : YW R1 sd Ru c0 me mt := YW_f (M := N) (oR 18 (by omega)) (fun a i w => by rw [y1.2 a i (by unfold mdS; omega), yP.2 a i (by unfold skS; omega)]) ⟨wsd, w18, wc, wR, w43, wM, wfr, wmt⟩
            have ys := y_showing_a (d := 13) (n := n') (W := W') (k := k') (N := R1) (what := what) (n' := (n' : Nat)) (R := Ru) (me := me) (mt := mt) (Q := fun w R => w = vi (shv N (dy N n') W' k' (wgh me mt (enP N (dy N n') W' k') Ru 0 0) what) ∧ INV R ∧ GROW M R) t1 d1 (by rw [oR 37 (by omega)]; exact hn37) (by rw [eD]; exact hk) ywR (fun R2 y2 => ⟨by rw [val_fe tN.2.2.2.1 hn37 feR hk], ⟨TI_sk y2 t1, REST_sk y2 (REST_md y1 rP)⟩, GROW_Y (GROW_Y (GROW_Y gN yP) y1) y2⟩)
            have g55 : gi R1 35 55 = (cnt (dy N n') W' 288 : Nat) := by rw [d1.2.1, eD]
            have k1 : (((k' : Nat) : Int) < ((cnt (dy N n') W' 288 : Nat) : Int)) = True := eq_true (by omega)
            simp only [↓eX12_showing_19, ↓eX12_showing_20, ↓eX12_showing_21, ↓eX12_showing_24, hk35 h1, g55, k1, Int.cast_ofNat_Int, kd_si, gr_si, ln_si, gi_same, gi_na, gi_ni, nl_i, nl_r, nl_j, nj_i, nj_l, nj_r, true_and, and_true, and_self, cs_0, cs_1, cs_2, cs_3, cs_4, ↓reduceIte, Nat.reduceLeDiff, Nat.reduceEqDiff, Nat.reduceAdd, Int.reduceLE, Int.reduceLT, Int.reduceEq, Int.reduceAdd, Int.reduceNeg, Int.reduceToNat, Int.toNat_natCast, ne_eq, not_false_eq_true, not_true_eq_false, or_true, true_or, or_false, false_or]
            exact ys⟩)
          simp only [↓cpX12_showing, ↓eX12_showing_0, ↓eX12_showing_1, ↓eX12_showing_2, ↓eX12_showing_5, ↓eX12_showing_8, ↓eX12_showing_9, ↓eX12_showing_12, ↓eX12_showing_13, ↓eX12_showing_14, ↓eX12_showing_15, ↓eX12_showing_16, hk35 hP, ↓fyP, k0, Int.cast_ofNat_Int, kd_si, gr_si, ln_si, gi_same, gi_na, gi_ni, nl_i, nl_r, nl_j, nj_i, nj_l, nj_r, true_and, and_true, and_self, cs_0, cs_1, cs_2, cs_3, cs_4, ↓reduceIte, Nat.reduceLeDiff, Nat.reduceEqDiff, Nat.reduceAdd, Int.reduceLE, Int.reduceLT, Int.reduceEq, Int.reduceAdd, Int.reduceNeg, Int.reduceToNat, Int.toNat_natCast, ne_eq, not_false_eq_true, not_true_eq_false, or_true, true_or, or_false, false_or]
          exact mk⟩)
        simp only [↓eX11_showing_6, ↓eX11_showing_8, ↓eX11_showing_10, ↓eX11_showing_13, ↓eX11_showing_14, nlI, reduceCtorEq, Int.cast_ofNat_Int, kd_si, gr_si, ln_si, gi_same, gi_na, gi_ni, nl_i, nl_r, nl_j, nj_i, nj_l, nj_r, true_and, and_true, and_self, cs_0, cs_1, cs_2, cs_3, cs_4, ↓reduceIte, Nat.reduceLeDiff, Nat.reduceEqDiff, Nat.reduceAdd, Int.reduceLE, Int.reduceLT, Int.reduceEq, Int.reduceAdd, Int.reduceNeg, Int.reduceToNat, Int.toNat_natCast, ne_eq, not_false_eq_true, not_true_eq_false, or_true, true_or, or_false, false_or]
        exact xs
      · rw [if_neg z]
        have kn : 0 ≤ (n' : Int) ∧ (n' : Int) ≤ gi N 35 37 := by omega
        have fyN := fy N hN
        simp only [if_pos kn] at fyN
        have yy : CP (mc 19) 169 [vr (some 35), vi k, vi (n' : Nat), vi what] N (fun w R => w = vi (-1) ∧ INV R ∧ GROW M R) := by
          by_cases y : 0 ≤ k
          · obtain ⟨k', rfl⟩ : ∃ j : Nat, k = j := ⟨k.toNat, by omega⟩
            have k0 : (0 ≤ ((k' : Nat) : Int)) = True := eq_true (by omega)
            have mk := y_mk (d := 16) (n := n') (M := N) (Q := fun v R1 => v = vj ∧ WP (mc 18) tX12_showing 19 [vr (some 35), vi (k' : Nat), vi (n' : Nat), vi what, vj, vj] [] R1 (fun w R => w = vi (-1) ∧ INV R ∧ GROW M R)) tN (by omega) (fun R1 W' y1 t1 hW' d1 => ⟨rfl, by
              have eW : W' = W := by omega
              subst eW
              have eD : dy R1 n' = dy N n' := dyD tN.2.2.2.1 hn37 (YF_fe y1 n')
              have g55 : gi R1 35 55 = (cnt (dy N n') W' 288 : Nat) := by rw [d1.2.1, eD]
              have k1 : (((k' : Nat) : Int) < ((cnt (dy N n') W' 288 : Nat) : Int)) = False := eq_false (by omega)
              have fin : (vi (-1) : mV) = vi (-1) ∧ INV R1 ∧ GROW M R1 := ⟨rfl, ⟨t1, REST_md y1 rN⟩, GROW_Y gN y1⟩
              simp only [↓eX12_showing_19, ↓eX12_showing_20, ↓eX12_showing_21, ↓eX12_showing_24, ↓eX12_showing_27, ↓eX12_showing_28, hk35 t1.1, g55, k1, Int.cast_ofNat_Int, kd_si, gr_si, ln_si, gi_same, gi_na, gi_ni, nl_i, nl_r, nl_j, nj_i, nj_l, nj_r, true_and, and_true, and_self, cs_0, cs_1, cs_2, cs_3, cs_4, ↓reduceIte, Nat.reduceLeDiff, Nat.reduceEqDiff, Nat.reduceAdd, Int.reduceLE, Int.reduceLT, Int.reduceEq, Int.reduceAdd, Int.reduceNeg, Int.reduceToNat, Int.toNat_natCast, ne_eq, not_false_eq_true, not_true_eq_false, or_true, true_or, or_false, false_or]
              exact fin.2⟩)
            simp only [↓cpX12_showing, ↓eX12_showing_0, ↓eX12_showing_1, ↓eX12_showing_2, ↓eX12_showing_5, ↓eX12_showing_8, ↓eX12_showing_9, ↓eX12_showing_12, ↓eX12_showing_13, ↓eX12_showing_14, ↓eX12_showing_15, ↓eX12_showing_16, hk35 hN, ↓fyN, k0, Int.cast_ofNat_Int, kd_si, gr_si, ln_si, gi_same, gi_na, gi_ni, nl_i, nl_r, nl_j, nj_i, nj_l, nj_r, true_and, and_true, and_self, cs_0, cs_1, cs_2, cs_3, cs_4, ↓reduceIte, Nat.reduceLeDiff, Nat.reduceEqDiff, Nat.reduceAdd, Int.reduceLE, Int.reduceLT, Int.reduceEq, Int.reduceAdd, Int.reduceNeg, Int.reduceToNat, Int.toNat_natCast, ne_eq, not_false_eq_true, not_true_eq_false, or_true, true_or, or_false, false_or]
            exact mk
          · have k0 : (0 ≤ k) = False := eq_false y
            have fin : (vi (-1) : mV) = vi (-1) ∧ INV N ∧ GROW M N := ⟨rfl, ⟨tN, rN⟩, gN⟩
            simp only [↓cpX12_showing, ↓eX12_showing_0, ↓eX12_showing_1, ↓eX12_showing_2, ↓eX12_showing_5, ↓eX12_showing_8, ↓eX12_showing_9, ↓eX12_showing_12, ↓eX12_showing_13, hk35 hN, ↓fyN, k0, Int.cast_ofNat_Int, kd_si, gr_si, ln_si, gi_same, gi_na, gi_ni, nl_i, nl_r, nl_j, nj_i, nj_l, nj_r, true_and, and_true, and_self, cs_0, cs_1, cs_2, cs_3, cs_4, ↓reduceIte, Nat.reduceLeDiff, Nat.reduceEqDiff, Nat.reduceAdd, Int.reduceLE, Int.reduceLT, Int.reduceEq, Int.reduceAdd, Int.reduceNeg, Int.reduceToNat, Int.toNat_natCast, ne_eq, not_false_eq_true, not_true_eq_false, or_true, true_or, or_false, false_or]
            exact fin.2
        have fin : ∃ z, vi (-1) = vi z ∧ CP (mc 19) 169 [vr (some 35), vi k, vi (n' : Nat), vi what] N (fun w R => w = vi z ∧ INV R ∧ GROW M R) := ⟨_, rfl, yy⟩
        simp only [↓eX11_showing_6, ↓eX11_showing_8, ↓eX11_showing_10, ↓eX11_showing_13, ↓eX11_showing_14, nlI, Int.cast_ofNat_Int, kd_si, gr_si, ln_si, gi_same, gi_na, gi_ni, nl_i, nl_r, nl_j, nj_i, nj_l, nj_r, true_and, and_true, and_self, cs_0, cs_1, cs_2, cs_3, cs_4, ↓reduceIte, Nat.reduceLeDiff, Nat.reduceEqDiff, Nat.reduceAdd, Int.reduceLE, Int.reduceLT, Int.reduceEq, Int.reduceAdd, Int.reduceNeg, Int.reduceToNat, Int.toNat_natCast, ne_eq, not_false_eq_true, not_true_eq_false, or_true, true_or, or_false, false_or]
        exact fin⟩)
    simp only [↓cpX11_showing, ↓eX11_showing_0, ↓eX11_showing_1, ↓eX11_showing_2, ↓eX11_showing_3, hk0 h, Int.cast_ofNat_Int, kd_si, gr_si, ln_si, gi_same, gi_na, gi_ni, nl_i, nl_r, nl_j, nj_i, nj_l, nj_r, true_and, and_true, and_self, cs_0, cs_1, cs_2, cs_3, cs_4, ↓reduceIte, Nat.reduceLeDiff, Nat.reduceEqDiff, Nat.reduceAdd, Int.reduceLE, Int.reduceLT, Int.reduceEq, Int.reduceAdd, Int.reduceNeg, Int.reduceToNat, Int.toNat_natCast, ne_eq, not_false_eq_true, not_true_eq_false, or_true, true_or, or_false, false_or]
    exact fnd
  · have fn := fun (Q : mV → mM → Prop) => x_findN (d := 16) (M := M) (Q := Q) (k := k) (n := n) h q
    have fy := fun (Q : mV → mM → Prop) => y_isKnown (d := 17) (M := M) (Q := Q) (n := n) h
    have q' : ¬ (0 ≤ n ∧ n ≤ gi M 35 37) := by rw [a9]; exact q
    simp only [if_neg q'] at fy
    have e1 : ∀ Q : mV → mM → Prop, CP (mc 19) 114 [vr (some 0), vi k, vi n, vi what] M Q = Q (vi (-1)) M := fun Q => by
      simp only [↓cpX11_showing, ↓eX11_showing_0, ↓eX11_showing_1, ↓eX11_showing_2, ↓eX11_showing_3, ↓eX11_showing_6, ↓eX11_showing_8, ↓eX11_showing_10, ↓eX11_showing_13, ↓eX11_showing_14, hk0 h, ↓fn, nlI, Int.cast_ofNat_Int, kd_si, gr_si, ln_si, gi_same, gi_na, gi_ni, nl_i, nl_r, nl_j, nj_i, nj_l, nj_r, true_and, and_true, and_self, cs_0, cs_1, cs_2, cs_3, cs_4, ↓reduceIte, Nat.reduceLeDiff, Nat.reduceEqDiff, Nat.reduceAdd, Int.reduceLE, Int.reduceLT, Int.reduceEq, Int.reduceAdd, Int.reduceNeg, Int.reduceToNat, Int.toNat_natCast, ne_eq, not_false_eq_true, not_true_eq_false, or_true, true_or, or_false, false_or]
    have e2 : ∀ Q : mV → mM → Prop, CP (mc 19) 169 [vr (some 35), vi k, vi n, vi what] M Q = Q (vi (-1)) M := fun Q => by
      simp only [↓cpX12_showing, ↓eX12_showing_0, ↓eX12_showing_1, ↓eX12_showing_2, ↓eX12_showing_5, ↓eX12_showing_8, ↓eX12_showing_9, ↓eX12_showing_12, ↓eX12_showing_13, hk35 h, ↓fy, Int.cast_ofNat_Int, kd_si, gr_si, ln_si, gi_same, gi_na, gi_ni, nl_i, nl_r, nl_j, nj_i, nj_l, nj_r, true_and, and_true, and_self, cs_0, cs_1, cs_2, cs_3, cs_4, ↓reduceIte, Nat.reduceLeDiff, Nat.reduceEqDiff, Nat.reduceAdd, Int.reduceLE, Int.reduceLT, Int.reduceEq, Int.reduceAdd, Int.reduceNeg, Int.reduceToNat, Int.toNat_natCast, ne_eq, not_false_eq_true, not_true_eq_false, or_true, true_or, or_false, false_or]
    rw [e1]
    refine ⟨_, rfl, ?_⟩
    rw [e2]
    exact ⟨rfl, hI, GROW_refl⟩
