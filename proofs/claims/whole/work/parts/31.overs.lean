/-! ===== all overs: the class ===== -/
/-- the cells that hold what was told -/
def isTold (a : Nat) : Prop := a = 1 ∨ a = 18 ∨ a = 20 ∨ a = 35 ∨ (55 ≤ a ∧ a ≤ 63) ∨ 88 ≤ a
theorem DF_I1 {P : Nat → Prop} {M N : mM} (h : DF P M N) (hp : ∀ a, isTold a → ¬ P a) (k : I1 M) : I1 N := by
  have e1 := fun i => h.2 1 i (hp 1 (Or.inl rfl))
  have e18 := fun i => h.2 18 i (hp 18 (Or.inr (Or.inl rfl)))
  have e20 := fun i => h.2 20 i (hp 20 (Or.inr (Or.inr (Or.inl rfl))))
  have e35 := fun i => h.2 35 i (hp 35 (Or.inr (Or.inr (Or.inr (Or.inl rfl)))))
  unfold I1 at k ⊢
  simp only [e1, e18, e20, e35]
  exact k
theorem isT {a : Nat} (h1 : 55 ≤ a) (h2 : a ≤ 63) : isTold a := Or.inr (Or.inr (Or.inr (Or.inr (Or.inl ⟨h1, h2⟩))))
theorem isT8 {a : Nat} (h1 : 88 ≤ a) : isTold a := Or.inr (Or.inr (Or.inr (Or.inr (Or.inr h1))))
theorem DF_FM {P : Nat → Prop} {M N : mM} (h : DF P M N) (hp : ∀ a, isTold a → ¬ P a) (k : FM M) : FM N := by
  have e35 := fun i => h.2 35 i (hp 35 (Or.inr (Or.inr (Or.inr (Or.inl rfl)))))
  have e56 := fun i => h.2 56 i (hp 56 (isT (by decide) (by decide)))
  have e57 := fun i => h.2 57 i (hp 57 (isT (by decide) (by decide)))
  have e58 := fun i => h.2 58 i (hp 58 (isT (by decide) (by decide)))
  have e59 := fun i => h.2 59 i (hp 59 (isT (by decide) (by decide)))
  have e60 := fun i => h.2 60 i (hp 60 (isT (by decide) (by decide)))
  have e61 := fun i => h.2 61 i (hp 61 (isT (by decide) (by decide)))
  have e62 := fun i => h.2 62 i (hp 62 (isT (by decide) (by decide)))
  have e63 := fun i => h.2 63 i (hp 63 (isT (by decide) (by decide)))
  unfold FM at k ⊢
  simp only [e35, e56, e57, e58, e59, e60, e61, e62, e63]
  exact k
theorem DF_I3 {P : Nat → Prop} {M N : mM} (h : DF P M N) (hp : ∀ a, isTold a → ¬ P a) (k : I3 M) : I3 N := by
  have e1 := fun i => h.2 1 i (hp 1 (Or.inl rfl))
  have e55 := fun i => h.2 55 i (hp 55 (isT (by decide) (by decide)))
  have e56 := fun i => h.2 56 i (hp 56 (isT (by decide) (by decide)))
  have e57 := fun i => h.2 57 i (hp 57 (isT (by decide) (by decide)))
  have e58 := fun i => h.2 58 i (hp 58 (isT (by decide) (by decide)))
  have e59 := fun i => h.2 59 i (hp 59 (isT (by decide) (by decide)))
  have e60 := fun i => h.2 60 i (hp 60 (isT (by decide) (by decide)))
  have e61 := fun i => h.2 61 i (hp 61 (isT (by decide) (by decide)))
  have e62 := fun i => h.2 62 i (hp 62 (isT (by decide) (by decide)))
  have e63 := fun i => h.2 63 i (hp 63 (isT (by decide) (by decide)))
  have er := DF_r h
  have ek := DF_k h
  have en := DF_n h
  unfold I3 at k ⊢
  simp only [e1, e55, e56, e57, e58, e59, e60, e61, e62, e63, er, ek, en]
  refine ⟨fun j hj => ?_, fun j hj => ?_⟩
  · obtain ⟨a, h8, h9, h10⟩ := k.1 j hj
    simp only [← h.2 a _ (hp a (isT8 h8))] at h10
    exact ⟨a, h8, h9, h10⟩
  · obtain ⟨a, h8, h9, h10⟩ := k.2 j hj
    simp only [← h.2 a _ (hp a (isT8 h8))] at h10
    exact ⟨a, h8, h9, h10⟩
theorem told_row : ∀ a, isTold a → ¬ isRow a := fun a h w => by unfold isTold at h; unfold isRow at w; omega
theorem DF_fe {P : Nat → Prop} {M N : mM} (h : DF P M N) (hp : ∀ a, isTold a → ¬ P a) (n : Nat) : fe n M N := ⟨fun a k h1 h2 _ => h.2 a k (hp a (isT (by omega) h2)), fun s _ => h.2 55 s (hp 55 (isT (by decide) (by decide)))⟩
theorem x_isNotice {d : Nat} {M : mM} {Q : mV → mM → Prop} {a : Nat} (hk : kd M a = 2) : CP (mc (d + 1)) 21 [vr (some a)] M Q = if gr M a 0 = none then Q (vi 0) M else Q (vi 1) M := by
  simp only [↓cpX2_isNotice, ↓eX2_isNotice_0, ↓eX2_isNotice_1, ↓eX2_isNotice_4, ↓eX2_isNotice_7, ↓eX2_isNotice_8, ↓eX2_isNotice_11, ↓eX2_isNotice_12, hk, Int.cast_ofNat_Int, kd_si, gr_si, ln_si, gi_same, gi_na, gi_ni, nl_i, nl_r, nl_j, nj_i, nj_l, nj_r, true_and, and_true, and_self, cs_0, cs_1, cs_2, cs_3, cs_4, ↓reduceIte, Nat.reduceLeDiff, Nat.reduceEqDiff, Nat.reduceAdd, Int.reduceLE, Int.reduceLT, Int.reduceEq, Int.reduceAdd, Int.reduceNeg, Int.reduceToNat, Int.toNat_natCast, ne_eq, not_false_eq_true, not_true_eq_false, or_true, true_or, or_false, false_or]
theorem x_overs_loop {d : Nat} {M : mM} {Q : mV → mM → Prop} {W n : Nat} (h : SH M) (h1 : I1 M) (h3 : I3 M) (hf : FM M) (hn : (n : Int) ≤ gi M 1 2) (hkn : gi M 5 1 = n) (hW : gi M 5 2 = W) (hW2 : gi M 1 0 = W)
    (hQ : ∀ N, DF isRow M N → (∀ c t : Nat, c < W → t < 288 → gi N (7 + c) t = dyr M c n n t) → Q vj N) :
    ∀ (r i : Nat) (a3 : mV) (N : mM), i + r = n → DF isRow M N → (∀ c t : Nat, c < W → t < 288 → gi N (7 + c) t = dyr M c n i t) → WP (mc (d + 2)) tX1_pushByOvers 2 [vr (some 5), vr (some 1), vi i, a3] [] N Q := by
  have i1 := h1
  obtain ⟨⟨b1, b2, b3⟩, ⟨b4, b5, b6⟩, ⟨b7, b8, b9⟩, -⟩ := i1
  intro r
  induction r with
  | zero =>
    intro i a3 N hi hD hA
    have e : i = n := by omega
    subst e
    have k5 : gi N 5 1 = i := by rw [hD.2 5 1 (by unfold isRow; omega)]; exact hkn
    have hN := DF_SH hD h
    simp only [↓eX1_pushByOvers_2, ↓eX1_pushByOvers_3, ↓eX1_pushByOvers_4, ↓eX1_pushByOvers_7, ↓eX1_pushByOvers_66, hk5 hN, k5, Int.le_refl, Int.cast_ofNat_Int, kd_si, gr_si, ln_si, gi_same, gi_na, gi_ni, nl_i, nl_r, nl_j, nj_i, nj_l, nj_r, true_and, and_true, and_self, cs_0, cs_1, cs_2, cs_3, cs_4, ↓reduceIte, Nat.reduceLeDiff, Nat.reduceEqDiff, Nat.reduceAdd, Int.reduceLE, Int.reduceLT, Int.reduceEq, Int.reduceAdd, Int.reduceNeg, Int.reduceToNat, Int.toNat_natCast, ne_eq, not_false_eq_true, not_true_eq_false, or_true, true_or, or_false, false_or]
    exact hQ N hD hA
  | succ r ih =>
    intro i a3 N hi hD hA
    have hN := DF_SH hD h
    have k51 : gi N 5 1 = n := by rw [hD.2 5 1 (by unfold isRow; omega)]; exact hkn
    have k52 : gi N 5 2 = W := by rw [hD.2 5 2 (by unfold isRow; omega)]; exact hW
    have k12 : gi N 1 2 = gi M 1 2 := hD.2 1 2 (by unfold isRow; omega)
    have e : ((n : Int) ≤ (i : Int)) = False := eq_false (by omega)
    have e2 : wr ((i : Int) + 1) = ((i + 1 : Nat) : Int) := by rw [wr_id (by omega) (by omega)]; omega
    obtain ⟨a, ha8, han, ha, hka, g1, g2, g3, g4⟩ := h3.2 i (by omega)
    have hra : ¬ isRow a := by unfold isRow; omega
    have fa := fun (Q : mV → mM → Prop) => x_factAt (d := d + 1) (Q := Q) (k := i) hN (by omega) (by omega)
    have ha' : gr N 4 i = some a := by rw [DF_r hD]; exact ha
    have hka' : kd N a = 2 := by rw [DF_k hD]; exact hka
    have gN := fun j => hD.2 a j hra
    obtain ⟨f1, f2, f3, f4⟩ := hf i (by omega)
    have fi := fun (Q : mV → mM → Prop) => x_isNotice (d := d + 1) (Q := Q) hka'
    have key : ∀ (a3 : mV) (N : mM), DF isRow M N → (∀ c t : Nat, c < W → t < 288 → gi N (7 + c) t = dyr M c n (i + 1) t) → WP (mc (d + 2)) tX1_pushByOvers 60 [vr (some 5), vr (some 1), vi i, a3] [] N Q := by
      intro a3 N hD hA
      simp only [↓eX1_pushByOvers_60, ↓eX1_pushByOvers_63, e2, Int.cast_ofNat_Int, kd_si, gr_si, ln_si, gi_same, gi_na, gi_ni, nl_i, nl_r, nl_j, nj_i, nj_l, nj_r, true_and, and_true, and_self, cs_0, cs_1, cs_2, cs_3, cs_4, ↓reduceIte, Nat.reduceLeDiff, Nat.reduceEqDiff, Nat.reduceAdd, Int.reduceLE, Int.reduceLT, Int.reduceEq, Int.reduceAdd, Int.reduceNeg, Int.reduceToNat, Int.toNat_natCast, ne_eq, not_false_eq_true, not_true_eq_false, or_true, true_or, or_false, false_or]
      exact ih (i + 1) a3 N (by omega) hD hA
    rw [eX1_pushByOvers_2]
    rcases f1 with f1 | f1
    · obtain ⟨q1, -⟩ := g3 f1
      obtain ⟨⟨p1, p2⟩, -⟩ := f3 f1
      obtain ⟨y, hy8, -, hy, -⟩ := h3.1 (gi M 57 i).toNat (by omega)
      have hs : gr N a 0 = some y := by rw [DF_r hD]; exact q1.trans hy
      simp only [↓eX1_pushByOvers_3, ↓eX1_pushByOvers_4, ↓eX1_pushByOvers_7, ↓eX1_pushByOvers_10, ↓eX1_pushByOvers_11, ↓eX1_pushByOvers_12, ↓eX1_pushByOvers_15, ↓eX1_pushByOvers_16, ↓eX1_pushByOvers_17, ↓eX1_pushByOvers_20, ↓eX1_pushByOvers_21, ↓eX1_pushByOvers_24, e, k51, ↓fa, ha', ↓fi, hs, hka', hk1 hN, hk5 hN, reduceCtorEq, Int.cast_ofNat_Int, kd_si, gr_si, ln_si, gi_same, gi_na, gi_ni, nl_i, nl_r, nl_j, nj_i, nj_l, nj_r, true_and, and_true, and_self, cs_0, cs_1, cs_2, cs_3, cs_4, ↓reduceIte, Nat.reduceLeDiff, Nat.reduceEqDiff, Nat.reduceAdd, Int.reduceLE, Int.reduceLT, Int.reduceEq, Int.reduceAdd, Int.reduceNeg, Int.reduceToNat, Int.toNat_natCast, ne_eq, not_false_eq_true, not_true_eq_false, or_true, true_or, or_false, false_or]
      refine key _ _ hD (fun c t hc ht => ?_)
      rw [dyr, if_neg (fun w => by omega)]
      exact hA c t hc ht
    · obtain ⟨q1, q2, -⟩ := g4 f1
      obtain ⟨⟨p1, p2⟩, p3, p4⟩ := f4 f1
      have hs : gr N a 0 = none := by rw [DF_r hD]; exact q1
      obtain ⟨ch, hch⟩ : ∃ c : Nat, gi M 58 i = c := ⟨(gi M 58 i).toNat, by omega⟩
      obtain ⟨t, ht⟩ : ∃ c : Nat, gi M 59 i = c := ⟨(gi M 59 i).toNat, by omega⟩
      obtain ⟨x, hx⟩ : ∃ c : Nat, gi M 60 i = c := ⟨(gi M 60 i).toNat, by omega⟩
      have c1 : gi N a 1 = ch := by rw [gN, g1, hch]
      have cW : ch < W := by omega
      have c2 : ((ch : Int) < 0) = False := eq_false (by omega)
      have c3 : ((W : Int) ≤ (ch : Int)) = False := eq_false (by omega)
      have c4 : (0 ≤ (ch : Int)) = True := eq_true (by omega)
      have c5 : ((ch : Int) < 6) = True := eq_true (by omega)
      obtain ⟨r1, r2, r3⟩ := row_r hN (c := ch) (by omega)
      have fe1 := DF_fe hD told_row n
      simp only [↓eX1_pushByOvers_3, ↓eX1_pushByOvers_4, ↓eX1_pushByOvers_7, ↓eX1_pushByOvers_10, ↓eX1_pushByOvers_11, ↓eX1_pushByOvers_12, ↓eX1_pushByOvers_15, ↓eX1_pushByOvers_16, ↓eX1_pushByOvers_17, ↓eX1_pushByOvers_20, ↓eX1_pushByOvers_21, ↓eX1_pushByOvers_24, ↓eX1_pushByOvers_27, ↓eX1_pushByOvers_28, ↓eX1_pushByOvers_31, ↓eX1_pushByOvers_34, ↓eX1_pushByOvers_35, ↓eX1_pushByOvers_38, ↓eX1_pushByOvers_39, ↓eX1_pushByOvers_42, ↓eX1_pushByOvers_45, ↓eX1_pushByOvers_46, ↓eX1_pushByOvers_47, ↓eX1_pushByOvers_48, ↓eX1_pushByOvers_51, ↓eX1_pushByOvers_52, ↓eX1_pushByOvers_55, ↓eX1_pushByOvers_56, ↓eX1_pushByOvers_57, e, k51, k52, c1, c2, c3, c4, c5, ↓fa, ha', ↓fi, hs, hka', hk1 hN, hk5 hN, hr5_3 hN, hk6 hN, hl6 hN, r1, reduceCtorEq, Int.cast_ofNat_Int, kd_si, gr_si, ln_si, gi_same, gi_na, gi_ni, nl_i, nl_r, nl_j, nj_i, nj_l, nj_r, true_and, and_true, and_self, cs_0, cs_1, cs_2, cs_3, cs_4, ↓reduceIte, Nat.reduceLeDiff, Nat.reduceEqDiff, Nat.reduceAdd, Int.reduceLE, Int.reduceLT, Int.reduceEq, Int.reduceAdd, Int.reduceNeg, Int.reduceToNat, Int.toNat_natCast, ne_eq, not_false_eq_true, not_true_eq_false, or_true, true_or, or_false, false_or]
      refine x_pushByOver (d := d) (t := t) (e := x) (n := n) (c := ch) (row := dyr M ch n i) hN (DF_I1 hD told_row h1) (DF_I3 hD told_row h3) (DF_FM hD told_row hf) (by omega) (by omega) r2 r3 hka' (by rw [gN, g2, ht]) (by rw [gN, q2, ht, hx]) (by omega) (by omega) ha8 (fun j hj => hA ch j cW hj) (fun j => ?_) ?_
      · rcases dyr_ok M ch n i j with w | ⟨k, w1, w2, w3, w4, w5⟩
        · exact Or.inl w
        · exact Or.inr ⟨k, w1, w2, by rw [fe1.1 56 k (by decide) (by decide) w2]; exact w3, by rw [fe1.1 58 k (by decide) (by decide) w2]; exact w4, by rw [fe1.1 61 k (by decide) (by decide) w2]; exact w5⟩
      · intro N' hD' hF' hA'
        refine ⟨rfl, key _ _ (DF_trans hD hD') (fun c j hc hj => ?_)⟩
        rw [dyr]
        by_cases z : c = ch
        · subst z
          rw [if_pos ⟨f1, hch⟩, hA' j hj, psh_fe fe1 (dyr_ok M c n i), ht, hx]
          rfl
        · rw [if_neg (fun w => z (by omega)), hF' (7 + c) (Or.inr ⟨by omega, by omega⟩) j]
          exact hA c j hc hj
/-- pushByOvers -/
theorem x_pushByOvers {d : Nat} {M : mM} {Q : mV → mM → Prop} {W n : Nat} (h : SH M) (h1 : I1 M) (h3 : I3 M) (hf : FM M) (hn : (n : Int) ≤ gi M 1 2) (hkn : gi M 5 1 = n) (hW : gi M 5 2 = W) (hW2 : gi M 1 0 = W) (h0 : ∀ c t : Nat, c < W → t < 288 → gi M (7 + c) t = bs M c n t)
    (hQ : ∀ N, DF isRow M N → (∀ c t : Nat, c < W → t < 288 → gi N (7 + c) t = dy M n c t) → Q vj N) : CP (mc (d + 3)) 14 [vr (some 5), vr (some 1)] M Q := by
  simp only [↓cpX1_pushByOvers, ↓eX1_pushByOvers_0, ↓eX1_pushByOvers_1, Int.cast_ofNat_Int, kd_si, gr_si, ln_si, gi_same, gi_na, gi_ni, nl_i, nl_r, nl_j, nj_i, nj_l, nj_r, true_and, and_true, and_self, cs_0, cs_1, cs_2, cs_3, cs_4, ↓reduceIte, Nat.reduceLeDiff, Nat.reduceEqDiff, Nat.reduceAdd, Int.reduceLE, Int.reduceLT, Int.reduceEq, Int.reduceAdd, Int.reduceNeg, Int.reduceToNat, Int.toNat_natCast, ne_eq, not_false_eq_true, not_true_eq_false, or_true, true_or, or_false, false_or]
  exact x_overs_loop h h1 h3 hf hn hkn hW hW2 hQ n 0 vj M (by omega) DF_refl h0
