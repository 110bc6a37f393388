theorem wdE_all {B : Nat → Int} : ∀ r i, ∀ j, i ≤ j → j < wdE B r i → isLt (B j) := by
  intro r
  induction r with
  | zero => intro i j h1 h2; rw [wdE] at h2; omega
  | succ r ih =>
    intro i j h1
    rw [wdE]
    by_cases q : isLt (B i)
    · rw [if_pos q]
      intro h2
      by_cases z : j = i
      · rw [z]; exact q
      · exact ih (i + 1) j (by omega) h2
    · rw [if_neg q]; intro h2; omega
theorem y_cut_loop {d : Nat} {M : mM} {Q : mV → mM → Prop} {B : Nat → Int} {sz : Nat} (h : SH M) (hx : TX B sz M) (hb : B8 B sz) (h2 : sz ≤ 2000) (hy : KY M)
    (hQ : ∀ N m, YF cutS M N → TKS B sz N m → m ≤ 401 → (m ≤ 400 → bg B sz m = sz ∧ gi N 38 m = 0 ∧ gi N 39 m = sz) → Q vj N) :
    ∀ (f i m : Nat) (a2 a3 a4 a5 a6 a7 : mV) (N : mM), sz - i ≤ f → i ≤ sz → skp B (sz - i) i = bg B sz m → m ≤ 401 → gi N 35 10 = m → YF cutS M N → TKS B sz N m → nl a3 → nl a5 → WP (mc (d + 2)) tX12_cut 7 [vr (some 35), vi i, a2, a3, a4, a5, a6, a7] [] N Q := by
  intro f
  induction f with
  | zero =>
    intro i m a2 a3 a4 a5 a6 a7 N hf hi hk hm h10 hF hT n3 n5
    have hN := YF_SH hF h
    have e : i = sz := by omega
    subst e
    have hx' : TX B i N := ⟨by rw [hF.2 35 4 (by unfold cutS; omega)]; exact hx.1, fun j hj => by rw [hF.2 37 j (by unfold cutS; omega)]; exact hx.2 j hj⟩
    by_cases q : m = 401
    · have c : ((400 : Int) < (m : Int)) = True := eq_true (by omega)
      rw [eX12_cut_7]
      simp only [↓eX12_cut_8, ↓eX12_cut_11, ↓eX12_cut_14, ↓eX12_cut_294, hk35 hN, h10, c, Int.cast_ofNat_Int, kd_si, gr_si, ln_si, gi_same, gi_na, gi_ni, nl_i, nl_r, nl_j, nj_i, nj_l, nj_r, true_and, and_true, and_self, cs_0, cs_1, cs_2, cs_3, cs_4, ↓reduceIte, Nat.reduceLeDiff, Nat.reduceEqDiff, Nat.reduceAdd, Int.reduceLE, Int.reduceLT, Int.reduceEq, Int.reduceAdd, Int.reduceNeg, Int.reduceToNat, Int.toNat_natCast, ne_eq, not_false_eq_true, not_true_eq_false, or_true, true_or, or_false, false_or]
      exact hQ N m hF hT (by omega) (fun z => by omega)
    · have c : ((400 : Int) < (m : Int)) = False := eq_false (by omega)
      have fa := fun (Q : mV → mM → Prop) => y_at (d := d + 1) (Q := Q) (B := B) (sz := i) (i := i) hN hx' hb h2
      have ft := fun (Q : mV → mM → Prop) => y_token (d := d + 1) (Q := Q) (k := 0) (p := i) (v := 0) (nm := 0) hN h10 (by omega)
      have g4 := hx'.1
      rw [eX12_cut_7]
      simp only [↓eX12_cut_8, ↓eX12_cut_11, ↓eX12_cut_14, ↓eX12_cut_17, ↓eX12_cut_18, ↓eX12_cut_19, ↓eX12_cut_22, ↓eX12_cut_23, ↓eX12_cut_24, ↓eX12_cut_25, ↓eX12_cut_28, ↓eX12_cut_31, ↓eX12_cut_32, ↓eX12_cut_33, ↓eX12_cut_34, ↓eX12_cut_37, ↓eX12_cut_38, ↓eX12_cut_39, ↓eX12_cut_42, hk35 hN, h10, c, g4, ↓fa, ↓ft, Int.lt_irrefl, Int.cast_ofNat_Int, kd_si, gr_si, ln_si, gi_same, gi_na, gi_ni, nl_i, nl_r, nl_j, nj_i, nj_l, nj_r, true_and, and_true, and_self, cs_0, cs_1, cs_2, cs_3, cs_4, ↓reduceIte, Nat.reduceLeDiff, Nat.reduceEqDiff, Nat.reduceAdd, Int.reduceLE, Int.reduceLT, Int.reduceEq, Int.reduceAdd, Int.reduceNeg, Int.reduceToNat, Int.toNat_natCast, ne_eq, not_false_eq_true, not_true_eq_false, or_true, true_or, or_false, false_or]
      refine hQ _ m (tokM_YF hF) (tokM_old hT) (by omega) (fun _ => ⟨?_, tokM_end.1, tokM_end.2⟩)
      rw [← hk, Nat.sub_self]
      rfl
  | succ f ih =>
    intro i m a2 a3 a4 a5 a6 a7 N hf hi hk hm h10 hF hT n3 n5
    have hN := YF_SH hF h
    by_cases e : i = sz
    · exact ih i m a2 a3 a4 a5 a6 a7 N (by omega) hi hk hm h10 hF hT n3 n5
    have hx' : TX B sz N := ⟨by rw [hF.2 35 4 (by unfold cutS; omega)]; exact hx.1, fun j hj => by rw [hF.2 37 j (by unfold cutS; omega)]; exact hx.2 j hj⟩
    have hy' : KY N := fun k hk => by rw [hF.2 42 k (by unfold cutS; omega)]; exact hy k hk
    by_cases q : m = 401
    · have c : ((400 : Int) < (m : Int)) = True := eq_true (by omega)
      rw [eX12_cut_7]
      simp only [↓eX12_cut_8, ↓eX12_cut_11, ↓eX12_cut_14, ↓eX12_cut_294, hk35 hN, h10, c, Int.cast_ofNat_Int, kd_si, gr_si, ln_si, gi_same, gi_na, gi_ni, nl_i, nl_r, nl_j, nj_i, nj_l, nj_r, true_and, and_true, and_self, cs_0, cs_1, cs_2, cs_3, cs_4, ↓reduceIte, Nat.reduceLeDiff, Nat.reduceEqDiff, Nat.reduceAdd, Int.reduceLE, Int.reduceLT, Int.reduceEq, Int.reduceAdd, Int.reduceNeg, Int.reduceToNat, Int.toNat_natCast, ne_eq, not_false_eq_true, not_true_eq_false, or_true, true_or, or_false, false_or]
      exact hQ N m hF hT (by omega) (fun z => by omega)
    · have c : ((400 : Int) < (m : Int)) = False := eq_false (by omega)
      have fa := fun (Q : mV → mM → Prop) => y_at (d := d + 1) (Q := Q) (B := B) (sz := sz) (i := i) hN hx' hb h2
      have g : bt B sz i = B i := by unfold bt; rw [if_pos (by omega)]
      rw [g] at fa
      have g4 := hx'.1
      have lt : ((i : Int) < (sz : Int)) = True := eq_true (by omega)
      obtain ⟨b1, b2⟩ := hb i (by omega)
      have v := fun {c : Int} (h3 : 0 ≤ c) (h4 : c ≤ 127) => b8_v b1 b2 h3 h4
      have v9 : (b8 (B i) = 9) = (B i = 9) := v (by decide) (by decide)
      have v10 : (b8 (B i) = 10) = (B i = 10) := v (by decide) (by decide)
      have v13 : (b8 (B i) = 13) = (B i = 13) := v (by decide) (by decide)
      have v32 : (b8 (B i) = 32) = (B i = 32) := v (by decide) (by decide)
      have e2 : wr ((i : Int) + 1) = ((i + 1 : Nat) : Int) := by rw [wr_id (by omega) (by omega)]; omega
      by_cases bk : isBk (B i)
      · have step : WP (mc (d + 2)) tX12_cut 7 [vr (some 35), vi i, a2, a3, a4, a5, a6, a7] [] N Q = WP (mc (d + 2)) tX12_cut 7 [vr (some 35), vi (i + 1 : Nat), vi (b8 (B i)), a3, a4, a5, a6, a7] [] N Q := by
          rw [eX12_cut_7]
          rcases bk with z | z | z | z
          · have zz : b8 (B i) = 9 := by rw [z]; rfl
            simp only [↓eX12_cut_8, ↓eX12_cut_11, ↓eX12_cut_14, ↓eX12_cut_17, ↓eX12_cut_18, ↓eX12_cut_19, ↓eX12_cut_22, ↓eX12_cut_23, ↓eX12_cut_24, ↓eX12_cut_25, ↓eX12_cut_28, ↓eX12_cut_31, ↓eX12_cut_32, ↓eX12_cut_33, ↓eX12_cut_34, ↓eX12_cut_37, ↓eX12_cut_38, ↓eX12_cut_39, ↓eX12_cut_42, ↓eX12_cut_43, ↓eX12_cut_44, ↓eX12_cut_46, ↓eX12_cut_49, ↓eX12_cut_50, ↓eX12_cut_52, ↓eX12_cut_55, ↓eX12_cut_56, ↓eX12_cut_58, ↓eX12_cut_61, ↓eX12_cut_62, ↓eX12_cut_64, ↓eX12_cut_67, ↓eX12_cut_70, ↓eX12_cut_291, hk35 hN, h10, c, g4, lt, ↓fa, zz, e2, Int.cast_ofNat_Int, kd_si, gr_si, ln_si, gi_same, gi_na, gi_ni, nl_i, nl_r, nl_j, nj_i, nj_l, nj_r, true_and, and_true, and_self, cs_0, cs_1, cs_2, cs_3, cs_4, ↓reduceIte, Nat.reduceLeDiff, Nat.reduceEqDiff, Nat.reduceAdd, Int.reduceLE, Int.reduceLT, Int.reduceEq, Int.reduceAdd, Int.reduceNeg, Int.reduceToNat, Int.toNat_natCast, ne_eq, not_false_eq_true, not_true_eq_false, or_true, true_or, or_false, false_or] 
          · have zz : b8 (B i) = 10 := by rw [z]; rfl
            simp only [↓eX12_cut_8, ↓eX12_cut_11, ↓eX12_cut_14, ↓eX12_cut_17, ↓eX12_cut_18, ↓eX12_cut_19, ↓eX12_cut_22, ↓eX12_cut_23, ↓eX12_cut_24, ↓eX12_cut_25, ↓eX12_cut_28, ↓eX12_cut_31, ↓eX12_cut_32, ↓eX12_cut_33, ↓eX12_cut_34, ↓eX12_cut_37, ↓eX12_cut_38, ↓eX12_cut_39, ↓eX12_cut_42, ↓eX12_cut_43, ↓eX12_cut_44, ↓eX12_cut_46, ↓eX12_cut_49, ↓eX12_cut_50, ↓eX12_cut_52, ↓eX12_cut_55, ↓eX12_cut_56, ↓eX12_cut_58, ↓eX12_cut_61, ↓eX12_cut_62, ↓eX12_cut_64, ↓eX12_cut_67, ↓eX12_cut_70, ↓eX12_cut_291, hk35 hN, h10, c, g4, lt, ↓fa, zz, e2, Int.cast_ofNat_Int, kd_si, gr_si, ln_si, gi_same, gi_na, gi_ni, nl_i, nl_r, nl_j, nj_i, nj_l, nj_r, true_and, and_true, and_self, cs_0, cs_1, cs_2, cs_3, cs_4, ↓reduceIte, Nat.reduceLeDiff, Nat.reduceEqDiff, Nat.reduceAdd, Int.reduceLE, Int.reduceLT, Int.reduceEq, Int.reduceAdd, Int.reduceNeg, Int.reduceToNat, Int.toNat_natCast, ne_eq, not_false_eq_true, not_true_eq_false, or_true, true_or, or_false, false_or] 
          · have zz : b8 (B i) = 13 := by rw [z]; rfl
            simp only [↓eX12_cut_8, ↓eX12_cut_11, ↓eX12_cut_14, ↓eX12_cut_17, ↓eX12_cut_18, ↓eX12_cut_19, ↓eX12_cut_22, ↓eX12_cut_23, ↓eX12_cut_24, ↓eX12_cut_25, ↓eX12_cut_28, ↓eX12_cut_31, ↓eX12_cut_32, ↓eX12_cut_33, ↓eX12_cut_34, ↓eX12_cut_37, ↓eX12_cut_38, ↓eX12_cut_39, ↓eX12_cut_42, ↓eX12_cut_43, ↓eX12_cut_44, ↓eX12_cut_46, ↓eX12_cut_49, ↓eX12_cut_50, ↓eX12_cut_52, ↓eX12_cut_55, ↓eX12_cut_56, ↓eX12_cut_58, ↓eX12_cut_61, ↓eX12_cut_62, ↓eX12_cut_64, ↓eX12_cut_67, ↓eX12_cut_70, ↓eX12_cut_291, hk35 hN, h10, c, g4, lt, ↓fa, zz, e2, Int.cast_ofNat_Int, kd_si, gr_si, ln_si, gi_same, gi_na, gi_ni, nl_i, nl_r, nl_j, nj_i, nj_l, nj_r, true_and, and_true, and_self, cs_0, cs_1, cs_2, cs_3, cs_4, ↓reduceIte, Nat.reduceLeDiff, Nat.reduceEqDiff, Nat.reduceAdd, Int.reduceLE, Int.reduceLT, Int.reduceEq, Int.reduceAdd, Int.reduceNeg, Int.reduceToNat, Int.toNat_natCast, ne_eq, not_false_eq_true, not_true_eq_false, or_true, true_or, or_false, false_or] 
          · have zz : b8 (B i) = 32 := by rw [z]; rfl
            simp only [↓eX12_cut_8, ↓eX12_cut_11, ↓eX12_cut_14, ↓eX12_cut_17, ↓eX12_cut_18, ↓eX12_cut_19, ↓eX12_cut_22, ↓eX12_cut_23, ↓eX12_cut_24, ↓eX12_cut_25, ↓eX12_cut_28, ↓eX12_cut_31, ↓eX12_cut_32, ↓eX12_cut_33, ↓eX12_cut_34, ↓eX12_cut_37, ↓eX12_cut_38, ↓eX12_cut_39, ↓eX12_cut_42, ↓eX12_cut_43, ↓eX12_cut_44, ↓eX12_cut_46, ↓eX12_cut_49, ↓eX12_cut_50, ↓eX12_cut_52, ↓eX12_cut_55, ↓eX12_cut_56, ↓eX12_cut_58, ↓eX12_cut_61, ↓eX12_cut_62, ↓eX12_cut_64, ↓eX12_cut_67, ↓eX12_cut_70, ↓eX12_cut_291, hk35 hN, h10, c, g4, lt, ↓fa, zz, e2, Int.cast_ofNat_Int, kd_si, gr_si, ln_si, gi_same, gi_na, gi_ni, nl_i, nl_r, nl_j, nj_i, nj_l, nj_r, true_and, and_true, and_self, cs_0, cs_1, cs_2, cs_3, cs_4, ↓reduceIte, Nat.reduceLeDiff, Nat.reduceEqDiff, Nat.reduceAdd, Int.reduceLE, Int.reduceLT, Int.reduceEq, Int.reduceAdd, Int.reduceNeg, Int.reduceToNat, Int.toNat_natCast, ne_eq, not_false_eq_true, not_true_eq_false, or_true, true_or, or_false, false_or] 
        rw [step]
        refine ih (i + 1) m _ a3 a4 a5 a6 a7 N (by omega) (by omega) ?_ hm h10 hF hT n3 n5
        rw [← hk, show sz - i = (sz - (i + 1)) + 1 by omega, skp, if_pos bk]
      · have hbi : bg B sz m = i := by rw [← hk, show sz - i = (sz - (i + 1)) + 1 by omega, skp, if_neg bk]
        have b9 : (B i = 9) = False := eq_false (fun w => bk (Or.inl w))
        have b10 : (B i = 10) = False := eq_false (fun w => bk (Or.inr (Or.inl w)))
        have b13 : (B i = 13) = False := eq_false (fun w => bk (Or.inr (Or.inr (Or.inl w))))
        have b32 : (B i = 32) = False := eq_false (fun w => bk (Or.inr (Or.inr (Or.inr w))))
        have step : WP (mc (d + 2)) tX12_cut 7 [vr (some 35), vi i, a2, a3, a4, a5, a6, a7] [] N Q = WP (mc (d + 2)) tX12_cut 73 [vr (some 35), vi i, vi (b8 (B i)), a3, a4, a5, a6, a7] [] N Q := by
          rw [eX12_cut_7]
          simp only [↓eX12_cut_8, ↓eX12_cut_11, ↓eX12_cut_14, ↓eX12_cut_17, ↓eX12_cut_18, ↓eX12_cut_19, ↓eX12_cut_22, ↓eX12_cut_23, ↓eX12_cut_24, ↓eX12_cut_25, ↓eX12_cut_28, ↓eX12_cut_31, ↓eX12_cut_32, ↓eX12_cut_33, ↓eX12_cut_34, ↓eX12_cut_37, ↓eX12_cut_38, ↓eX12_cut_39, ↓eX12_cut_42, ↓eX12_cut_43, ↓eX12_cut_44, ↓eX12_cut_46, ↓eX12_cut_49, ↓eX12_cut_50, ↓eX12_cut_52, ↓eX12_cut_55, ↓eX12_cut_56, ↓eX12_cut_58, ↓eX12_cut_61, ↓eX12_cut_62, ↓eX12_cut_64, ↓eX12_cut_67, ↓eX12_cut_70, hk35 hN, h10, c, g4, lt, ↓fa, v9, v10, v13, v32, b9, b10, b13, b32, Int.cast_ofNat_Int, kd_si, gr_si, ln_si, gi_same, gi_na, gi_ni, nl_i, nl_r, nl_j, nj_i, nj_l, nj_r, true_and, and_true, and_self, cs_0, cs_1, cs_2, cs_3, cs_4, ↓reduceIte, Nat.reduceLeDiff, Nat.reduceEqDiff, Nat.reduceAdd, Int.reduceLE, Int.reduceLT, Int.reduceEq, Int.reduceAdd, Int.reduceNeg, Int.reduceToNat, Int.toNat_natCast, ne_eq, not_false_eq_true, not_true_eq_false, or_true, true_or, or_false, false_or]
        rw [step]
        have hE := tkE_lt (B := B) (show i < sz by omega)
        have nxt : skp B (sz - tkE B sz i) (tkE B sz i) = bg B sz (m + 1) := by rw [bg_s (by omega), hbi]
        have bgm : bg B sz m < sz := by omega
        by_cases l : isLt (B i)
        · have l' : isLt (b8 (B i)) = True := by rw [b8_lt b1 b2]; exact eq_true l
          simp only [↓eX12_cut_73, ↓eX12_cut_74, ↓eX12_cut_77, ↓eX12_cut_80, ↓eX12_cut_81, ↓eX12_cut_82, ↓eX12_cut_83, ↓y_isLetter, l', n3, Int.cast_ofNat_Int, kd_si, gr_si, ln_si, gi_same, gi_na, gi_ni, nl_i, nl_r, nl_j, nj_i, nj_l, nj_r, true_and, and_true, and_self, cs_0, cs_1, cs_2, cs_3, cs_4, ↓reduceIte, Nat.reduceLeDiff, Nat.reduceEqDiff, Nat.reduceAdd, Int.reduceLE, Int.reduceLT, Int.reduceEq, Int.reduceAdd, Int.reduceNeg, Int.reduceToNat, Int.toNat_natCast, ne_eq, not_false_eq_true, not_true_eq_false, or_true, true_or, or_false, false_or]
          have Y := y_wd (d := d + 1) (Q := Q) (i := i) (c := b8 (B i)) (a6 := a6) (a7 := a7) hN hx' hb h2 (sz - i) 0 (by omega) (fun j hj => absurd hj (Nat.not_lt_zero j))
          have Y' : WP (mc (d + 2)) tX12_cut 85 [vr (some 35), vi i, vi (b8 (B i)), vi 0, vl 0, vj, a6, a7] [] N Q = _ := Y
          rw [Y']
          have hE2 : wdE B (sz - i) (i + 0) = tkE B sz i := by
            rw [Nat.add_zero, show sz - i = (sz - (i + 1)) + 1 by omega, wdE, if_pos l, tkE, if_pos l]
          rw [hE2]
          have all : ∀ j, j < tkE B sz i - i → isLt (B (i + j)) := fun j hj => wdE_all (sz - i) i (i + j) (by omega) (by rw [Nat.add_zero] at hE2; rw [hE2]; omega)
          have w9 : wr ((i : Int) + ((tkE B sz i - i : Nat) : Int)) = ((tkE B sz i : Nat) : Int) := by rw [wr_id (by omega) (by omega)]; omega
          have ft := fun (Q : mV → mM → Prop) (k : Int) (x : Int) => y_token (d := d + 1) (Q := Q) (k := k) (p := i) (v := 0) (nm := x) hN h10 (by omega)
          have K : tkK B sz i = if 8 < tkE B sz i - i then 0 else kw B i (tkE B sz i - i) := by rw [tkK, if_pos l]
          have fin : ∀ (k x : Int) (b6 b7 : mV), KR (tkK B sz i) k → WP (mc (d + 2)) tX12_cut 179 [vr (some 35), vi i, vi (b8 (B i)), vi (tkE B sz i - i : Nat), vl x, vj, vi k, b7] [] N Q := fun k x b6 b7 hk => by
            simp only [↓eX12_cut_179, ↓eX12_cut_180, ↓eX12_cut_182, ↓eX12_cut_183, ↓eX12_cut_184, ↓eX12_cut_186, ↓eX12_cut_189, ↓eX12_cut_190, ↓eX12_cut_191, ↓eX12_cut_192, ↓eX12_cut_193, ↓eX12_cut_291, hk35 hN, ↓ft, w9, Int.cast_ofNat_Int, kd_si, gr_si, ln_si, gi_same, gi_na, gi_ni, nl_i, nl_r, nl_j, nj_i, nj_l, nj_r, true_and, and_true, and_self, cs_0, cs_1, cs_2, cs_3, cs_4, ↓reduceIte, Nat.reduceLeDiff, Nat.reduceEqDiff, Nat.reduceAdd, Int.reduceLE, Int.reduceLT, Int.reduceEq, Int.reduceAdd, Int.reduceNeg, Int.reduceToNat, Int.toNat_natCast, ne_eq, not_false_eq_true, not_true_eq_false, or_true, true_or, or_false, false_or]
            exact ih _ (m + 1) _ _ _ _ _ _ _ (by omega) (by omega) nxt (by omega) tokM_10 (tokM_YF hF) (tokM_TKS hT bgm (by rw [hbi]; exact hk) (by rw [hbi]) (by
              rw [hbi]
              intro z
              exfalso
              rw [K] at z
              revert z
              by_cases y : 8 < tkE B sz i - i
              · rw [if_pos y]; omega
              · rw [if_neg y]; unfold kw; (repeat' split) <;> omega)) (nlI _) nlJ
          by_cases q8 : 8 < tkE B sz i - i
          · have c8 : (((tkE B sz i - i : Nat) : Int) ≤ 8) = False := eq_false (by omega)
            have c7 : ((7 : Int) < ((tkE B sz i - i : Nat) : Int)) = True := eq_true (by omega)
            simp only [↓eX12_cut_124, ↓eX12_cut_125, ↓eX12_cut_127, ↓eX12_cut_130, ↓eX12_cut_131, ↓eX12_cut_134, ↓eX12_cut_135, ↓eX12_cut_137, ↓eX12_cut_138, ↓eX12_cut_140, c8, c7, Int.cast_ofNat_Int, kd_si, gr_si, ln_si, gi_same, gi_na, gi_ni, nl_i, nl_r, nl_j, nj_i, nj_l, nj_r, true_and, and_true, and_self, cs_0, cs_1, cs_2, cs_3, cs_4, ↓reduceIte, Nat.reduceLeDiff, Nat.reduceEqDiff, Nat.reduceAdd, Int.reduceLE, Int.reduceLT, Int.reduceEq, Int.reduceAdd, Int.reduceNeg, Int.reduceToNat, Int.toNat_natCast, ne_eq, not_false_eq_true, not_true_eq_false, or_true, true_or, or_false, false_or]
            exact fin 3 _ a6 _ (by rw [K, if_pos q8]; exact Or.inl ⟨rfl, Or.inr rfl⟩)
          · have c8 : (((tkE B sz i - i : Nat) : Int) ≤ 8) = True := eq_true (by omega)
            by_cases q7 : tkE B sz i - i = 8
            · have c7 : ((7 : Int) < ((tkE B sz i - i : Nat) : Int)) = True := eq_true (by omega)
              simp only [↓eX12_cut_124, ↓eX12_cut_125, ↓eX12_cut_127, ↓eX12_cut_130, ↓eX12_cut_131, ↓eX12_cut_134, ↓eX12_cut_135, ↓eX12_cut_137, ↓eX12_cut_138, ↓eX12_cut_140, c8, c7, Int.cast_ofNat_Int, kd_si, gr_si, ln_si, gi_same, gi_na, gi_ni, nl_i, nl_r, nl_j, nj_i, nj_l, nj_r, true_and, and_true, and_self, cs_0, cs_1, cs_2, cs_3, cs_4, ↓reduceIte, Nat.reduceLeDiff, Nat.reduceEqDiff, Nat.reduceAdd, Int.reduceLE, Int.reduceLT, Int.reduceEq, Int.reduceAdd, Int.reduceNeg, Int.reduceToNat, Int.toNat_natCast, ne_eq, not_false_eq_true, not_true_eq_false, or_true, true_or, or_false, false_or]
              exact fin 1 _ a6 _ (by rw [K, if_neg q8, q7, kw_8]; exact Or.inl ⟨rfl, Or.inl rfl⟩)
            · have c7 : ((7 : Int) < ((tkE B sz i - i : Nat) : Int)) = False := eq_false (by omega)
              simp only [↓eX12_cut_124, ↓eX12_cut_125, ↓eX12_cut_127, ↓eX12_cut_130, ↓eX12_cut_131, ↓eX12_cut_134, ↓eX12_cut_135, ↓eX12_cut_137, ↓eX12_cut_138, ↓eX12_cut_140, ↓eX12_cut_143, ↓eX12_cut_144, c8, c7, Int.cast_ofNat_Int, kd_si, gr_si, ln_si, gi_same, gi_na, gi_ni, nl_i, nl_r, nl_j, nj_i, nj_l, nj_r, true_and, and_true, and_self, cs_0, cs_1, cs_2, cs_3, cs_4, ↓reduceIte, Nat.reduceLeDiff, Nat.reduceEqDiff, Nat.reduceAdd, Int.reduceLE, Int.reduceLT, Int.reduceEq, Int.reduceAdd, Int.reduceNeg, Int.reduceToNat, Int.toNat_natCast, ne_eq, not_false_eq_true, not_true_eq_false, or_true, true_or, or_false, false_or]
              have Z := y_key (C := mc (d + 2)) (Q := Q) (x := nm B i (min (tkE B sz i - i) 8)) (a1 := vi i) (a2 := vi (b8 (B i))) (a3 := vi (tkE B sz i - i : Nat)) hN hy' 14 0 1 (by decide)
              have Z' : WP (mc (d + 2)) tX12_cut 146 [vr (some 35), vi i, vi (b8 (B i)), vi (tkE B sz i - i : Nat), vl (nm B i (min (tkE B sz i - i) 8)), vj, vi 1, vi 0] [] N Q = _ := Z
              rw [Z', Nat.min_eq_left (show tkE B sz i - i ≤ 8 by omega)]
              exact fin _ _ a6 _ (by rw [K, if_neg q8]; exact kw_kfl all)
        · have l' : isLt (b8 (B i)) = False := by rw [b8_lt b1 b2]; exact eq_false l
          by_cases g : isDg (B i)
          · have g' : isDg (b8 (B i)) = True := by rw [b8_dg b1 b2]; exact eq_true g
            simp only [↓eX12_cut_73, ↓eX12_cut_74, ↓eX12_cut_77, ↓eX12_cut_196, ↓eX12_cut_197, ↓eX12_cut_200, ↓eX12_cut_203, ↓eX12_cut_204, ↓eX12_cut_205, ↓eX12_cut_206, ↓y_isLetter, ↓y_isDigit, l', g', n3, Int.cast_ofNat_Int, kd_si, gr_si, ln_si, gi_same, gi_na, gi_ni, nl_i, nl_r, nl_j, nj_i, nj_l, nj_r, true_and, and_true, and_self, cs_0, cs_1, cs_2, cs_3, cs_4, ↓reduceIte, Nat.reduceLeDiff, Nat.reduceEqDiff, Nat.reduceAdd, Int.reduceLE, Int.reduceLT, Int.reduceEq, Int.reduceAdd, Int.reduceNeg, Int.reduceToNat, Int.toNat_natCast, ne_eq, not_false_eq_true, not_true_eq_false, or_true, true_or, or_false, false_or]
            have Y := y_dg (d := d + 1) (Q := Q) (i := i) (c := b8 (B i)) (a5 := a5) (a6 := a6) (a7 := a7) hN hx' hb h2 (sz - i) 0 (by omega) (fun j hj => absurd hj (Nat.not_lt_zero j))
            have Y' : WP (mc (d + 2)) tX12_cut 208 [vr (some 35), vi i, vi (b8 (B i)), vi 0, vi 0, a5, a6, a7] [] N Q = _ := Y
            rw [Y']
            have hE2 : dgE B (sz - i) (i + 0) = tkE B sz i := by
              rw [Nat.add_zero, tkE, if_neg l, if_pos g]
            rw [hE2]
            have w9 : wr ((i : Int) + ((tkE B sz i - i : Nat) : Int)) = ((tkE B sz i : Nat) : Int) := by rw [wr_id (by omega) (by omega)]; omega
            have ft := fun (Q : mV → mM → Prop) (k v : Int) => y_token (d := d + 1) (Q := Q) (k := k) (p := i) (v := v) (nm := 0) hN h10 (by omega)
            have K : tkK B sz i = if 4 < tkE B sz i - i then 0 else 1 := by rw [tkK, if_neg l, if_pos g]
            by_cases q8 : 4 < tkE B sz i - i
            · have c8 : (((tkE B sz i - i : Nat) : Int) ≤ 4) = False := eq_false (by omega)
              simp only [↓eX12_cut_250, ↓eX12_cut_251, ↓eX12_cut_252, ↓eX12_cut_253, ↓eX12_cut_256, ↓eX12_cut_257, ↓eX12_cut_260, ↓eX12_cut_261, ↓eX12_cut_262, ↓eX12_cut_264, ↓eX12_cut_265, ↓eX12_cut_268, ↓eX12_cut_269, ↓eX12_cut_270, ↓eX12_cut_271, ↓eX12_cut_272, ↓eX12_cut_291, hk35 hN, ↓ft, w9, c8, Int.cast_ofNat_Int, kd_si, gr_si, ln_si, gi_same, gi_na, gi_ni, nl_i, nl_r, nl_j, nj_i, nj_l, nj_r, true_and, and_true, and_self, cs_0, cs_1, cs_2, cs_3, cs_4, ↓reduceIte, Nat.reduceLeDiff, Nat.reduceEqDiff, Nat.reduceAdd, Int.reduceLE, Int.reduceLT, Int.reduceEq, Int.reduceAdd, Int.reduceNeg, Int.reduceToNat, Int.toNat_natCast, ne_eq, not_false_eq_true, not_true_eq_false, or_true, true_or, or_false, false_or]
              exact ih _ (m + 1) _ _ _ _ _ _ _ (by omega) (by omega) nxt (by omega) tokM_10 (tokM_YF hF) (tokM_TKS hT bgm (by rw [hbi, K, if_pos q8]; exact Or.inl ⟨rfl, Or.inr rfl⟩) (by rw [hbi]) (by
                rw [hbi, K, if_pos q8]; intro z; omega)) (nlI _) n5
            · have c8 : (((tkE B sz i - i : Nat) : Int) ≤ 4) = True := eq_true (by omega)
              simp only [↓eX12_cut_250, ↓eX12_cut_251, ↓eX12_cut_252, ↓eX12_cut_253, ↓eX12_cut_256, ↓eX12_cut_257, ↓eX12_cut_260, ↓eX12_cut_261, ↓eX12_cut_262, ↓eX12_cut_264, ↓eX12_cut_265, ↓eX12_cut_268, ↓eX12_cut_269, ↓eX12_cut_270, ↓eX12_cut_271, ↓eX12_cut_272, ↓eX12_cut_291, hk35 hN, ↓ft, w9, c8, Int.cast_ofNat_Int, kd_si, gr_si, ln_si, gi_same, gi_na, gi_ni, nl_i, nl_r, nl_j, nj_i, nj_l, nj_r, true_and, and_true, and_self, cs_0, cs_1, cs_2, cs_3, cs_4, ↓reduceIte, Nat.reduceLeDiff, Nat.reduceEqDiff, Nat.reduceAdd, Int.reduceLE, Int.reduceLT, Int.reduceEq, Int.reduceAdd, Int.reduceNeg, Int.reduceToNat, Int.toNat_natCast, ne_eq, not_false_eq_true, not_true_eq_false, or_true, true_or, or_false, false_or]
              exact ih _ (m + 1) _ _ _ _ _ _ _ (by omega) (by omega) nxt (by omega) tokM_10 (tokM_YF hF) (tokM_TKS hT bgm (by rw [hbi, K, if_neg q8]; exact Or.inr (by decide)) (by rw [hbi]) (by
                rw [hbi, Nat.min_eq_left (by omega)]; intro _; rfl)) (nlI _) n5
          · have g' : isDg (b8 (B i)) = False := by rw [b8_dg b1 b2]; exact eq_false g
            have fa2 := fun (Q : mV → mM → Prop) => y_at (d := d + 1) (Q := Q) (B := B) (sz := sz) (i := i + 1) hN hx' hb h2
            have fs := fun (Q : mV → mM → Prop) (e : Int) => y_sign (d := d) (Q := Q) (p := i) (c := b8 (B i)) (e := e) hN h10 (by omega)
            obtain ⟨u1, u2⟩ := bt_r hb (i + 1)
            have hb8 : b8 (B i) = B i ∨ (128 ≤ b8 (B i) ∧ B i < 0) := by unfold b8; split <;> omega
            have kpe : kp (b8 (B i)) = kp (B i) := by
              rcases hb8 with z | z
              · rw [z]
              · unfold kp
                rw [if_neg (by omega), if_neg (by omega), if_neg (by omega), if_neg (by omega), if_neg (by omega), if_neg (by omega)]
            have kse : ks (b8 (B i)) = ks (B i) := by
              rcases hb8 with z | z
              · rw [z]
              · unfold ks
                rw [if_neg (by omega), if_neg (by omega), if_neg (by omega), if_neg (by omega), if_neg (by omega), if_neg (by omega), if_neg (by omega), if_neg (by omega), if_neg (by omega), if_neg (by omega), if_neg (by omega), if_neg (by omega), if_neg (by omega), if_neg (by omega)]
            have pe : (b8 (bt B sz (i + 1)) = 61 ∧ kp (b8 (B i)) ≠ 0) = prd B sz i := by rw [kpe, b8_v u1 u2 (by decide) (by decide)]
            have E : tkE B sz i = if prd B sz i then i + 2 else i + 1 := by rw [tkE, if_neg l, if_neg g]
            have K : tkK B sz i = if prd B sz i then kp (B i) else ks (B i) := by rw [tkK, if_neg l, if_neg g]
            have w9 : wr ((i : Int) + (if b8 (bt B sz (i + 1)) = 61 ∧ kp (b8 (B i)) ≠ 0 then 2 else 1)) = ((tkE B sz i : Nat) : Int) := by
              rw [E]
              simp only [pe]
              by_cases z : prd B sz i
              · rw [if_pos z, if_pos z, wr_id (by omega) (by omega)]; omega
              · rw [if_neg z, if_neg z, wr_id (by omega) (by omega)]; omega
            simp only [↓eX12_cut_73, ↓eX12_cut_74, ↓eX12_cut_77, ↓eX12_cut_196, ↓eX12_cut_197, ↓eX12_cut_200, ↓eX12_cut_275, ↓eX12_cut_276, ↓eX12_cut_277, ↓eX12_cut_278, ↓eX12_cut_279, ↓eX12_cut_280, ↓eX12_cut_281, ↓eX12_cut_282, ↓eX12_cut_283, ↓eX12_cut_286, ↓eX12_cut_289, ↓eX12_cut_290, ↓eX12_cut_291, ↓y_isLetter, ↓y_isDigit, l', g', hk35 hN, e2, ↓fa2, ↓fs, n3, Int.cast_ofNat_Int, kd_si, gr_si, ln_si, gi_same, gi_na, gi_ni, nl_i, nl_r, nl_j, nj_i, nj_l, nj_r, true_and, and_true, and_self, cs_0, cs_1, cs_2, cs_3, cs_4, ↓reduceIte, Nat.reduceLeDiff, Nat.reduceEqDiff, Nat.reduceAdd, Int.reduceLE, Int.reduceLT, Int.reduceEq, Int.reduceAdd, Int.reduceNeg, Int.reduceToNat, Int.toNat_natCast, ne_eq, not_false_eq_true, not_true_eq_false, or_true, true_or, or_false, false_or]
            have w9' : wr ((i : Int) + (if b8 (bt B sz (i + 1)) = 61 ∧ ¬ kp (b8 (B i)) = 0 then 2 else 1)) = ((tkE B sz i : Nat) : Int) := w9
            rw [w9']
            have kr := ysk_KR (c := b8 (B i)) (d := b8 (bt B sz (i + 1)))
            have kr' : KR (tkK B sz i) (ysk (b8 (B i)) (b8 (bt B sz (i + 1)))) := by
              rw [K]
              by_cases z : prd B sz i
              · rw [if_pos (pe ▸ z), kpe] at kr
                rw [if_pos z]; exact kr
              · rw [if_neg (pe ▸ z), kse] at kr
                rw [if_neg z]; exact kr
            exact ih _ (m + 1) _ _ _ _ _ _ _ (by omega) (by omega) nxt (by omega) tokM_10 (tokM_YF hF) (tokM_TKS hT bgm (by rw [hbi]; exact kr') (by rw [hbi]) (by
                rw [hbi, K]
                intro z
                exfalso
                by_cases y : prd B sz i
                · rw [if_pos y] at z
                  have := kp_v (B i)
                  omega
                · rw [if_neg y] at z
                  unfold ks at z
                  revert z
                  (repeat' split) <;> omega)) n3 n5
theorem y_cut {d : Nat} {M : mM} {Q : mV → mM → Prop} {B : Nat → Int} {sz : Nat} (h : SH M) (hx : TX B sz M) (hb : B8 B sz) (h2 : sz ≤ 2000) (hy : KY M)
    (hQ : ∀ N m, YF cutS M N → TKS B sz N m → m ≤ 401 → (m ≤ 400 → bg B sz m = sz ∧ gi N 38 m = 0 ∧ gi N 39 m = sz) → Q vj N) : CP (mc (d + 3)) 132 [vr (some 35)] M Q := by
  simp only [↓cpX12_cut, ↓eX12_cut_0, ↓eX12_cut_1, ↓eX12_cut_2, ↓eX12_cut_5, ↓eX12_cut_6, hk35 h, Int.cast_ofNat_Int, kd_si, gr_si, ln_si, gi_same, gi_na, gi_ni, nl_i, nl_r, nl_j, nj_i, nj_l, nj_r, true_and, and_true, and_self, cs_0, cs_1, cs_2, cs_3, cs_4, ↓reduceIte, Nat.reduceLeDiff, Nat.reduceEqDiff, Nat.reduceAdd, Int.reduceLE, Int.reduceLT, Int.reduceEq, Int.reduceAdd, Int.reduceNeg, Int.reduceToNat, Int.toNat_natCast, ne_eq, not_false_eq_true, not_true_eq_false, or_true, true_or, or_false, false_or]
  have y0 : YF cutS M (si M 35 10 0) := YF_si (Or.inr ⟨rfl, rfl⟩) YF_refl
  exact y_cut_loop h hx hb h2 hy hQ sz 0 0 vj vj vj vj vj vj _ (by omega) (Nat.zero_le _) rfl (by omega) (gi_same _ _ _ _) y0 (fun k hk => absurd hk (Nat.not_lt_zero k)) nlJ nlJ
