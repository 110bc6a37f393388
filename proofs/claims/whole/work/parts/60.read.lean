/-! ===== the reference reads a text ===== -/
set_option maxRecDepth 100000 in
theorem wb_id_ : ∀ n : Fin 256, wb ((n.val : Int) - 128) = (n.val : Int) - 128 := by decide +kernel
theorem wb_id {x : Int} (h1 : -128 ≤ x) (h2 : x ≤ 127) : wb x = x := by
  have := wb_id_ ⟨(x + 128).toNat, by omega⟩
  have e : (((x + 128).toNat : Nat) : Int) - 128 = x := by omega
  simp only [e] at this
  exact this
section RD
variable {d : Nat} {Q : mV → mM → Prop} {B : Nat → Int} {sz sd : Nat} {T : mM}
theorem y_copy {C : mC} {M : mM} (h : SH M) (h4 : gi M 35 4 = sz) (h2 : sz ≤ 2000) (hB : ∀ i, i < sz → gi M 36 i = B i) (hb : B8 B sz) : ∀ r i : Nat, i + r = sz → WP C tX12_read 10 [vr (some 35), vi i] [] (rwM M 37 0 i B) Q = WP C tX12_read 36 [vr (some 35), vi sz] [] (rwM M 37 0 sz B) Q := by
  intro r
  induction r with
  | zero =>
    intro i hi
    have e : i = sz := by omega
    subst e
    have hR : SH (rwM M 37 0 i B) := h
    have g4 : gi (rwM M 37 0 i B) 35 4 = i := by rw [gi_rwn (by decide)]; exact h4
    rw [eX12_read_10]
    simp only [↓eX12_read_11, ↓eX12_read_12, ↓eX12_read_15, hk35 hR, g4, Int.le_refl, Int.cast_ofNat_Int, kd_si, gr_si, ln_si, gi_same, gi_na, gi_ni, nl_i, nl_r, nl_j, nj_i, nj_l, nj_r, true_and, and_true, and_self, cs_0, cs_1, cs_2, cs_3, cs_4, ↓reduceIte, Nat.reduceLeDiff, Nat.reduceEqDiff, Nat.reduceAdd, Int.reduceLE, Int.reduceLT, Int.reduceEq, Int.reduceAdd, Int.reduceNeg, Int.reduceToNat, Int.toNat_natCast, ne_eq, not_false_eq_true, not_true_eq_false, or_true, true_or, or_false, false_or]
  | succ r ih =>
    intro i hi
    have hR : SH (rwM M 37 0 i B) := h
    have g4 : gi (rwM M 37 0 i B) 35 4 = sz := by rw [gi_rwn (by decide)]; exact h4
    have g36 : gi (rwM M 37 0 i B) 36 i = B i := by rw [gi_rwn (by decide)]; exact hB i (by omega)
    have e : ((sz : Int) ≤ (i : Int)) = False := eq_false (by omega)
    have e2 : wr ((i : Int) + 1) = ((i + 1 : Nat) : Int) := by rw [wr_id (by omega) (by omega)]; omega
    have i0 : (0 ≤ (i : Int)) = True := eq_true (by omega)
    have i1 : ((i : Int) < 2000) = True := eq_true (by omega)
    have wbi := wb_id (hb i (by omega)).1 (hb i (by omega)).2
    have st := rwM_si (N := M) (a := 37) (lo := 0) (t := i) (f := B) rfl
    rw [Nat.zero_add] at st
    rw [eX12_read_10]
    simp only [↓eX12_read_11, ↓eX12_read_12, ↓eX12_read_15, ↓eX12_read_18, ↓eX12_read_19, ↓eX12_read_22, ↓eX12_read_23, ↓eX12_read_24, ↓eX12_read_27, ↓eX12_read_28, ↓eX12_read_29, ↓eX12_read_30, ↓eX12_read_33, hk35 hR, hr35_1 hR, hr35_3 hR, hk36 hR, hl36 hR, hk37 hR, hl37 hR, g4, g36, e, e2, i0, i1, wbi, Int.cast_ofNat_Int, kd_si, gr_si, ln_si, gi_same, gi_na, gi_ni, nl_i, nl_r, nl_j, nj_i, nj_l, nj_r, true_and, and_true, and_self, cs_0, cs_1, cs_2, cs_3, cs_4, ↓reduceIte, Nat.reduceLeDiff, Nat.reduceEqDiff, Nat.reduceAdd, Int.reduceLE, Int.reduceLT, Int.reduceEq, Int.reduceAdd, Int.reduceNeg, Int.reduceToNat, Int.toNat_natCast, ne_eq, not_false_eq_true, not_true_eq_false, or_true, true_or, or_false, false_or]
    rw [st]
    exact ih (i + 1) (by omega)
theorem y_rd_loop {N0 : mM} (hT : TKB B sz T) (hsd : sd ≤ 1) (h0 : SH N0) (h38 : ∀ a i, 38 ≤ a → a ≤ 40 → gi N0 a i = gi T a i) (a1 : mV)
    (hQ1 : ∀ k P, ok B sz k → bg B sz k = sz → (sg B sz k).1 = 0 → RT sd k P (sg B sz k) → YF (rmS sd) N0 P → WP (mc (d + 6)) tX12_read 142 [vr (some 35), a1] [] P Q) (hQ2 : ∀ k P, FL B sz k P → YF (rmS sd) N0 P → WP (mc (d + 6)) tX12_read 142 [vr (some 35), a1] [] P Q) :
    ∀ f k N, 401 - k ≤ f → ok B sz k → (sg B sz k).1 = 0 → RT sd k N (sg B sz k) → YF (rmS sd) N0 N → WP (mc (d + 6)) tX12_read 120 [vr (some 35), a1] [] N Q := by
  intro f
  induction f with
  | zero =>
    intro k N hf hk
    have := ok_400 hk
    omega
  | succ f ih =>
    intro k N hf hk hs0 hR yN
    have hN := YF_SH yN h0
    have k4 := ok_400 hk
    have g11 : gi N 35 11 = k ∧ gi N 35 13 = 0 := by
      generalize sg B sz k = s at hR
      obtain ⟨st, dp, cm, am, wp, nt, R, me, mt, bs, A, O, ck, L, w, V⟩ := s
      exact ⟨hR.1, hR.2.1⟩
    obtain ⟨g11, g13⟩ := g11
    have fis := fun (Q : mV → mM → Prop) (c : Int) => y_is (d := d + 5) (N := N) (Q := Q) (c := c) hN g11 k4
    have g38 : gi N 38 k = gi T 38 k := by rw [yN.2 38 k (by unfold rmS; omega)]; exact h38 38 k (by decide) (by decide)
    obtain ⟨mk, hmk⟩ : ∃ mk, gi N 38 k = mk := ⟨_, rfl⟩
    rw [eX12_read_120]
    rcases tokL hT hk with ⟨b1, b2, -, -⟩ | ⟨b1, b2, -⟩
    · rw [← g38, hmk] at b2
      have m0 : (mk = 0) = False := eq_false (KR_0 b2).1
      have te := y_tellRule (d := d) (Q := fun v P => v = vj ∧ WP (mc (d + 6)) tX12_read 139 [vr (some 35), a1] [] P Q) (N := N) hT hsd hN (fun a i h1 h2 => by rw [yN.2 a i (by unfold rmS; omega)]; exact h38 a i h1 h2) hk b1 hs0 hR
        (fun k' P hkk ok' s0' hR' yP => ⟨rfl, by
          simp only [↓eX12_read_139, Int.cast_ofNat_Int, kd_si, gr_si, ln_si, gi_same, gi_na, gi_ni, nl_i, nl_r, nl_j, nj_i, nj_l, nj_r, true_and, and_true, and_self, cs_0, cs_1, cs_2, cs_3, cs_4, ↓reduceIte, Nat.reduceLeDiff, Nat.reduceEqDiff, Nat.reduceAdd, Int.reduceLE, Int.reduceLT, Int.reduceEq, Int.reduceAdd, Int.reduceNeg, Int.reduceToNat, Int.toNat_natCast, ne_eq, not_false_eq_true, not_true_eq_false, or_true, true_or, or_false, false_or]
          exact ih k' P (by omega) ok' s0' hR' (YF_trans yN yP)⟩)
        (fun k' P fl yP => ⟨rfl, by
          have hP := YF_SH yP hN
          have f0 : (gi P 35 13 = 0) = False := eq_false (by rw [fl.2.1]; have := fl.2.2.1; omega)
          simp only [↓eX12_read_139, Int.cast_ofNat_Int, kd_si, gr_si, ln_si, gi_same, gi_na, gi_ni, nl_i, nl_r, nl_j, nj_i, nj_l, nj_r, true_and, and_true, and_self, cs_0, cs_1, cs_2, cs_3, cs_4, ↓reduceIte, Nat.reduceLeDiff, Nat.reduceEqDiff, Nat.reduceAdd, Int.reduceLE, Int.reduceLT, Int.reduceEq, Int.reduceAdd, Int.reduceNeg, Int.reduceToNat, Int.toNat_natCast, ne_eq, not_false_eq_true, not_true_eq_false, or_true, true_or, or_false, false_or]
          rw [eX12_read_120]
          simp only [↓eX12_read_121, ↓eX12_read_124, hk35 hP, f0, Int.cast_ofNat_Int, kd_si, gr_si, ln_si, gi_same, gi_na, gi_ni, nl_i, nl_r, nl_j, nj_i, nj_l, nj_r, true_and, and_true, and_self, cs_0, cs_1, cs_2, cs_3, cs_4, ↓reduceIte, Nat.reduceLeDiff, Nat.reduceEqDiff, Nat.reduceAdd, Int.reduceLE, Int.reduceLT, Int.reduceEq, Int.reduceAdd, Int.reduceNeg, Int.reduceToNat, Int.toNat_natCast, ne_eq, not_false_eq_true, not_true_eq_false, or_true, true_or, or_false, false_or]
          exact hQ2 k' P fl (YF_trans yN yP)⟩)
      simp only [↓eX12_read_121, ↓eX12_read_124, ↓eX12_read_127, ↓eX12_read_128, ↓eX12_read_129, ↓eX12_read_132, ↓eX12_read_135, ↓eX12_read_136, hk35 hN, ↓fis, g13, hmk, m0, and_false, Int.cast_ofNat_Int, kd_si, gr_si, ln_si, gi_same, gi_na, gi_ni, nl_i, nl_r, nl_j, nj_i, nj_l, nj_r, true_and, and_true, and_self, cs_0, cs_1, cs_2, cs_3, cs_4, ↓reduceIte, Nat.reduceLeDiff, Nat.reduceEqDiff, Nat.reduceAdd, Int.reduceLE, Int.reduceLT, Int.reduceEq, Int.reduceAdd, Int.reduceNeg, Int.reduceToNat, Int.toNat_natCast, ne_eq, not_false_eq_true, not_true_eq_false, or_true, true_or, or_false, false_or]
      exact te
    · rw [← g38, hmk] at b2
      simp only [↓eX12_read_121, ↓eX12_read_124, ↓eX12_read_127, ↓eX12_read_128, ↓eX12_read_129, ↓eX12_read_132, ↓eX12_read_135, ↓eX12_read_136, hk35 hN, ↓fis, g13, hmk, b2, Int.cast_ofNat_Int, kd_si, gr_si, ln_si, gi_same, gi_na, gi_ni, nl_i, nl_r, nl_j, nj_i, nj_l, nj_r, true_and, and_true, and_self, cs_0, cs_1, cs_2, cs_3, cs_4, ↓reduceIte, Nat.reduceLeDiff, Nat.reduceEqDiff, Nat.reduceAdd, Int.reduceLE, Int.reduceLT, Int.reduceEq, Int.reduceAdd, Int.reduceNeg, Int.reduceToNat, Int.toNat_natCast, ne_eq, not_false_eq_true, not_true_eq_false, or_true, true_or, or_false, false_or]
      exact hQ1 k N hk b1 hs0 hR yN
def rdM (sd a i : Nat) : Prop := rmS sd a i ∨ cutS a i ∨ a = 37 ∨ (a = 35 ∧ (i = 2 ∨ i = 4 ∨ (17 ≤ i ∧ i ≤ 19)))
/-- read of the reference -/
theorem y_read {M : mM} (h : SH M) (hz : gi M 35 2 = sz) (h2 : sz ≤ 2000) (hB : ∀ i, i < sz → gi M 36 i = B i) (hb : B8 B sz) (hy : KY M) (hl : gi M 35 18 = (1 - sd : Nat)) (hsd : sd ≤ 1)
    (hQ : ∀ N k, fin B sz k → YF (rdM sd) M N → gi N 35 2 = 0 → gi N 35 17 = rsP B sz k → (rsF B sz k = 0 → gi N 35 18 = sd ∧ gi N 43 sd = (sgR (sg B sz k) : Nat) ∧ ∃ c, c ≤ 400 ∧ MRU N sd (sgR (sg B sz k)) (sgM (sg B sz k)) (sgA (sg B sz k)) c ∧ fr N sd (sgR (sg B sz k)) ≤ 400) → (rsF B sz k ≠ 0 → gi N 35 18 = (1 - sd : Nat)) → Q (vi (rsF B sz k)) N) : CP (mc (d + 7)) 139 [vr (some 35)] M Q := by
  have h1 : SH (si M 35 4 (sz : Nat)) := h
  have cp := y_copy (C := mc (d + 6)) (Q := Q) (B := B) (M := si M 35 4 (sz : Nat)) (sz := sz) h1 (gi_same _ _ _ _) h2 (fun i hi => by rw [gi_na (by decide)]; exact hB i hi) hb sz 0 (by omega)
  rw [rwM_0] at cp
  have cp' : WP (mc (d + 6)) tX12_read 10 [vr (some 35), vi 0] [] (si M 35 4 (sz : Nat)) Q = _ := cp
  simp only [↓cpX12_read, ↓eX12_read_0, ↓eX12_read_1, ↓eX12_read_2, ↓eX12_read_5, ↓eX12_read_8, ↓eX12_read_9, hk35 h, hz, Int.cast_ofNat_Int, kd_si, gr_si, ln_si, gi_same, gi_na, gi_ni, nl_i, nl_r, nl_j, nj_i, nj_l, nj_r, true_and, and_true, and_self, cs_0, cs_1, cs_2, cs_3, cs_4, ↓reduceIte, Nat.reduceLeDiff, Nat.reduceEqDiff, Nat.reduceAdd, Int.reduceLE, Int.reduceLT, Int.reduceEq, Int.reduceAdd, Int.reduceNeg, Int.reduceToNat, Int.toNat_natCast, ne_eq, not_false_eq_true, not_true_eq_false, or_true, true_or, or_false, false_or]
  rw [cp']
  obtain ⟨M1, hM1⟩ : ∃ M1, M1 = si (rwM (si M 35 4 (sz : Nat)) 37 0 sz B) 35 2 0 := ⟨_, rfl⟩
  have s1 : SH M1 := by rw [hM1]; exact h
  have r35 : ∀ i, rdM sd 35 i → True := fun _ _ => trivial
  have q35 : ∀ i, i = 2 ∨ i = 4 ∨ (17 ≤ i ∧ i ≤ 19) → rdM sd 35 i := fun i hi => Or.inr (Or.inr (Or.inr ⟨rfl, hi⟩))
  have p35 : ∀ i, (11 ≤ i ∧ i ≤ 16) ∨ i = 29 ∨ i = 33 → rdM sd 35 i := fun i hi => Or.inl (Or.inl ⟨rfl, hi⟩)
  have y1 : YF (rdM sd) M M1 := by
    rw [hM1]
    refine YF_si (q35 2 (by decide)) ?_
    refine ⟨rfl, fun a i hn => ?_⟩
    rw [gi_rwn (fun w => hn (Or.inr (Or.inr (Or.inl w)))), gi_si, if_neg (fun w => hn (by rw [w.1, w.2]; exact q35 4 (by decide)))]
  have x1 : TX B sz M1 := ⟨by rw [hM1, gi_ni (by decide), gi_rwn (by decide), gi_same], fun i hi => by
    rw [hM1, gi_na (by decide)]
    have := gi_rwi (N := si M 35 4 (sz : Nat)) (a := 37) (lo := 0) (t := sz) (f := B) hi
    rw [Nat.zero_add] at this
    exact this⟩
  have ky1 : KY M1 := fun k hk => by rw [y1.2 42 k (by unfold rdM rmS cutS; omega)]; exact hy k hk
  have cu := y_cut (d := d + 3) (M := M1) (Q := fun v R => v = vj ∧ WP (mc (d + 6)) tX12_read 45 [vr (some 35), vi sz] [] R Q) s1 x1 hb h2 ky1 (fun T m yT tT m4 mE => ⟨rfl, by
    have hT : SH T := YF_SH yT s1
    have tb : TKB B sz T := ⟨m, tT, m4, mE⟩
    have yT' : YF (rdM sd) M T := YF_trans y1 (YF_mono (fun a i z => Or.inr (Or.inl z)) yT)
    have l18 : gi T 35 18 = (1 - sd : Nat) := by rw [yT.2 35 18 (by unfold cutS; omega), hM1, gi_ni (by decide), gi_rwn (by decide), gi_ni (by decide)]; exact hl
    have wsd : wr (1 - ((1 - sd : Nat) : Int)) = (sd : Int) := by rw [wr_id (by omega) (by omega)]; omega
    have sd0 : (0 ≤ (sd : Int)) = True := eq_true (by omega)
    have sd1 : ((sd : Int) < 2) = True := eq_true (by omega)
    have w5 : wr (500 * (sd : Int)) = ((500 * sd : Nat) : Int) := by rw [wr_id (by omega) (by omega)]; omega
    have w21 : wr (21 * (sd : Int)) = ((21 * sd : Nat) : Int) := by rw [wr_id (by omega) (by omega)]; omega
    have f0 : (0 ≤ ((21 * sd : Nat) : Int)) = True := eq_true (by omega)
    have f1 : (((21 * sd : Nat) : Int) < 42) = True := eq_true (by omega)
    simp only [↓eX12_read_45, ↓eX12_read_46, ↓eX12_read_47, ↓eX12_read_50, ↓eX12_read_51, ↓eX12_read_52, ↓eX12_read_55, ↓eX12_read_56, ↓eX12_read_57, ↓eX12_read_60, ↓eX12_read_61, ↓eX12_read_62, ↓eX12_read_65, ↓eX12_read_66, ↓eX12_read_67, ↓eX12_read_68, ↓eX12_read_71, ↓eX12_read_72, ↓eX12_read_75, ↓eX12_read_76, ↓eX12_read_79, ↓eX12_read_80, ↓eX12_read_83, ↓eX12_read_84, ↓eX12_read_85, ↓eX12_read_86, ↓eX12_read_89, ↓eX12_read_90, ↓eX12_read_93, ↓eX12_read_94, ↓eX12_read_95, ↓eX12_read_96, ↓eX12_read_99, ↓eX12_read_100, ↓eX12_read_103, ↓eX12_read_104, ↓eX12_read_107, ↓eX12_read_108, ↓eX12_read_111, ↓eX12_read_113, ↓eX12_read_114, ↓eX12_read_117, ↓eX12_read_118, ↓eX12_read_119, hk35 hT, hr35_20 hT, hr35_22 hT, hr35_23 hT, hk43 hT, hl43 hT, hk45 hT, hl45 hT, hk46 hT, hl46 hT, l18, wsd, sd0, sd1, w5, w21, f0, f1, Int.cast_ofNat_Int, kd_si, gr_si, ln_si, gi_same, gi_na, gi_ni, nl_i, nl_r, nl_j, nj_i, nj_l, nj_r, true_and, and_true, and_self, cs_0, cs_1, cs_2, cs_3, cs_4, ↓reduceIte, Nat.reduceLeDiff, Nat.reduceEqDiff, Nat.reduceAdd, Int.reduceLE, Int.reduceLT, Int.reduceEq, Int.reduceAdd, Int.reduceNeg, Int.reduceToNat, Int.toNat_natCast, ne_eq, not_false_eq_true, not_true_eq_false, or_true, true_or, or_false, false_or]
    obtain ⟨N, hN⟩ : ∃ N, N = si (si (si (si (si (si (si (si (si T 35 11 0) 35 12 0) 35 13 0) 35 15 0) 35 19 (sd : Nat)) 43 sd 0) 46 sd 0) 35 29 (500 * sd : Nat)) 45 (21 * sd) 0 := ⟨_, rfl⟩
    rw [← hN]
    have sN : SH N := by rw [hN]; exact hT
    have yTN : ∀ a i, 38 ≤ a → a ≤ 40 → gi N a i = gi T a i := fun a i ha hb => by
      rw [hN, gi_na (by omega), gi_na (by omega), gi_na (by omega), gi_na (by omega), gi_na (by omega), gi_na (by omega), gi_na (by omega), gi_na (by omega), gi_na (by omega)]
    have yN : YF (rdM sd) M N := by
      rw [hN]
      exact YF_si (Or.inl (Or.inr (Or.inr (Or.inr (Or.inl ⟨rfl, by omega, by omega⟩))))) (YF_si (p35 29 (by decide)) (YF_si (Or.inl (Or.inr (Or.inr (Or.inr (Or.inr (Or.inl ⟨rfl, rfl⟩)))))) (YF_si (Or.inl (Or.inr (Or.inl ⟨rfl, rfl⟩))) (YF_si (q35 19 (by decide)) (YF_si (p35 15 (by decide)) (YF_si (p35 13 (by decide)) (YF_si (p35 12 (by decide)) (YF_si (p35 11 (by decide)) yT'))))))))
    have N2 : gi N 35 2 = 0 := by rw [hN]; simp only [Int.cast_ofNat_Int, kd_si, gr_si, ln_si, gi_same, gi_na, gi_ni, nl_i, nl_r, nl_j, nj_i, nj_l, nj_r, true_and, and_true, and_self, cs_0, cs_1, cs_2, cs_3, cs_4, ↓reduceIte, Nat.reduceLeDiff, Nat.reduceEqDiff, Nat.reduceAdd, Int.reduceLE, Int.reduceLT, Int.reduceEq, Int.reduceAdd, Int.reduceNeg, Int.reduceToNat, Int.toNat_natCast, ne_eq, not_false_eq_true, not_true_eq_false, or_true, true_or, or_false, false_or]; rw [yT.2 35 2 (by unfold cutS; omega), hM1, gi_same]
    have N18 : gi N 35 18 = (1 - sd : Nat) := by rw [hN]; simp only [Int.cast_ofNat_Int, kd_si, gr_si, ln_si, gi_same, gi_na, gi_ni, nl_i, nl_r, nl_j, nj_i, nj_l, nj_r, true_and, and_true, and_self, cs_0, cs_1, cs_2, cs_3, cs_4, ↓reduceIte, Nat.reduceLeDiff, Nat.reduceEqDiff, Nat.reduceAdd, Int.reduceLE, Int.reduceLT, Int.reduceEq, Int.reduceAdd, Int.reduceNeg, Int.reduceToNat, Int.toNat_natCast, ne_eq, not_false_eq_true, not_true_eq_false, or_true, true_or, or_false, false_or]; exact l18
    have hRT : RT sd 0 N (sg B sz 0) := by
      refine ⟨by rw [hN]; first | (simp only [Int.cast_ofNat_Int, kd_si, gr_si, ln_si, gi_same, gi_na, gi_ni, nl_i, nl_r, nl_j, nj_i, nj_l, nj_r, true_and, and_true, and_self, cs_0, cs_1, cs_2, cs_3, cs_4, ↓reduceIte, Nat.reduceLeDiff, Nat.reduceEqDiff, Nat.reduceAdd, Int.reduceLE, Int.reduceLT, Int.reduceEq, Int.reduceAdd, Int.reduceNeg, Int.reduceToNat, Int.toNat_natCast, ne_eq, not_false_eq_true, not_true_eq_false, or_true, true_or, or_false, false_or]; done) | (simp only [Int.cast_ofNat_Int, kd_si, gr_si, ln_si, gi_same, gi_na, gi_ni, nl_i, nl_r, nl_j, nj_i, nj_l, nj_r, true_and, and_true, and_self, cs_0, cs_1, cs_2, cs_3, cs_4, ↓reduceIte, Nat.reduceLeDiff, Nat.reduceEqDiff, Nat.reduceAdd, Int.reduceLE, Int.reduceLT, Int.reduceEq, Int.reduceAdd, Int.reduceNeg, Int.reduceToNat, Int.toNat_natCast, ne_eq, not_false_eq_true, not_true_eq_false, or_true, true_or, or_false, false_or]; rfl), by rw [hN]; simp only [Int.cast_ofNat_Int, kd_si, gr_si, ln_si, gi_same, gi_na, gi_ni, nl_i, nl_r, nl_j, nj_i, nj_l, nj_r, true_and, and_true, and_self, cs_0, cs_1, cs_2, cs_3, cs_4, ↓reduceIte, Nat.reduceLeDiff, Nat.reduceEqDiff, Nat.reduceAdd, Int.reduceLE, Int.reduceLT, Int.reduceEq, Int.reduceAdd, Int.reduceNeg, Int.reduceToNat, Int.toNat_natCast, ne_eq, not_false_eq_true, not_true_eq_false, or_true, true_or, or_false, false_or], by rw [hN]; simp only [Int.cast_ofNat_Int, kd_si, gr_si, ln_si, gi_same, gi_na, gi_ni, nl_i, nl_r, nl_j, nj_i, nj_l, nj_r, true_and, and_true, and_self, cs_0, cs_1, cs_2, cs_3, cs_4, ↓reduceIte, Nat.reduceLeDiff, Nat.reduceEqDiff, Nat.reduceAdd, Int.reduceLE, Int.reduceLT, Int.reduceEq, Int.reduceAdd, Int.reduceNeg, Int.reduceToNat, Int.toNat_natCast, ne_eq, not_false_eq_true, not_true_eq_false, or_true, true_or, or_false, false_or], by rw [hN]; simp only [Int.cast_ofNat_Int, kd_si, gr_si, ln_si, gi_same, gi_na, gi_ni, nl_i, nl_r, nl_j, nj_i, nj_l, nj_r, true_and, and_true, and_self, cs_0, cs_1, cs_2, cs_3, cs_4, ↓reduceIte, Nat.reduceLeDiff, Nat.reduceEqDiff, Nat.reduceAdd, Int.reduceLE, Int.reduceLT, Int.reduceEq, Int.reduceAdd, Int.reduceNeg, Int.reduceToNat, Int.toNat_natCast, ne_eq, not_false_eq_true, not_true_eq_false, or_true, true_or, or_false, false_or], by rw [hN]; first | (simp only [Int.cast_ofNat_Int, kd_si, gr_si, ln_si, gi_same, gi_na, gi_ni, nl_i, nl_r, nl_j, nj_i, nj_l, nj_r, true_and, and_true, and_self, cs_0, cs_1, cs_2, cs_3, cs_4, ↓reduceIte, Nat.reduceLeDiff, Nat.reduceEqDiff, Nat.reduceAdd, Int.reduceLE, Int.reduceLT, Int.reduceEq, Int.reduceAdd, Int.reduceNeg, Int.reduceToNat, Int.toNat_natCast, ne_eq, not_false_eq_true, not_true_eq_false, or_true, true_or, or_false, false_or]; done) | (simp only [Int.cast_ofNat_Int, kd_si, gr_si, ln_si, gi_same, gi_na, gi_ni, nl_i, nl_r, nl_j, nj_i, nj_l, nj_r, true_and, and_true, and_self, cs_0, cs_1, cs_2, cs_3, cs_4, ↓reduceIte, Nat.reduceLeDiff, Nat.reduceEqDiff, Nat.reduceAdd, Int.reduceLE, Int.reduceLT, Int.reduceEq, Int.reduceAdd, Int.reduceNeg, Int.reduceToNat, Int.toNat_natCast, ne_eq, not_false_eq_true, not_true_eq_false, or_true, true_or, or_false, false_or]; rfl), Or.inl ⟨rfl, by rw [hN]; simp only [Int.cast_ofNat_Int, kd_si, gr_si, ln_si, gi_same, gi_na, gi_ni, nl_i, nl_r, nl_j, nj_i, nj_l, nj_r, true_and, and_true, and_self, cs_0, cs_1, cs_2, cs_3, cs_4, ↓reduceIte, Nat.reduceLeDiff, Nat.reduceEqDiff, Nat.reduceAdd, Int.reduceLE, Int.reduceLT, Int.reduceEq, Int.reduceAdd, Int.reduceNeg, Int.reduceToNat, Int.toNat_natCast, ne_eq, not_false_eq_true, not_true_eq_false, or_true, true_or, or_false, false_or]⟩, 0, 0, by rw [hN]; first | (simp only [Int.cast_ofNat_Int, kd_si, gr_si, ln_si, gi_same, gi_na, gi_ni, nl_i, nl_r, nl_j, nj_i, nj_l, nj_r, true_and, and_true, and_self, cs_0, cs_1, cs_2, cs_3, cs_4, ↓reduceIte, Nat.reduceLeDiff, Nat.reduceEqDiff, Nat.reduceAdd, Int.reduceLE, Int.reduceLT, Int.reduceEq, Int.reduceAdd, Int.reduceNeg, Int.reduceToNat, Int.toNat_natCast, ne_eq, not_false_eq_true, not_true_eq_false, or_true, true_or, or_false, false_or]; done) | (simp only [Int.cast_ofNat_Int, kd_si, gr_si, ln_si, gi_same, gi_na, gi_ni, nl_i, nl_r, nl_j, nj_i, nj_l, nj_r, true_and, and_true, and_self, cs_0, cs_1, cs_2, cs_3, cs_4, ↓reduceIte, Nat.reduceLeDiff, Nat.reduceEqDiff, Nat.reduceAdd, Int.reduceLE, Int.reduceLT, Int.reduceEq, Int.reduceAdd, Int.reduceNeg, Int.reduceToNat, Int.toNat_natCast, ne_eq, not_false_eq_true, not_true_eq_false, or_true, true_or, or_false, false_or]; rfl), Nat.le_refl _, by rw [hN]; first | (simp only [Int.cast_ofNat_Int, kd_si, gr_si, ln_si, gi_same, gi_na, gi_ni, nl_i, nl_r, nl_j, nj_i, nj_l, nj_r, true_and, and_true, and_self, cs_0, cs_1, cs_2, cs_3, cs_4, ↓reduceIte, Nat.reduceLeDiff, Nat.reduceEqDiff, Nat.reduceAdd, Int.reduceLE, Int.reduceLT, Int.reduceEq, Int.reduceAdd, Int.reduceNeg, Int.reduceToNat, Int.toNat_natCast, ne_eq, not_false_eq_true, not_true_eq_false, or_true, true_or, or_false, false_or]; done) | (simp only [Int.cast_ofNat_Int, kd_si, gr_si, ln_si, gi_same, gi_na, gi_ni, nl_i, nl_r, nl_j, nj_i, nj_l, nj_r, true_and, and_true, and_self, cs_0, cs_1, cs_2, cs_3, cs_4, ↓reduceIte, Nat.reduceLeDiff, Nat.reduceEqDiff, Nat.reduceAdd, Int.reduceLE, Int.reduceLT, Int.reduceEq, Int.reduceAdd, Int.reduceNeg, Int.reduceToNat, Int.toNat_natCast, ne_eq, not_false_eq_true, not_true_eq_false, or_true, true_or, or_false, false_or]; rfl), Nat.le_refl _, ?_, fun r hr => ?_, fun r hr => absurd hr (Nat.not_lt_zero r)⟩
      · unfold fr; rw [hN, Nat.add_zero, gi_same]; rfl
      · have : r = 0 := by omega
        rw [this, hN, Nat.add_zero, gi_same]; exact Int.le_refl 0
    refine y_rd_loop (d := d) (N0 := N) tb hsd sN yTN (vi sz) (fun k P hk hbg s0 hR yP => ?_) (fun k P fl yP => ?_) 401 0 N (by omega) (fun j hj => absurd hj (Nat.not_lt_zero j)) rfl hRT YF_refl
    · have hP := YF_SH yP sN
      have k4 := ok_400 hk
      have yP' : YF (rdM sd) M P := YF_trans yN (YF_mono (fun a i z => Or.inl z) yP)
      have P2 : gi P 35 2 = 0 := by rw [yP.2 35 2 (by unfold rmS; omega)]; exact N2
      have P18 : gi P 35 18 = (1 - sd : Nat) := by rw [yP.2 35 18 (by unfold rmS; omega)]; exact N18
      have hf : fin B sz k := ⟨hk, Or.inl hbg⟩
      have rf : rsF B sz k = if sgW (sg B sz k) ≠ -1 then 5 else 0 := by unfold rsF; rw [if_neg (by omega), if_neg (fun w => w s0)]
      have rp : rsP B sz k = sgW (sg B sz k) := by unfold rsP; rw [if_neg (by omega), if_neg (fun w => w s0)]
      have hq := fun N => hQ N k hf
      rw [rf, rp] at hq
      clear hQ
      generalize sg B sz k = s at *
      obtain ⟨st, dp, cm, am, wp, nt, R, me, mt, bs, A, O, ck, L, w, V⟩ := s
      obtain ⟨t11, t13, t12, t19, t43, tw, c, n, t29, hc, t46, hn, hfr, hM⟩ := hR
      have hq' : ∀ N, YF (rdM sd) M N → gi N 35 2 = 0 → gi N 35 17 = wp → ((if wp ≠ -1 then (5 : Int) else 0) = 0 → gi N 35 18 = sd ∧ gi N 43 sd = (R : Nat) ∧ ∃ c, c ≤ 400 ∧ MRU N sd R me mt c ∧ fr N sd R ≤ 400) → ((if wp ≠ -1 then (5 : Int) else 0) ≠ 0 → gi N 35 18 = (1 - sd : Nat)) → Q (vi (if wp ≠ -1 then 5 else 0)) N := fun N => hq N
      clear hq
      rcases tw with ⟨w1, w2⟩ | ⟨w1, w2, w3⟩
      · have e0 : (if wp ≠ -1 then (5 : Int) else 0) = 0 := if_neg (fun w => w w1)
        rw [e0] at hq'
        simp only [↓eX12_read_142, ↓eX12_read_143, ↓eX12_read_144, ↓eX12_read_147, ↓eX12_read_150, ↓eX12_read_151, ↓eX12_read_154, ↓eX12_read_157, ↓eX12_read_158, ↓eX12_read_161, ↓eX12_read_164, ↓eX12_read_165, ↓eX12_read_168, ↓eX12_read_171, ↓eX12_read_172, ↓eX12_read_175, ↓eX12_read_176, ↓eX12_read_179, ↓eX12_read_182, ↓eX12_read_183, ↓eX12_read_186, ↓eX12_read_187, ↓eX12_read_188, ↓eX12_read_191, ↓eX12_read_194, ↓eX12_read_195, ↓eX12_read_198, ↓eX12_read_199, ↓eX12_read_200, ↓eX12_read_201, ↓eX12_read_204, ↓eX12_read_207, ↓eX12_read_208, hk35 hP, t13, t19, w2, Int.le_refl, Int.cast_ofNat_Int, kd_si, gr_si, ln_si, gi_same, gi_na, gi_ni, nl_i, nl_r, nl_j, nj_i, nj_l, nj_r, true_and, and_true, and_self, cs_0, cs_1, cs_2, cs_3, cs_4, ↓reduceIte, Nat.reduceLeDiff, Nat.reduceEqDiff, Nat.reduceAdd, Int.reduceLE, Int.reduceLT, Int.reduceEq, Int.reduceAdd, Int.reduceNeg, Int.reduceToNat, Int.toNat_natCast, ne_eq, not_false_eq_true, not_true_eq_false, or_true, true_or, or_false, false_or]
        refine hq' _ (YF_si (q35 18 (by decide)) (YF_si (q35 17 (by decide)) yP')) (by simp only [Int.cast_ofNat_Int, kd_si, gr_si, ln_si, gi_same, gi_na, gi_ni, nl_i, nl_r, nl_j, nj_i, nj_l, nj_r, true_and, and_true, and_self, cs_0, cs_1, cs_2, cs_3, cs_4, ↓reduceIte, Nat.reduceLeDiff, Nat.reduceEqDiff, Nat.reduceAdd, Int.reduceLE, Int.reduceLT, Int.reduceEq, Int.reduceAdd, Int.reduceNeg, Int.reduceToNat, Int.toNat_natCast, ne_eq, not_false_eq_true, not_true_eq_false, or_true, true_or, or_false, false_or]; exact P2) (by simp only [Int.cast_ofNat_Int, kd_si, gr_si, ln_si, gi_same, gi_na, gi_ni, nl_i, nl_r, nl_j, nj_i, nj_l, nj_r, true_and, and_true, and_self, cs_0, cs_1, cs_2, cs_3, cs_4, ↓reduceIte, Nat.reduceLeDiff, Nat.reduceEqDiff, Nat.reduceAdd, Int.reduceLE, Int.reduceLT, Int.reduceEq, Int.reduceAdd, Int.reduceNeg, Int.reduceToNat, Int.toNat_natCast, ne_eq, not_false_eq_true, not_true_eq_false, or_true, true_or, or_false, false_or]; exact w1.symm) (fun _ => ⟨by simp only [Int.cast_ofNat_Int, kd_si, gr_si, ln_si, gi_same, gi_na, gi_ni, nl_i, nl_r, nl_j, nj_i, nj_l, nj_r, true_and, and_true, and_self, cs_0, cs_1, cs_2, cs_3, cs_4, ↓reduceIte, Nat.reduceLeDiff, Nat.reduceEqDiff, Nat.reduceAdd, Int.reduceLE, Int.reduceLT, Int.reduceEq, Int.reduceAdd, Int.reduceNeg, Int.reduceToNat, Int.toNat_natCast, ne_eq, not_false_eq_true, not_true_eq_false, or_true, true_or, or_false, false_or], by simp only [Int.cast_ofNat_Int, kd_si, gr_si, ln_si, gi_same, gi_na, gi_ni, nl_i, nl_r, nl_j, nj_i, nj_l, nj_r, true_and, and_true, and_self, cs_0, cs_1, cs_2, cs_3, cs_4, ↓reduceIte, Nat.reduceLeDiff, Nat.reduceEqDiff, Nat.reduceAdd, Int.reduceLE, Int.reduceLT, Int.reduceEq, Int.reduceAdd, Int.reduceNeg, Int.reduceToNat, Int.toNat_natCast, ne_eq, not_false_eq_true, not_true_eq_false, or_true, true_or, or_false, false_or]; exact t43, c, by omega, ?_, ?_⟩) (fun w => absurd rfl w)
        · exact MRU_f (fun r hr => by simp only [Int.cast_ofNat_Int, kd_si, gr_si, ln_si, gi_same, gi_na, gi_ni, nl_i, nl_r, nl_j, nj_i, nj_l, nj_r, true_and, and_true, and_self, cs_0, cs_1, cs_2, cs_3, cs_4, ↓reduceIte, Nat.reduceLeDiff, Nat.reduceEqDiff, Nat.reduceAdd, Int.reduceLE, Int.reduceLT, Int.reduceEq, Int.reduceAdd, Int.reduceNeg, Int.reduceToNat, Int.toNat_natCast, ne_eq, not_false_eq_true, not_true_eq_false, or_true, true_or, or_false, false_or]) (fun r hr => by simp only [Int.cast_ofNat_Int, kd_si, gr_si, ln_si, gi_same, gi_na, gi_ni, nl_i, nl_r, nl_j, nj_i, nj_l, nj_r, true_and, and_true, and_self, cs_0, cs_1, cs_2, cs_3, cs_4, ↓reduceIte, Nat.reduceLeDiff, Nat.reduceEqDiff, Nat.reduceAdd, Int.reduceLE, Int.reduceLT, Int.reduceEq, Int.reduceAdd, Int.reduceNeg, Int.reduceToNat, Int.toNat_natCast, ne_eq, not_false_eq_true, not_true_eq_false, or_true, true_or, or_false, false_or]) (fun a i h1 h2 _ => by rw [gi_na (by omega), gi_na (by omega)]) (fun j _ => ⟨by simp only [Int.cast_ofNat_Int, kd_si, gr_si, ln_si, gi_same, gi_na, gi_ni, nl_i, nl_r, nl_j, nj_i, nj_l, nj_r, true_and, and_true, and_self, cs_0, cs_1, cs_2, cs_3, cs_4, ↓reduceIte, Nat.reduceLeDiff, Nat.reduceEqDiff, Nat.reduceAdd, Int.reduceLE, Int.reduceLT, Int.reduceEq, Int.reduceAdd, Int.reduceNeg, Int.reduceToNat, Int.toNat_natCast, ne_eq, not_false_eq_true, not_true_eq_false, or_true, true_or, or_false, false_or], by simp only [Int.cast_ofNat_Int, kd_si, gr_si, ln_si, gi_same, gi_na, gi_ni, nl_i, nl_r, nl_j, nj_i, nj_l, nj_r, true_and, and_true, and_self, cs_0, cs_1, cs_2, cs_3, cs_4, ↓reduceIte, Nat.reduceLeDiff, Nat.reduceEqDiff, Nat.reduceAdd, Int.reduceLE, Int.reduceLT, Int.reduceEq, Int.reduceAdd, Int.reduceNeg, Int.reduceToNat, Int.toNat_natCast, ne_eq, not_false_eq_true, not_true_eq_false, or_true, true_or, or_false, false_or]⟩) (Nat.le_refl _) hM
        · unfold fr at hfr ⊢
          simp only [Int.cast_ofNat_Int, kd_si, gr_si, ln_si, gi_same, gi_na, gi_ni, nl_i, nl_r, nl_j, nj_i, nj_l, nj_r, true_and, and_true, and_self, cs_0, cs_1, cs_2, cs_3, cs_4, ↓reduceIte, Nat.reduceLeDiff, Nat.reduceEqDiff, Nat.reduceAdd, Int.reduceLE, Int.reduceLT, Int.reduceEq, Int.reduceAdd, Int.reduceNeg, Int.reduceToNat, Int.toNat_natCast, ne_eq, not_false_eq_true, not_true_eq_false, or_true, true_or, or_false, false_or]
          omega
      · have e0 : (if wp ≠ -1 then (5 : Int) else 0) = 5 := if_pos w1
        rw [e0] at hq'
        simp only [↓eX12_read_142, ↓eX12_read_143, ↓eX12_read_144, ↓eX12_read_147, ↓eX12_read_150, ↓eX12_read_151, ↓eX12_read_154, ↓eX12_read_157, ↓eX12_read_158, ↓eX12_read_161, ↓eX12_read_164, ↓eX12_read_165, ↓eX12_read_168, ↓eX12_read_171, ↓eX12_read_172, ↓eX12_read_175, ↓eX12_read_176, ↓eX12_read_179, ↓eX12_read_182, ↓eX12_read_183, ↓eX12_read_186, ↓eX12_read_187, ↓eX12_read_188, ↓eX12_read_191, ↓eX12_read_194, ↓eX12_read_195, ↓eX12_read_198, ↓eX12_read_199, ↓eX12_read_200, ↓eX12_read_201, ↓eX12_read_204, ↓eX12_read_207, ↓eX12_read_208, hk35 hP, t13, t19, w2, w3, Int.le_refl, Int.cast_ofNat_Int, kd_si, gr_si, ln_si, gi_same, gi_na, gi_ni, nl_i, nl_r, nl_j, nj_i, nj_l, nj_r, true_and, and_true, and_self, cs_0, cs_1, cs_2, cs_3, cs_4, ↓reduceIte, Nat.reduceLeDiff, Nat.reduceEqDiff, Nat.reduceAdd, Int.reduceLE, Int.reduceLT, Int.reduceEq, Int.reduceAdd, Int.reduceNeg, Int.reduceToNat, Int.toNat_natCast, ne_eq, not_false_eq_true, not_true_eq_false, or_true, true_or, or_false, false_or]
        exact hq' _ (YF_si (q35 17 (by decide)) yP') (by simp only [Int.cast_ofNat_Int, kd_si, gr_si, ln_si, gi_same, gi_na, gi_ni, nl_i, nl_r, nl_j, nj_i, nj_l, nj_r, true_and, and_true, and_self, cs_0, cs_1, cs_2, cs_3, cs_4, ↓reduceIte, Nat.reduceLeDiff, Nat.reduceEqDiff, Nat.reduceAdd, Int.reduceLE, Int.reduceLT, Int.reduceEq, Int.reduceAdd, Int.reduceNeg, Int.reduceToNat, Int.toNat_natCast, ne_eq, not_false_eq_true, not_true_eq_false, or_true, true_or, or_false, false_or]; exact P2) (by simp only [Int.cast_ofNat_Int, kd_si, gr_si, ln_si, gi_same, gi_na, gi_ni, nl_i, nl_r, nl_j, nj_i, nj_l, nj_r, true_and, and_true, and_self, cs_0, cs_1, cs_2, cs_3, cs_4, ↓reduceIte, Nat.reduceLeDiff, Nat.reduceEqDiff, Nat.reduceAdd, Int.reduceLE, Int.reduceLT, Int.reduceEq, Int.reduceAdd, Int.reduceNeg, Int.reduceToNat, Int.toNat_natCast, ne_eq, not_false_eq_true, not_true_eq_false, or_true, true_or, or_false, false_or]) (fun w => absurd w (by decide)) (fun _ => by simp only [Int.cast_ofNat_Int, kd_si, gr_si, ln_si, gi_same, gi_na, gi_ni, nl_i, nl_r, nl_j, nj_i, nj_l, nj_r, true_and, and_true, and_self, cs_0, cs_1, cs_2, cs_3, cs_4, ↓reduceIte, Nat.reduceLeDiff, Nat.reduceEqDiff, Nat.reduceAdd, Int.reduceLE, Int.reduceLT, Int.reduceEq, Int.reduceAdd, Int.reduceNeg, Int.reduceToNat, Int.toNat_natCast, ne_eq, not_false_eq_true, not_true_eq_false, or_true, true_or, or_false, false_or]; exact P18)
    · have hP := YF_SH yP sN
      have yP' : YF (rdM sd) M P := YF_trans yN (YF_mono (fun a i z => Or.inl z) yP)
      have P2 : gi P 35 2 = 0 := by rw [yP.2 35 2 (by unfold rmS; omega)]; exact N2
      have P18 : gi P 35 18 = (1 - sd : Nat) := by rw [yP.2 35 18 (by unfold rmS; omega)]; exact N18
      obtain ⟨hf, g13, g0, g14, -⟩ := fl
      have f0 : (rsF B sz k ≤ 0) = False := eq_false (by omega)
      have := hQ (si P 35 17 (rsP B sz k)) k hf (YF_si (q35 17 (by decide)) yP') (by simp only [Int.cast_ofNat_Int, kd_si, gr_si, ln_si, gi_same, gi_na, gi_ni, nl_i, nl_r, nl_j, nj_i, nj_l, nj_r, true_and, and_true, and_self, cs_0, cs_1, cs_2, cs_3, cs_4, ↓reduceIte, Nat.reduceLeDiff, Nat.reduceEqDiff, Nat.reduceAdd, Int.reduceLE, Int.reduceLT, Int.reduceEq, Int.reduceAdd, Int.reduceNeg, Int.reduceToNat, Int.toNat_natCast, ne_eq, not_false_eq_true, not_true_eq_false, or_true, true_or, or_false, false_or]; exact P2) (by simp only [Int.cast_ofNat_Int, kd_si, gr_si, ln_si, gi_same, gi_na, gi_ni, nl_i, nl_r, nl_j, nj_i, nj_l, nj_r, true_and, and_true, and_self, cs_0, cs_1, cs_2, cs_3, cs_4, ↓reduceIte, Nat.reduceLeDiff, Nat.reduceEqDiff, Nat.reduceAdd, Int.reduceLE, Int.reduceLT, Int.reduceEq, Int.reduceAdd, Int.reduceNeg, Int.reduceToNat, Int.toNat_natCast, ne_eq, not_false_eq_true, not_true_eq_false, or_true, true_or, or_false, false_or]) (fun w => by omega) (fun _ => by simp only [Int.cast_ofNat_Int, kd_si, gr_si, ln_si, gi_same, gi_na, gi_ni, nl_i, nl_r, nl_j, nj_i, nj_l, nj_r, true_and, and_true, and_self, cs_0, cs_1, cs_2, cs_3, cs_4, ↓reduceIte, Nat.reduceLeDiff, Nat.reduceEqDiff, Nat.reduceAdd, Int.reduceLE, Int.reduceLT, Int.reduceEq, Int.reduceAdd, Int.reduceNeg, Int.reduceToNat, Int.toNat_natCast, ne_eq, not_false_eq_true, not_true_eq_false, or_true, true_or, or_false, false_or]; exact P18)
      simp only [↓eX12_read_142, ↓eX12_read_143, ↓eX12_read_144, ↓eX12_read_147, ↓eX12_read_150, ↓eX12_read_151, ↓eX12_read_154, ↓eX12_read_157, ↓eX12_read_158, ↓eX12_read_161, ↓eX12_read_164, ↓eX12_read_165, ↓eX12_read_168, ↓eX12_read_171, ↓eX12_read_172, ↓eX12_read_175, ↓eX12_read_176, ↓eX12_read_179, ↓eX12_read_182, ↓eX12_read_183, ↓eX12_read_186, ↓eX12_read_187, ↓eX12_read_188, ↓eX12_read_191, ↓eX12_read_194, ↓eX12_read_195, ↓eX12_read_198, ↓eX12_read_199, ↓eX12_read_200, ↓eX12_read_201, ↓eX12_read_204, ↓eX12_read_207, ↓eX12_read_208, hk35 hP, g13, g14, f0, Int.cast_ofNat_Int, kd_si, gr_si, ln_si, gi_same, gi_na, gi_ni, nl_i, nl_r, nl_j, nj_i, nj_l, nj_r, true_and, and_true, and_self, cs_0, cs_1, cs_2, cs_3, cs_4, ↓reduceIte, Nat.reduceLeDiff, Nat.reduceEqDiff, Nat.reduceAdd, Int.reduceLE, Int.reduceLT, Int.reduceEq, Int.reduceAdd, Int.reduceNeg, Int.reduceToNat, Int.toNat_natCast, ne_eq, not_false_eq_true, not_true_eq_false, or_true, true_or, or_false, false_or]
      exact this⟩)
  have hR0 : SH (rwM (si M 35 4 (sz : Nat)) 37 0 sz B) := h
  simp only [↓eX12_read_36, ↓eX12_read_37, ↓eX12_read_38, ↓eX12_read_41, ↓eX12_read_42, hk35 hR0, Int.cast_ofNat_Int, kd_si, gr_si, ln_si, gi_same, gi_na, gi_ni, nl_i, nl_r, nl_j, nj_i, nj_l, nj_r, true_and, and_true, and_self, cs_0, cs_1, cs_2, cs_3, cs_4, ↓reduceIte, Nat.reduceLeDiff, Nat.reduceEqDiff, Nat.reduceAdd, Int.reduceLE, Int.reduceLT, Int.reduceEq, Int.reduceAdd, Int.reduceNeg, Int.reduceToNat, Int.toNat_natCast, ne_eq, not_false_eq_true, not_true_eq_false, or_true, true_or, or_false, false_or]
  rw [← hM1]
  exact cu
end RD
