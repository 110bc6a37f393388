/-! ===== the class settles ===== -/
/-- a plan's cells -/
def CB (B : mM) (p n : Nat) (cl : Nat → Nat) : Prop := (p = 31 ∨ p = 33) ∧ n ≤ 14 ∧ gi B p 0 = n ∧ (∀ j, j < n → gr B (p + 1) j = some (cl j) ∧ kd B (cl j) = 0 ∧ 88 ≤ cl j) ∧ ∀ i j, i < n → j < n → cl i = cl j → i = j
theorem CB_p {B : mM} {p n : Nat} {cl : Nat → Nat} (h : SH B) (hp : p = 31 ∨ p = 33) : kd B p = 4 ∧ gr B p 5 = some (p + 1) ∧ kd B (p + 1) = 17 ∧ ln B (p + 1) = 14 := by
  rcases hp with rfl | rfl
  · exact ⟨hk31 h, hr31_5 h, hk32 h, hl32 h⟩
  · exact ⟨hk33 h, hr33_5 h, hk34 h, hl34 h⟩
/-- the cells stay while ints of the candidates and the plan change -/
theorem CB_f {B N : mM} {p n : Nat} {cl : Nat → Nat} (h2 : N.2 = B.2) (h0 : gi N p 0 = gi B p 0) (h : CB B p n cl) : CB N p n cl := by
  have r : ∀ a i, gr N a i = gr B a i := fun a i => by unfold gr; rw [h2]
  have k : ∀ a, kd N a = kd B a := fun a => by unfold kd; rw [h2]
  unfold CB at h ⊢
  simp only [r, k, h0]
  exact h
theorem x_cat {d p n j : Nat} {N : mM} {Q : mV → mM → Prop} {cl : Nat → Nat} (h : SH N) (hC : CB N p n cl) (hj : j < n) : CP (mc (d + 1)) 35 [vr (some p), vi (j : Nat)] N Q = Q (vr (some (cl j))) N := by
  obtain ⟨hp, hn, h0, hc, -⟩ := hC
  obtain ⟨k1, k2, k3, k4⟩ := CB_p (n := n) (cl := cl) h hp
  rw [x_pat k1 k2 k3 k4 h0 hn, if_pos (by omega), Int.toNat_natCast, (hc j hj).1]
def stS (p n : Nat) (cl : Nat → Nat) (a i : Nat) : Prop := (a = p ∧ 2 ≤ i ∧ i ≤ 4) ∨ (i = 11 ∧ ∃ j, j < n ∧ a = cl j)
theorem x_set_loop {d p n b : Nat} {B : mM} {Q : mV → mM → Prop} {cl : Nat → Nat} {wt fr un way : Nat → Int} (h : SH B) (hC : CB B p n cl) (hb : b < 16384) (hS : SN n wt fr un way) (hw : ∀ j, j < n → gi B (cl j) 6 = wt j ∧ gi B (cl j) 7 = fr j ∧ gi B (cl j) 8 = un j)
    (hQ : ∀ N, YF (stS p n cl) B N → gi N p 2 = sm (fun _ => 1) b n → gi N p 3 = sm wt b n → gi N p 4 = sm (spn fr un) b n → (∀ j, j < n → gi N (cl j) 11 = tb b j) → Q vj N) :
    ∀ (r i : Nat) (N : mM) (a3 : mV), i + r = n → YF (stS p n cl) B N → gi N p 2 = sm (fun _ => 1) b i → gi N p 3 = sm wt b i → gi N p 4 = sm (spn fr un) b i → (∀ j, j < i → gi N (cl j) 11 = tb b j) → WP (mc (d + 1)) tX4_settle 17 [vr (some p), vi (b : Nat), vi (i : Nat), a3] [] N Q := by
  have hC' := hC
  obtain ⟨hp, hn, h0, hc, hi⟩ := hC'
  obtain ⟨k1, k2, k3, k4⟩ := CB_p (n := n) (cl := cl) h hp
  have g0 : ∀ N, YF (stS p n cl) B N → gi N p 0 = n := fun N hN => by
    rw [hN.2 p 0 (fun w => by
      rcases w with w | ⟨w, -⟩
      · omega
      · omega)]
    exact h0
  intro r
  induction r with
  | zero =>
    intro i N a3 hr hN g2 g3 g4 gA
    have e : i = n := by omega
    subst e
    have kN : kd N p = 4 := by rw [YF_k hN]; exact k1
    have gN := g0 N hN
    rw [eX4_settle_17]
    simp only [↓eX4_settle_18, ↓eX4_settle_19, ↓eX4_settle_22, ↓eX4_settle_128, kN, gN, Int.le_refl, Int.cast_ofNat_Int, kd_si, gr_si, ln_si, gi_same, gi_na, gi_ni, nl_i, nl_r, nl_j, nj_i, nj_l, nj_r, true_and, and_true, and_self, cs_0, cs_1, cs_2, cs_3, cs_4, ↓reduceIte, Nat.reduceLeDiff, Nat.reduceEqDiff, Nat.reduceAdd, Int.reduceLE, Int.reduceLT, Int.reduceEq, Int.reduceAdd, Int.reduceNeg, Int.reduceToNat, Int.toNat_natCast, ne_eq, not_false_eq_true, not_true_eq_false, or_true, true_or, or_false, false_or]
    exact hQ N hN g2 g3 g4 gA
  | succ r ih =>
    intro i N a3 hr hN g2 g3 g4 gA
    have hin : i < n := by omega
    obtain ⟨c1, c2, c3⟩ := hc i hin
    obtain ⟨w6, w7, w8⟩ := hw i hin
    have sn := hS i hin
    have kN : kd N p = 4 := by rw [YF_k hN]; exact k1
    have kx : kd N (cl i) = 0 := by rw [YF_k hN]; exact c2
    have gN := g0 N hN
    have hNs := YF_SH hN h
    have e1 : ((n : Int) ≤ (i : Int)) = False := eq_false (by omega)
    have e2 : wr ((i : Int) + 1) = ((i + 1 : Nat) : Int) := by rw [wr_id (by omega) (by omega)]; omega
    have fa := fun (Q : mV → mM → Prop) => x_cat (d := d) (N := N) (Q := Q) (p := p) (n := n) (cl := cl) (j := i) hNs (CB_f hN.1 (gN.trans h0.symm) hC) hin
    have n1 : (p = cl i) = False := eq_false (by omega)
    have n2 : (cl i = p) = False := eq_false (by omega)
    have s1 := i_shr (s := b) (i := i) hb (by omega)
    have s2 := i_b1 (s := b) (i := i) hb
    have gc : ∀ m, m ≠ 11 → gi N (cl i) m = gi B (cl i) m := fun m hm => hN.2 _ _ (fun w => by
      rcases w with ⟨w, -⟩ | ⟨w, -⟩
      · omega
      · exact hm w)
    have q6 : gi N (cl i) 6 = wt i := by rw [gc 6 (by decide)]; exact w6
    have q7 : gi N (cl i) 7 = fr i := by rw [gc 7 (by decide)]; exact w7
    have q8 : gi N (cl i) 8 = un i := by rw [gc 8 (by decide)]; exact w8
    have b1 := sm_bd (f := fun _ => (1 : Int)) (s := b) (b := 1) (by decide) i (fun j _ => ⟨by omega, by omega⟩)
    have b2 := sm_bd (f := wt) (s := b) (b := 9999) (by decide) i (fun j hj => by have := (hS j (by omega)).1; omega)
    have b3 := sm_bd (f := spn fr un) (s := b) (b := 288) (by decide) i (fun j hj => by have := (hS j (by omega)).2.1; unfold spn; omega)
    have fs := fun (Q : mV → mM → Prop) (z u w : Int) => x_span (d := d) (M := si (si (si N (cl i) 11 z) p 2 u) p 3 w) (Q := Q) (a := cl i) (by rw [kd_si, kd_si, kd_si]; exact kx)
    have ws : wr (un i - fr i) = un i - fr i := wr_id (by omega) (by omega)
    have es : ∀ z u w : Int, wr (gi (si (si (si N (cl i) 11 z) p 2 u) p 3 w) (cl i) 8 - gi (si (si (si N (cl i) 11 z) p 2 u) p 3 w) (cl i) 7) = un i - fr i := fun z u w => by
      rw [gi_na (by omega), gi_na (by omega), gi_ni (by decide), gi_na (by omega), gi_na (by omega), gi_ni (by decide), q7, q8, ws]
    simp only [es] at fs
    have nxt : ∀ z u w s : Int, z = tb b i → u = sm (fun _ => 1) b (i + 1) → w = sm wt b (i + 1) → s = sm (spn fr un) b (i + 1) → WP (mc (d + 1)) tX4_settle 17 [vr (some p), vi (b : Nat), vi (i + 1 : Nat), vr (some (cl i))] [] (si (si (si (si N (cl i) 11 z) p 2 u) p 3 w) p 4 s) Q := fun z u w s hz hu hw' hs => by
      refine ih (i + 1) _ _ (by omega) (YF_si (Or.inl ⟨rfl, by decide, by decide⟩) (YF_si (Or.inl ⟨rfl, by decide, by decide⟩) (YF_si (Or.inl ⟨rfl, by decide, by decide⟩) (YF_si (Or.inr ⟨rfl, i, hin, rfl⟩) hN)))) ?_ ?_ ?_ (fun j hj => ?_)
      · rw [gi_ni (by decide), gi_ni (by decide), gi_same]; exact hu
      · rw [gi_ni (by decide), gi_same]; exact hw'
      · rw [gi_same]; exact hs
      · have : cl j ≠ p := by have := (hc j (by omega)).2.2; omega
        rw [gi_na this, gi_na this, gi_na this]
        by_cases q : j = i
        · rw [q, gi_same]; exact hz
        · rw [gi_na (fun w => q (hi j i (by omega) hin w))]
          exact gA j (by omega)
    rw [eX4_settle_17]
    by_cases q : b.testBit i = true
    · have t1 := tb_1 q
      rw [t1] at s2
      have v1 : wr (sm (fun _ => 1) b i + 1) = sm (fun _ => 1) b (i + 1) := by
        rw [sm_s, if_pos q, wr_id (by omega) (by omega)]
      have v2 : wr (sm wt b i + wt i) = sm wt b (i + 1) := by
        rw [sm_s, if_pos q, wr_id (by omega) (by omega)]
      have v3 : wr (sm (spn fr un) b i + (un i - fr i)) = sm (spn fr un) b (i + 1) := by
        rw [sm_s, if_pos q, wr_id (by omega) (by omega)]
        rfl
      have fin := nxt 1 _ _ _ t1.symm rfl rfl rfl
      simp only [↓eX4_settle_18, ↓eX4_settle_19, ↓eX4_settle_22, ↓eX4_settle_25, ↓eX4_settle_26, ↓eX4_settle_27, ↓eX4_settle_30, ↓eX4_settle_31, ↓eX4_settle_32, ↓eX4_settle_35, ↓eX4_settle_36, ↓eX4_settle_37, ↓eX4_settle_38, ↓eX4_settle_39, ↓eX4_settle_40, ↓eX4_settle_41, ↓eX4_settle_42, ↓eX4_settle_45, ↓eX4_settle_46, ↓eX4_settle_49, ↓eX4_settle_50, ↓eX4_settle_53, ↓eX4_settle_54, ↓eX4_settle_55, ↓eX4_settle_58, ↓eX4_settle_59, ↓eX4_settle_62, ↓eX4_settle_65, ↓eX4_settle_66, ↓eX4_settle_69, ↓eX4_settle_70, ↓eX4_settle_71, ↓eX4_settle_74, ↓eX4_settle_75, ↓eX4_settle_76, ↓eX4_settle_79, ↓eX4_settle_80, ↓eX4_settle_83, ↓eX4_settle_86, ↓eX4_settle_87, ↓eX4_settle_90, ↓eX4_settle_93, ↓eX4_settle_94, ↓eX4_settle_95, ↓eX4_settle_98, ↓eX4_settle_99, ↓eX4_settle_100, ↓eX4_settle_103, ↓eX4_settle_104, ↓eX4_settle_107, ↓eX4_settle_110, ↓eX4_settle_111, ↓eX4_settle_114, ↓eX4_settle_117, ↓eX4_settle_118, ↓eX4_settle_119, ↓eX4_settle_122, ↓eX4_settle_125, kN, kx, gN, e1, e2, ↓fa, s1, s2, n1, n2, g2, g3, g4, q6, v1, v2, v3, ↓fs, reduceCtorEq, Int.cast_ofNat_Int, kd_si, gr_si, ln_si, gi_same, gi_na, gi_ni, nl_i, nl_r, nl_j, nj_i, nj_l, nj_r, true_and, and_true, and_self, cs_0, cs_1, cs_2, cs_3, cs_4, ↓reduceIte, Nat.reduceLeDiff, Nat.reduceEqDiff, Nat.reduceAdd, Int.reduceLE, Int.reduceLT, Int.reduceEq, Int.reduceAdd, Int.reduceNeg, Int.reduceToNat, Int.toNat_natCast, ne_eq, not_false_eq_true, not_true_eq_false, or_true, true_or, or_false, false_or]
      exact fin
    · have t1 := tb_0 q
      rw [t1] at s2
      have v1 : wr (sm (fun _ => 1) b i + 0) = sm (fun _ => 1) b (i + 1) := by
        rw [sm_s, if_neg q, wr_id (by omega) (by omega)]
      have v2 : wr (sm wt b i + 0) = sm wt b (i + 1) := by
        rw [sm_s, if_neg q, wr_id (by omega) (by omega)]
      have v3 : wr (sm (spn fr un) b i + 0) = sm (spn fr un) b (i + 1) := by
        rw [sm_s, if_neg q, wr_id (by omega) (by omega)]
      have fin := nxt 0 _ _ _ t1.symm rfl rfl rfl
      simp only [↓eX4_settle_18, ↓eX4_settle_19, ↓eX4_settle_22, ↓eX4_settle_25, ↓eX4_settle_26, ↓eX4_settle_27, ↓eX4_settle_30, ↓eX4_settle_31, ↓eX4_settle_32, ↓eX4_settle_35, ↓eX4_settle_36, ↓eX4_settle_37, ↓eX4_settle_38, ↓eX4_settle_39, ↓eX4_settle_40, ↓eX4_settle_41, ↓eX4_settle_42, ↓eX4_settle_45, ↓eX4_settle_46, ↓eX4_settle_49, ↓eX4_settle_50, ↓eX4_settle_53, ↓eX4_settle_54, ↓eX4_settle_55, ↓eX4_settle_58, ↓eX4_settle_59, ↓eX4_settle_62, ↓eX4_settle_65, ↓eX4_settle_66, ↓eX4_settle_69, ↓eX4_settle_70, ↓eX4_settle_71, ↓eX4_settle_74, ↓eX4_settle_75, ↓eX4_settle_76, ↓eX4_settle_79, ↓eX4_settle_80, ↓eX4_settle_83, ↓eX4_settle_86, ↓eX4_settle_87, ↓eX4_settle_90, ↓eX4_settle_93, ↓eX4_settle_94, ↓eX4_settle_95, ↓eX4_settle_98, ↓eX4_settle_99, ↓eX4_settle_100, ↓eX4_settle_103, ↓eX4_settle_104, ↓eX4_settle_107, ↓eX4_settle_110, ↓eX4_settle_111, ↓eX4_settle_114, ↓eX4_settle_117, ↓eX4_settle_118, ↓eX4_settle_119, ↓eX4_settle_122, ↓eX4_settle_125, kN, kx, gN, e1, e2, ↓fa, s1, s2, n1, n2, g2, g3, g4, v1, v2, v3, reduceCtorEq, Int.cast_ofNat_Int, kd_si, gr_si, ln_si, gi_same, gi_na, gi_ni, nl_i, nl_r, nl_j, nj_i, nj_l, nj_r, true_and, and_true, and_self, cs_0, cs_1, cs_2, cs_3, cs_4, ↓reduceIte, Nat.reduceLeDiff, Nat.reduceEqDiff, Nat.reduceAdd, Int.reduceLE, Int.reduceLT, Int.reduceEq, Int.reduceAdd, Int.reduceNeg, Int.reduceToNat, Int.toNat_natCast, ne_eq, not_false_eq_true, not_true_eq_false, or_true, true_or, or_false, false_or]
      exact fin
theorem x_settle {d p n b : Nat} {B : mM} {Q : mV → mM → Prop} {cl : Nat → Nat} {wt fr un way : Nat → Int} (h : SH B) (hC : CB B p n cl) (hb : b < 16384) (hS : SN n wt fr un way) (hw : ∀ j, j < n → gi B (cl j) 6 = wt j ∧ gi B (cl j) 7 = fr j ∧ gi B (cl j) 8 = un j)
    (hQ : ∀ N, YF (stS p n cl) B N → gi N p 2 = sm (fun _ => 1) b n → gi N p 3 = sm wt b n → gi N p 4 = sm (spn fr un) b n → (∀ j, j < n → gi N (cl j) 11 = tb b j) → Q vj N) : CP (mc (d + 2)) 40 [vr (some p), vi (b : Nat)] B Q := by
  have hC' := hC
  obtain ⟨hp, hn, h0, hc, hi⟩ := hC'
  obtain ⟨k1, k2, k3, k4⟩ := CB_p (n := n) (cl := cl) h hp
  have lp := x_set_loop (d := d) h hC hb hS hw hQ n 0 (si (si (si B p 2 0) p 3 0) p 4 0) vj (by omega) (YF_si (Or.inl ⟨rfl, by decide, by decide⟩) (YF_si (Or.inl ⟨rfl, by decide, by decide⟩) (YF_si (Or.inl ⟨rfl, by decide, by decide⟩) YF_refl))) (by rw [gi_ni (by decide), gi_ni (by decide), gi_same]; rfl) (by rw [gi_ni (by decide), gi_same]; rfl) (by rw [gi_same]; rfl) (fun j hj => absurd hj (Nat.not_lt_zero j))
  simp only [↓cpX4_settle, ↓eX4_settle_0, ↓eX4_settle_1, ↓eX4_settle_2, ↓eX4_settle_5, ↓eX4_settle_6, ↓eX4_settle_7, ↓eX4_settle_10, ↓eX4_settle_11, ↓eX4_settle_12, ↓eX4_settle_15, ↓eX4_settle_16, k1, Int.cast_ofNat_Int, kd_si, gr_si, ln_si, gi_same, gi_na, gi_ni, nl_i, nl_r, nl_j, nj_i, nj_l, nj_r, true_and, and_true, and_self, cs_0, cs_1, cs_2, cs_3, cs_4, ↓reduceIte, Nat.reduceLeDiff, Nat.reduceEqDiff, Nat.reduceAdd, Int.reduceLE, Int.reduceLT, Int.reduceEq, Int.reduceAdd, Int.reduceNeg, Int.reduceToNat, Int.toNat_natCast, ne_eq, not_false_eq_true, not_true_eq_false, or_true, true_or, or_false, false_or]
  exact lp
/-- the class chooses -/
theorem x_choose {d p n : Nat} {B : mM} {Q : mV → mM → Prop} {cl : Nat → Nat} {wt fr un way : Nat → Int} {may : Nat → Bool} {one : Nat → Nat → Bool} {tu room : Int} (hA : CA B p n cl wt fr un way may one) (hC : CB B p n cl) (hS : SN n wt fr un way) (h : SH B) (htu : gi B 20 0 = tu) (hro : gi B 20 3 = room) (hr0 : 0 ≤ room)
    (hQ : ∀ N b, YF (fun a i => scS a i ∨ stS p n cl a i) B N → bestOf n way wt (spn fr un) (VC n fr un may one tu room) b → gi N p 2 = sm (fun _ => 1) b n → gi N p 3 = sm wt b n → gi N p 4 = sm (spn fr un) b n → (∀ j, j < n → gi N (cl j) 11 = tb b j) → Q vj N) : CP (mc (d + n + 4)) 49 [vr (some 20), vr (some p)] B Q := by
  have hA' := hA
  obtain ⟨hp, hn, h0, hj⟩ := hA'
  obtain ⟨k1, k2, k3, k4⟩ := CB_p (n := n) (cl := cl) h hp
  have k20 := hk20 h
  let B0 : mM := si (si (si (si (si (si B 20 5 0) 20 6 0) 20 7 0) 20 8 0) 20 9 0) 20 10 (-1)
  have hY : YF scS B B0 := YF_si (by unfold scS; omega) (YF_si (by unfold scS; omega) (YF_si (by unfold scS; omega) (YF_si (by unfold scS; omega) (YF_si (by unfold scS; omega) (YF_si (by unfold scS; omega) YF_refl)))))
  have st : ST n wt fr un way B0 0 := by
    refine ⟨?_, ?_, ?_, ?_⟩
    · show gi (si (si (si (si (si (si B 20 5 0) 20 6 0) 20 7 0) 20 8 0) 20 9 0) 20 10 (-1)) 20 5 = _
      rw [gi_ni (by decide), gi_ni (by decide), gi_ni (by decide), gi_ni (by decide), gi_ni (by decide), gi_same]; rfl
    · rw [sm_0]
      show gi (si (si (si (si (si (si B 20 5 0) 20 6 0) 20 7 0) 20 8 0) 20 9 0) 20 10 (-1)) 20 6 = _
      rw [gi_ni (by decide), gi_ni (by decide), gi_ni (by decide), gi_ni (by decide), gi_same]
    · rw [sm_0]
      show gi (si (si (si (si (si (si B 20 5 0) 20 6 0) 20 7 0) 20 8 0) 20 9 0) 20 10 (-1)) 20 7 = _
      rw [gi_ni (by decide), gi_ni (by decide), gi_ni (by decide), gi_same]
    · rw [sm_0]
      show gi (si (si (si (si (si (si B 20 5 0) 20 6 0) 20 7 0) 20 8 0) 20 9 0) 20 10 (-1)) 20 8 = _
      rw [gi_ni (by decide), gi_ni (by decide), gi_same]
  have v0 : VC n fr un may one tu room 0 := ⟨Nat.pow_pos (by decide), fun i _ w => by rw [Nat.zero_testBit] at w; exact absurd w (by decide), by rw [sm_0]; exact hr0, fun i _ w => by rw [Nat.zero_testBit] at w; exact absurd w (by decide)⟩
  have se := x_search (d := d) hA hS h htu hro n 0 0 none B0 (fun v M => v = vj ∧ WP (mc (d + n + 3)) tX5_choose 36 [vr (some 20), vr (some p)] [] M Q) (by omega) (by decide) v0 hY st (show gi B0 20 10 = -1 from gi_same _ _ _ _) (fun b hb => by cases hb) (fun N b hN hs hb hv _ _ hall => ⟨rfl, by
    have kN : kd N p = 4 := by rw [YF_k hN]; exact k1
    have k2N : kd N 20 = 5 := by rw [YF_k hN]; exact k20
    obtain ⟨b1, -⟩ := hb
    have ls := x_settle (d := d + n + 1) (Q := fun v M => v = vj ∧ WP (mc (d + n + 3)) tX5_choose 44 [vr (some 20), vr (some p)] [] M Q) (YF_SH hN h) (CB_f hN.1 (sc_c hN (by omega)) hC) (lt16 hn hv.1) hS (fun j hjn => by
      obtain ⟨⟨-, -, j3⟩, ⟨j4, j5, j6, -⟩, -⟩ := hj j hjn
      rw [sc_c hN (by omega), sc_c hN (by omega), sc_c hN (by omega)]
      exact ⟨j4, j5, j6⟩) (fun N' hN' g2 g3 g4 gA => ⟨rfl, by
      simp only [↓eX5_choose_44]
      exact hQ N' b (YF_trans (YF_mono (fun a i w => Or.inl w) hN) (YF_mono (fun a i w => Or.inr w) hN')) ⟨hv, fun t ht => hall t ht (fun j hj => absurd hj (Nat.not_lt_zero j))⟩ g2 g3 g4 gA⟩)
    simp only [↓eX5_choose_36, ↓eX5_choose_37, ↓eX5_choose_38, ↓eX5_choose_41, kN, k2N, b1, Int.cast_ofNat_Int, kd_si, gr_si, ln_si, gi_same, gi_na, gi_ni, nl_i, nl_r, nl_j, nj_i, nj_l, nj_r, true_and, and_true, and_self, cs_0, cs_1, cs_2, cs_3, cs_4, ↓reduceIte, Nat.reduceLeDiff, Nat.reduceEqDiff, Nat.reduceAdd, Int.reduceLE, Int.reduceLT, Int.reduceEq, Int.reduceAdd, Int.reduceNeg, Int.reduceToNat, Int.toNat_natCast, ne_eq, not_false_eq_true, not_true_eq_false, or_true, true_or, or_false, false_or]
    exact ls⟩)
  rw [cpX5_choose]
  simp only [↓eX5_choose_0, ↓eX5_choose_1, ↓eX5_choose_2, ↓eX5_choose_5, ↓eX5_choose_6, ↓eX5_choose_7, ↓eX5_choose_10, ↓eX5_choose_11, ↓eX5_choose_12, ↓eX5_choose_15, ↓eX5_choose_16, ↓eX5_choose_17, ↓eX5_choose_20, ↓eX5_choose_21, ↓eX5_choose_22, ↓eX5_choose_25, ↓eX5_choose_26, ↓eX5_choose_27, ↓eX5_choose_30, ↓eX5_choose_31, ↓eX5_choose_32, ↓eX5_choose_33, k20, kd_si, Int.cast_ofNat_Int, kd_si, gr_si, ln_si, gi_same, gi_na, gi_ni, nl_i, nl_r, nl_j, nj_i, nj_l, nj_r, true_and, and_true, and_self, cs_0, cs_1, cs_2, cs_3, cs_4, ↓reduceIte, Nat.reduceLeDiff, Nat.reduceEqDiff, Nat.reduceAdd, Int.reduceLE, Int.reduceLT, Int.reduceEq, Int.reduceAdd, Int.reduceNeg, Int.reduceToNat, Int.toNat_natCast, ne_eq, not_false_eq_true, not_true_eq_false, or_true, true_or, or_false, false_or]
  exact se
