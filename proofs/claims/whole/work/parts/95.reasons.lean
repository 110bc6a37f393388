/-! ===== the reference's reasons ===== -/
def rsM (N : mM) (i : Nat) (y z : Int) : mM := si (si N 82 i y) 83 i z
theorem rs82 {N : mM} {i : Nat} {y z c : Int} : si (rsM N i y z) 82 i c = rsM N i c z := by
  unfold rsM
  rw [si_comm (by omega), si_si]
theorem rs83 {N : mM} {i : Nat} {y z c : Int} : si (rsM N i y z) 83 i c = rsM N i y c := by
  unfold rsM
  rw [si_si]
theorem gi_rs83 {N : mM} {i : Nat} {y z : Int} : gi (rsM N i y z) 83 i = z := gi_same _ _ _ _
theorem gi_rso {N : mM} {i a j : Nat} {y z : Int} (h : a ≠ 82) (h' : a ≠ 83) : gi (rsM N i y z) a j = gi N a j := by
  unfold rsM
  rw [gi_na h', gi_na h]
def metR (fr un : Nat → Int) (b j i : Nat) : Bool := b.testBit i && decide (fr j < un i ∧ fr i < un j)
theorem metR_Q {fr un : Nat → Int} {b j : Nat} : metR fr un b j = metQ fr un b j := by
  funext i
  unfold metR metQ
  congr 1
  exact decide_eq_decide.mpr And.comm
def whyR (n b : Nat) (fr un ti ep : Nat → Int) (may : Nat → Bool) (tu room : Int) (j : Nat) : Int :=
  if b.testBit j = true then 0 else if may j = false then 1 else if ff (alQ ti ep b j) n 0 ≠ -1 then 2 else if ff (thQ fr un tu n (b ||| 2 ^ j)) n 0 ≠ -1 then 3 else if room < sm (spn fr un) b n + spn fr un j then 4 else 5
def byR (n b : Nat) (wt fr un ti ep : Nat → Int) (j : Nat) (y : Int) : Int := if y = 2 then ff (alQ ti ep b j) n 0 else if y = 3 then lmf (metR fr un b j) wt n 0 (-1) 0 else -1
section REAS
variable {d n b : Nat} {N : mM} {Q : mV → mM → Prop} {wt fr un ti ep way : Nat → Int} {may : Nat → Bool}
theorem RD_rs {i : Nat} {y z : Int} (h : RD N n wt fr un ti ep way may) : RD (rsM N i y z) n wt fr un ti ep way may := RD_f (M := N) rfl (gi_rso (by decide) (by decide)) (fun a j h1 h2 => gi_rso (show a ≠ 82 by omega) (show a ≠ 83 by omega)) h
theorem y_meet (hD : RD N n wt fr un ti ep way may) {i j : Nat} (hi : i < n) (hjn : j < n) : CP (mc (d + 1)) 172 [vr (some 35), vi (i : Nat), vi (j : Nat)] N Q = if fr i < un j ∧ fr j < un i then Q (vi 1) N else Q (vi 0) N := by
  obtain ⟨h, h0, hn, hj⟩ := hD
  obtain ⟨-, i2, i3, -⟩ := hj i hi
  obtain ⟨-, j2, j3, -⟩ := hj j hjn
  have i0 : (0 ≤ (i : Int)) = True := eq_true (by omega)
  have i1 : ((i : Int) < 14) = True := eq_true (by omega)
  have i0' : (0 ≤ (j : Int)) = True := eq_true (by omega)
  have i1' : ((j : Int) < 14) = True := eq_true (by omega)
  simp only [↓cpX12_meet, ↓eX12_meet_0, ↓eX12_meet_1, ↓eX12_meet_4, ↓eX12_meet_5, ↓eX12_meet_6, ↓eX12_meet_7, ↓eX12_meet_10, ↓eX12_meet_11, ↓eX12_meet_12, ↓eX12_meet_15, ↓eX12_meet_16, ↓eX12_meet_19, ↓eX12_meet_20, ↓eX12_meet_21, ↓eX12_meet_22, ↓eX12_meet_25, ↓eX12_meet_26, ↓eX12_meet_27, ↓eX12_meet_30, ↓eX12_meet_31, ↓eX12_meet_34, ↓eX12_meet_35, hk35 h, hr35_67 h, hr35_68 h, hk74 h, hl74 h, hk75 h, hl75 h, i0, i1, i0', i1', i2, i3, j2, j3, Int.cast_ofNat_Int, kd_si, gr_si, ln_si, gi_same, gi_na, gi_ni, nl_i, nl_r, nl_j, nj_i, nj_l, nj_r, true_and, and_true, and_self, cs_0, cs_1, cs_2, cs_3, cs_4, ↓reduceIte, Nat.reduceLeDiff, Nat.reduceEqDiff, Nat.reduceAdd, Int.reduceLE, Int.reduceLT, Int.reduceEq, Int.reduceAdd, Int.reduceNeg, Int.reduceToNat, Int.toNat_natCast, ne_eq, not_false_eq_true, not_true_eq_false, or_true, true_or, or_false, false_or]
  repeat (first | refine ifl (fun z => by omega) (fun z => ?_) | refine ifr (fun z => by omega) (fun z => ?_))
  rw [if_pos (by omega)]
theorem y_re_one (hD : RD N n wt fr un ti ep way may) (h63 : gi N 35 63 = (b : Nat)) (hb : b < 16384) {i : Nat} (hi : i < n) {y : Int} : ∀ r j : Nat, j + r = n → WP (mc (d + 1)) tX12_reasons 53 [vr (some 35), vi (i : Nat), vi (j : Nat)] [] (rsM N i y (-1)) Q = if ff (alQ ti ep b i) r j ≠ -1 then Q vj (rsM N i y (ff (alQ ti ep b i) r j)) else WP (mc (d + 1)) tX12_reasons 116 [vr (some 35), vi (i : Nat), vi (n : Nat)] [] (rsM N i y (-1)) Q := by
  have hD0 := hD
  obtain ⟨h, h0, hn, hj⟩ := hD
  have i0 : (0 ≤ (i : Int)) = True := eq_true (by omega)
  have i1 : ((i : Int) < 14) = True := eq_true (by omega)
  have hP : ∀ z, SH (rsM N i y z) := fun z => h
  have p62 : ∀ z, gi (rsM N i y z) 35 62 = n := fun z => by rw [gi_rso (by decide) (by decide)]; exact h0
  have p63 : ∀ z, gi (rsM N i y z) 35 63 = (b : Nat) := fun z => by rw [gi_rso (by decide) (by decide)]; exact h63
  intro r
  induction r with
  | zero =>
    intro j hr
    have e : j = n := by omega
    subst e
    rw [ff, if_neg (fun w => w rfl), eX12_reasons_53]
    simp only [↓eX12_reasons_54, ↓eX12_reasons_55, ↓eX12_reasons_58, ↓eX12_reasons_105, ↓eX12_reasons_106, ↓eX12_reasons_109, ↓eX12_reasons_110, ↓eX12_reasons_111, ↓eX12_reasons_112, hk35 (hP _), hr35_76 (hP _), hk83 (hP _), hl83 (hP _), i0, i1, gi_rs83, p62, Int.le_refl, Int.cast_ofNat_Int, kd_si, gr_si, ln_si, gi_same, gi_na, gi_ni, nl_i, nl_r, nl_j, nj_i, nj_l, nj_r, true_and, and_true, and_self, cs_0, cs_1, cs_2, cs_3, cs_4, ↓reduceIte, Nat.reduceLeDiff, Nat.reduceEqDiff, Nat.reduceAdd, Int.reduceLE, Int.reduceLT, Int.reduceEq, Int.reduceAdd, Int.reduceNeg, Int.reduceToNat, Int.toNat_natCast, ne_eq, not_false_eq_true, not_true_eq_false, or_true, true_or, or_false, false_or]
  | succ r ih =>
    intro j hr
    have hjn : j < n := by omega
    have e1 : ((n : Int) ≤ (j : Int)) = False := eq_false (by omega)
    have e2 : wr ((j : Int) + 1) = ((j + 1 : Nat) : Int) := by rw [wr_id (by omega) (by omega)]; omega
    have s1 := i_shr (s := b) (i := j) hb (by omega)
    have s2 := i_b1 (s := b) (i := j) hb
    have fal := fun (Q : mV → mM → Prop) => y_areAlike (d := d) (M := rsM N i y (-1)) (Q := Q) (RD_rs hD0) hi hjn
    have hih := ih (j + 1) (by omega)
    rw [ff, eX12_reasons_53]
    by_cases q : b.testBit j = true
    · rw [tb_1 q] at s2
      by_cases z : alk ti ep i j = true
      · have zq : alQ ti ep b i j = true := by unfold alQ; rw [q, z]; rfl
        have nj : (((j : Nat) : Int) = -1) = False := eq_false (by omega)
        simp only [if_pos z] at fal
        rw [if_pos zq, if_pos (by omega)]
        simp only [↓eX12_reasons_54, ↓eX12_reasons_55, ↓eX12_reasons_58, ↓eX12_reasons_61, ↓eX12_reasons_62, ↓eX12_reasons_65, ↓eX12_reasons_66, ↓eX12_reasons_67, ↓eX12_reasons_68, ↓eX12_reasons_71, ↓eX12_reasons_72, ↓eX12_reasons_75, ↓eX12_reasons_76, ↓eX12_reasons_77, ↓eX12_reasons_78, ↓eX12_reasons_79, ↓eX12_reasons_80, ↓eX12_reasons_83, ↓eX12_reasons_84, ↓eX12_reasons_85, ↓eX12_reasons_86, ↓eX12_reasons_89, ↓eX12_reasons_92, ↓eX12_reasons_93, ↓eX12_reasons_96, ↓eX12_reasons_97, ↓eX12_reasons_98, ↓eX12_reasons_99, ↓eX12_reasons_102, hk35 (hP _), hr35_76 (hP _), hk83 (hP _), hl83 (hP _), i0, i1, gi_rs83, p62, p63, e1, e2, s1, s2, ↓fal, rs83, Int.cast_ofNat_Int, kd_si, gr_si, ln_si, gi_same, gi_na, gi_ni, nl_i, nl_r, nl_j, nj_i, nj_l, nj_r, true_and, and_true, and_self, cs_0, cs_1, cs_2, cs_3, cs_4, ↓reduceIte, Nat.reduceLeDiff, Nat.reduceEqDiff, Nat.reduceAdd, Int.reduceLE, Int.reduceLT, Int.reduceEq, Int.reduceAdd, Int.reduceNeg, Int.reduceToNat, Int.toNat_natCast, ne_eq, not_false_eq_true, not_true_eq_false, or_true, true_or, or_false, false_or]
        rw [eX12_reasons_53]
        by_cases z2 : ((n : Int) ≤ ((j + 1 : Nat) : Int))
        · simp only [↓eX12_reasons_54, ↓eX12_reasons_55, ↓eX12_reasons_58, ↓eX12_reasons_105, ↓eX12_reasons_106, ↓eX12_reasons_109, ↓eX12_reasons_110, ↓eX12_reasons_111, ↓eX12_reasons_112, ↓eX12_reasons_115, hk35 (hP _), hr35_76 (hP _), hk83 (hP _), hl83 (hP _), i0, i1, gi_rs83, p62, z2, nj, Int.cast_ofNat_Int, kd_si, gr_si, ln_si, gi_same, gi_na, gi_ni, nl_i, nl_r, nl_j, nj_i, nj_l, nj_r, true_and, and_true, and_self, cs_0, cs_1, cs_2, cs_3, cs_4, ↓reduceIte, Nat.reduceLeDiff, Nat.reduceEqDiff, Nat.reduceAdd, Int.reduceLE, Int.reduceLT, Int.reduceEq, Int.reduceAdd, Int.reduceNeg, Int.reduceToNat, Int.toNat_natCast, ne_eq, not_false_eq_true, not_true_eq_false, or_true, true_or, or_false, false_or]
        · simp only [↓eX12_reasons_54, ↓eX12_reasons_55, ↓eX12_reasons_58, ↓eX12_reasons_61, ↓eX12_reasons_62, ↓eX12_reasons_65, ↓eX12_reasons_66, ↓eX12_reasons_67, ↓eX12_reasons_68, ↓eX12_reasons_105, ↓eX12_reasons_106, ↓eX12_reasons_109, ↓eX12_reasons_110, ↓eX12_reasons_111, ↓eX12_reasons_112, ↓eX12_reasons_115, hk35 (hP _), hr35_76 (hP _), hk83 (hP _), hl83 (hP _), i0, i1, gi_rs83, p62, z2, nj, Int.cast_ofNat_Int, kd_si, gr_si, ln_si, gi_same, gi_na, gi_ni, nl_i, nl_r, nl_j, nj_i, nj_l, nj_r, true_and, and_true, and_self, cs_0, cs_1, cs_2, cs_3, cs_4, ↓reduceIte, Nat.reduceLeDiff, Nat.reduceEqDiff, Nat.reduceAdd, Int.reduceLE, Int.reduceLT, Int.reduceEq, Int.reduceAdd, Int.reduceNeg, Int.reduceToNat, Int.toNat_natCast, ne_eq, not_false_eq_true, not_true_eq_false, or_true, true_or, or_false, false_or]
      · have zq : ¬ alQ ti ep b i j = true := by unfold alQ; intro v; rw [Bool.and_eq_true] at v; exact z v.2
        simp only [if_neg z] at fal
        rw [if_neg zq, ← hih]
        simp only [↓eX12_reasons_54, ↓eX12_reasons_55, ↓eX12_reasons_58, ↓eX12_reasons_61, ↓eX12_reasons_62, ↓eX12_reasons_65, ↓eX12_reasons_66, ↓eX12_reasons_67, ↓eX12_reasons_68, ↓eX12_reasons_71, ↓eX12_reasons_72, ↓eX12_reasons_75, ↓eX12_reasons_76, ↓eX12_reasons_77, ↓eX12_reasons_78, ↓eX12_reasons_79, ↓eX12_reasons_80, ↓eX12_reasons_83, ↓eX12_reasons_84, ↓eX12_reasons_85, ↓eX12_reasons_86, ↓eX12_reasons_89, ↓eX12_reasons_92, ↓eX12_reasons_93, ↓eX12_reasons_96, ↓eX12_reasons_97, ↓eX12_reasons_98, ↓eX12_reasons_99, ↓eX12_reasons_102, hk35 (hP _), hr35_76 (hP _), hk83 (hP _), hl83 (hP _), i0, i1, gi_rs83, p62, p63, e1, e2, s1, s2, ↓fal, Int.cast_ofNat_Int, kd_si, gr_si, ln_si, gi_same, gi_na, gi_ni, nl_i, nl_r, nl_j, nj_i, nj_l, nj_r, true_and, and_true, and_self, cs_0, cs_1, cs_2, cs_3, cs_4, ↓reduceIte, Nat.reduceLeDiff, Nat.reduceEqDiff, Nat.reduceAdd, Int.reduceLE, Int.reduceLT, Int.reduceEq, Int.reduceAdd, Int.reduceNeg, Int.reduceToNat, Int.toNat_natCast, ne_eq, not_false_eq_true, not_true_eq_false, or_true, true_or, or_false, false_or]
    · rw [tb_0 q] at s2
      have zq : ¬ alQ ti ep b i j = true := by unfold alQ; intro v; rw [Bool.and_eq_true] at v; exact q v.1
      rw [if_neg zq, ← hih]
      simp only [↓eX12_reasons_54, ↓eX12_reasons_55, ↓eX12_reasons_58, ↓eX12_reasons_61, ↓eX12_reasons_62, ↓eX12_reasons_65, ↓eX12_reasons_66, ↓eX12_reasons_67, ↓eX12_reasons_68, ↓eX12_reasons_71, ↓eX12_reasons_72, ↓eX12_reasons_75, ↓eX12_reasons_76, ↓eX12_reasons_77, ↓eX12_reasons_78, ↓eX12_reasons_79, ↓eX12_reasons_80, ↓eX12_reasons_83, ↓eX12_reasons_84, ↓eX12_reasons_85, ↓eX12_reasons_86, ↓eX12_reasons_89, ↓eX12_reasons_92, ↓eX12_reasons_93, ↓eX12_reasons_96, ↓eX12_reasons_97, ↓eX12_reasons_98, ↓eX12_reasons_99, ↓eX12_reasons_102, hk35 (hP _), hr35_76 (hP _), hk83 (hP _), hl83 (hP _), i0, i1, gi_rs83, p62, p63, e1, e2, s1, s2, Int.cast_ofNat_Int, kd_si, gr_si, ln_si, gi_same, gi_na, gi_ni, nl_i, nl_r, nl_j, nj_i, nj_l, nj_r, true_and, and_true, and_self, cs_0, cs_1, cs_2, cs_3, cs_4, ↓reduceIte, Nat.reduceLeDiff, Nat.reduceEqDiff, Nat.reduceAdd, Int.reduceLE, Int.reduceLT, Int.reduceEq, Int.reduceAdd, Int.reduceNeg, Int.reduceToNat, Int.toNat_natCast, ne_eq, not_false_eq_true, not_true_eq_false, or_true, true_or, or_false, false_or]
theorem y_re_met (hD : RD N n wt fr un ti ep way may) (h63 : gi N 35 63 = (b : Nat)) (hb : b < 16384) {i : Nat} (hi : i < n) {y : Int} : ∀ (r j : Nat) (l w : Int), j + r = n → (l = -1 ∨ (0 ≤ l ∧ l < n ∧ w = wt l.toNat)) → WP (mc (d + 1)) tX12_reasons 140 [vr (some 35), vi (i : Nat), vi (j : Nat)] [] (rsM N i y l) Q = Q vj (rsM N i y (lmf (metR fr un b i) wt r j l w)) := by
  have hD0 := hD
  obtain ⟨h, h0, hn, hj⟩ := hD
  have i0 : (0 ≤ (i : Int)) = True := eq_true (by omega)
  have i1 : ((i : Int) < 14) = True := eq_true (by omega)
  have hP : ∀ z, SH (rsM N i y z) := fun z => h
  have p62 : ∀ z, gi (rsM N i y z) 35 62 = n := fun z => by rw [gi_rso (by decide) (by decide)]; exact h0
  have p63 : ∀ z, gi (rsM N i y z) 35 63 = (b : Nat) := fun z => by rw [gi_rso (by decide) (by decide)]; exact h63
  have p73 : ∀ z j, j < n → gi (rsM N i y z) 73 j = wt j := fun z j hjn => by rw [gi_rso (by decide) (by decide)]; exact (hj j hjn).1
  intro r
  induction r with
  | zero =>
    intro j l w hr hl
    have e : j = n := by omega
    subst e
    rw [eX12_reasons_140]
    simp only [↓eX12_reasons_141, ↓eX12_reasons_142, ↓eX12_reasons_145, ↓eX12_reasons_212, hk35 (hP _), p62, Int.le_refl, lmf, Int.cast_ofNat_Int, kd_si, gr_si, ln_si, gi_same, gi_na, gi_ni, nl_i, nl_r, nl_j, nj_i, nj_l, nj_r, true_and, and_true, and_self, cs_0, cs_1, cs_2, cs_3, cs_4, ↓reduceIte, Nat.reduceLeDiff, Nat.reduceEqDiff, Nat.reduceAdd, Int.reduceLE, Int.reduceLT, Int.reduceEq, Int.reduceAdd, Int.reduceNeg, Int.reduceToNat, Int.toNat_natCast, ne_eq, not_false_eq_true, not_true_eq_false, or_true, true_or, or_false, false_or]
  | succ r ih =>
    intro j l w hr hl
    have hjn : j < n := by omega
    have e1 : ((n : Int) ≤ (j : Int)) = False := eq_false (by omega)
    have e2 : wr ((j : Int) + 1) = ((j + 1 : Nat) : Int) := by rw [wr_id (by omega) (by omega)]; omega
    have j0 : (0 ≤ (j : Int)) = True := eq_true (by omega)
    have j1 : ((j : Int) < 14) = True := eq_true (by omega)
    have s1 := i_shr (s := b) (i := j) hb (by omega)
    have s2 := i_b1 (s := b) (i := j) hb
    have fm := fun (Q : mV → mM → Prop) => y_meet (d := d) (N := rsM N i y l) (Q := Q) (RD_rs hD0) hi hjn
    have h73 := p73 l j hjn
    rw [lmf, eX12_reasons_140]
    by_cases q : b.testBit j = true
    · rw [tb_1 q] at s2
      by_cases z : fr i < un j ∧ fr j < un i
      · have zq : metR fr un b i j = true := by unfold metR; rw [q, decide_eq_true z]; rfl
        simp only [if_pos z] at fm
        by_cases u : l = -1
        · rw [if_pos ⟨zq, Or.inl u⟩, ← ih (j + 1) j (wt j) (by omega) (Or.inr ⟨by omega, by omega, by rw [Int.toNat_natCast]⟩)]
          subst u
          simp only [↓eX12_reasons_141, ↓eX12_reasons_142, ↓eX12_reasons_145, ↓eX12_reasons_148, ↓eX12_reasons_149, ↓eX12_reasons_152, ↓eX12_reasons_153, ↓eX12_reasons_154, ↓eX12_reasons_155, ↓eX12_reasons_156, ↓eX12_reasons_157, ↓eX12_reasons_160, ↓eX12_reasons_161, ↓eX12_reasons_162, ↓eX12_reasons_163, ↓eX12_reasons_166, ↓eX12_reasons_169, ↓eX12_reasons_170, ↓eX12_reasons_173, ↓eX12_reasons_174, ↓eX12_reasons_175, ↓eX12_reasons_176, ↓eX12_reasons_179, ↓eX12_reasons_180, ↓eX12_reasons_183, ↓eX12_reasons_184, ↓eX12_reasons_185, ↓eX12_reasons_186, ↓eX12_reasons_189, ↓eX12_reasons_190, ↓eX12_reasons_193, ↓eX12_reasons_194, ↓eX12_reasons_195, ↓eX12_reasons_196, ↓eX12_reasons_199, ↓eX12_reasons_200, ↓eX12_reasons_203, ↓eX12_reasons_204, ↓eX12_reasons_205, ↓eX12_reasons_206, ↓eX12_reasons_209, hk35 (hP _), hr35_76 (hP _), hk83 (hP _), hl83 (hP _), i0, i1, gi_rs83, p62, p63, e1, e2, s1, s2, ↓fm, rs83, Int.cast_ofNat_Int, kd_si, gr_si, ln_si, gi_same, gi_na, gi_ni, nl_i, nl_r, nl_j, nj_i, nj_l, nj_r, true_and, and_true, and_self, cs_0, cs_1, cs_2, cs_3, cs_4, ↓reduceIte, Nat.reduceLeDiff, Nat.reduceEqDiff, Nat.reduceAdd, Int.reduceLE, Int.reduceLT, Int.reduceEq, Int.reduceAdd, Int.reduceNeg, Int.reduceToNat, Int.toNat_natCast, ne_eq, not_false_eq_true, not_true_eq_false, or_true, true_or, or_false, false_or]
        · obtain ⟨l0, l1, l2⟩ := hl.resolve_left u
          have u' : (l = -1) = False := eq_false u
          have l0' : (0 ≤ l) = True := eq_true l0
          have l1' : (l < 14) = True := eq_true (by omega)
          have hw73 := p73 l l.toNat (by omega)
          by_cases v : wt j < w
          · have v' : (wt l.toNat ≤ wt j) = False := eq_false (by omega)
            rw [if_pos ⟨zq, Or.inr v⟩, ← ih (j + 1) j (wt j) (by omega) (Or.inr ⟨by omega, by omega, by rw [Int.toNat_natCast]⟩)]
            simp only [↓eX12_reasons_141, ↓eX12_reasons_142, ↓eX12_reasons_145, ↓eX12_reasons_148, ↓eX12_reasons_149, ↓eX12_reasons_152, ↓eX12_reasons_153, ↓eX12_reasons_154, ↓eX12_reasons_155, ↓eX12_reasons_156, ↓eX12_reasons_157, ↓eX12_reasons_160, ↓eX12_reasons_161, ↓eX12_reasons_162, ↓eX12_reasons_163, ↓eX12_reasons_166, ↓eX12_reasons_169, ↓eX12_reasons_170, ↓eX12_reasons_173, ↓eX12_reasons_174, ↓eX12_reasons_175, ↓eX12_reasons_176, ↓eX12_reasons_179, ↓eX12_reasons_180, ↓eX12_reasons_183, ↓eX12_reasons_184, ↓eX12_reasons_185, ↓eX12_reasons_186, ↓eX12_reasons_189, ↓eX12_reasons_190, ↓eX12_reasons_193, ↓eX12_reasons_194, ↓eX12_reasons_195, ↓eX12_reasons_196, ↓eX12_reasons_199, ↓eX12_reasons_200, ↓eX12_reasons_203, ↓eX12_reasons_204, ↓eX12_reasons_205, ↓eX12_reasons_206, ↓eX12_reasons_209, hk35 (hP _), hr35_76 (hP _), hr35_66 (hP _), hk83 (hP _), hl83 (hP _), hk73 (hP _), hl73 (hP _), i0, i1, j0, j1, l0', l1', gi_rs83, p62, p63, h73, hw73, e1, e2, s1, s2, u', v', ↓fm, rs83, Int.cast_ofNat_Int, kd_si, gr_si, ln_si, gi_same, gi_na, gi_ni, nl_i, nl_r, nl_j, nj_i, nj_l, nj_r, true_and, and_true, and_self, cs_0, cs_1, cs_2, cs_3, cs_4, ↓reduceIte, Nat.reduceLeDiff, Nat.reduceEqDiff, Nat.reduceAdd, Int.reduceLE, Int.reduceLT, Int.reduceEq, Int.reduceAdd, Int.reduceNeg, Int.reduceToNat, Int.toNat_natCast, ne_eq, not_false_eq_true, not_true_eq_false, or_true, true_or, or_false, false_or]
          · have v' : (wt l.toNat ≤ wt j) = True := eq_true (by omega)
            rw [if_neg (fun x => x.2.elim u v), ← ih (j + 1) l w (by omega) hl]
            simp only [↓eX12_reasons_141, ↓eX12_reasons_142, ↓eX12_reasons_145, ↓eX12_reasons_148, ↓eX12_reasons_149, ↓eX12_reasons_152, ↓eX12_reasons_153, ↓eX12_reasons_154, ↓eX12_reasons_155, ↓eX12_reasons_156, ↓eX12_reasons_157, ↓eX12_reasons_160, ↓eX12_reasons_161, ↓eX12_reasons_162, ↓eX12_reasons_163, ↓eX12_reasons_166, ↓eX12_reasons_169, ↓eX12_reasons_170, ↓eX12_reasons_173, ↓eX12_reasons_174, ↓eX12_reasons_175, ↓eX12_reasons_176, ↓eX12_reasons_179, ↓eX12_reasons_180, ↓eX12_reasons_183, ↓eX12_reasons_184, ↓eX12_reasons_185, ↓eX12_reasons_186, ↓eX12_reasons_189, ↓eX12_reasons_190, ↓eX12_reasons_193, ↓eX12_reasons_194, ↓eX12_reasons_195, ↓eX12_reasons_196, ↓eX12_reasons_199, ↓eX12_reasons_200, ↓eX12_reasons_203, ↓eX12_reasons_204, ↓eX12_reasons_205, ↓eX12_reasons_206, ↓eX12_reasons_209, hk35 (hP _), hr35_76 (hP _), hr35_66 (hP _), hk83 (hP _), hl83 (hP _), hk73 (hP _), hl73 (hP _), i0, i1, j0, j1, l0', l1', gi_rs83, p62, p63, h73, hw73, e1, e2, s1, s2, u', v', ↓fm, Int.cast_ofNat_Int, kd_si, gr_si, ln_si, gi_same, gi_na, gi_ni, nl_i, nl_r, nl_j, nj_i, nj_l, nj_r, true_and, and_true, and_self, cs_0, cs_1, cs_2, cs_3, cs_4, ↓reduceIte, Nat.reduceLeDiff, Nat.reduceEqDiff, Nat.reduceAdd, Int.reduceLE, Int.reduceLT, Int.reduceEq, Int.reduceAdd, Int.reduceNeg, Int.reduceToNat, Int.toNat_natCast, ne_eq, not_false_eq_true, not_true_eq_false, or_true, true_or, or_false, false_or]
      · have zq : ¬ metR fr un b i j = true := by unfold metR; rw [q, decide_eq_false z]; decide
        simp only [if_neg z] at fm
        rw [if_neg (fun x => zq x.1), ← ih (j + 1) l w (by omega) hl]
        simp only [↓eX12_reasons_141, ↓eX12_reasons_142, ↓eX12_reasons_145, ↓eX12_reasons_148, ↓eX12_reasons_149, ↓eX12_reasons_152, ↓eX12_reasons_153, ↓eX12_reasons_154, ↓eX12_reasons_155, ↓eX12_reasons_156, ↓eX12_reasons_157, ↓eX12_reasons_160, ↓eX12_reasons_161, ↓eX12_reasons_162, ↓eX12_reasons_163, ↓eX12_reasons_166, ↓eX12_reasons_169, ↓eX12_reasons_170, ↓eX12_reasons_173, ↓eX12_reasons_174, ↓eX12_reasons_175, ↓eX12_reasons_176, ↓eX12_reasons_179, ↓eX12_reasons_180, ↓eX12_reasons_183, ↓eX12_reasons_184, ↓eX12_reasons_185, ↓eX12_reasons_186, ↓eX12_reasons_189, ↓eX12_reasons_190, ↓eX12_reasons_193, ↓eX12_reasons_194, ↓eX12_reasons_195, ↓eX12_reasons_196, ↓eX12_reasons_199, ↓eX12_reasons_200, ↓eX12_reasons_203, ↓eX12_reasons_204, ↓eX12_reasons_205, ↓eX12_reasons_206, ↓eX12_reasons_209, hk35 (hP _), p62, p63, e1, e2, s1, s2, ↓fm, Int.cast_ofNat_Int, kd_si, gr_si, ln_si, gi_same, gi_na, gi_ni, nl_i, nl_r, nl_j, nj_i, nj_l, nj_r, true_and, and_true, and_self, cs_0, cs_1, cs_2, cs_3, cs_4, ↓reduceIte, Nat.reduceLeDiff, Nat.reduceEqDiff, Nat.reduceAdd, Int.reduceLE, Int.reduceLT, Int.reduceEq, Int.reduceAdd, Int.reduceNeg, Int.reduceToNat, Int.toNat_natCast, ne_eq, not_false_eq_true, not_true_eq_false, or_true, true_or, or_false, false_or]
    · rw [tb_0 q] at s2
      have zq : ¬ metR fr un b i j = true := by unfold metR; intro v; rw [Bool.and_eq_true] at v; exact q v.1
      rw [if_neg (fun x => zq x.1), ← ih (j + 1) l w (by omega) hl]
      simp only [↓eX12_reasons_141, ↓eX12_reasons_142, ↓eX12_reasons_145, ↓eX12_reasons_148, ↓eX12_reasons_149, ↓eX12_reasons_152, ↓eX12_reasons_153, ↓eX12_reasons_154, ↓eX12_reasons_155, ↓eX12_reasons_156, ↓eX12_reasons_157, ↓eX12_reasons_160, ↓eX12_reasons_161, ↓eX12_reasons_162, ↓eX12_reasons_163, ↓eX12_reasons_166, ↓eX12_reasons_169, ↓eX12_reasons_170, ↓eX12_reasons_173, ↓eX12_reasons_174, ↓eX12_reasons_175, ↓eX12_reasons_176, ↓eX12_reasons_179, ↓eX12_reasons_180, ↓eX12_reasons_183, ↓eX12_reasons_184, ↓eX12_reasons_185, ↓eX12_reasons_186, ↓eX12_reasons_189, ↓eX12_reasons_190, ↓eX12_reasons_193, ↓eX12_reasons_194, ↓eX12_reasons_195, ↓eX12_reasons_196, ↓eX12_reasons_199, ↓eX12_reasons_200, ↓eX12_reasons_203, ↓eX12_reasons_204, ↓eX12_reasons_205, ↓eX12_reasons_206, ↓eX12_reasons_209, hk35 (hP _), p62, p63, e1, e2, s1, s2, Int.cast_ofNat_Int, kd_si, gr_si, ln_si, gi_same, gi_na, gi_ni, nl_i, nl_r, nl_j, nj_i, nj_l, nj_r, true_and, and_true, and_self, cs_0, cs_1, cs_2, cs_3, cs_4, ↓reduceIte, Nat.reduceLeDiff, Nat.reduceEqDiff, Nat.reduceAdd, Int.reduceLE, Int.reduceLT, Int.reduceEq, Int.reduceAdd, Int.reduceNeg, Int.reduceToNat, Int.toNat_natCast, ne_eq, not_false_eq_true, not_true_eq_false, or_true, true_or, or_false, false_or]
theorem y_reasons (hD : RD N n wt fr un ti ep way may) (hS : SN n wt fr un way) (h63 : gi N 35 63 = (b : Nat)) (hb : b < 2 ^ n) (h64 : gi N 35 64 = sm (spn fr un) b n) {tu room : Int} (htu : gi N 35 46 = tu) (hro : gi N 35 49 = room) {i : Nat} (hi : i < n) : CP (mc (d + 2)) 179 [vr (some 35), vi (i : Nat)] N Q = Q vj (rsM N i (whyR n b fr un ti ep may tu room i) (byR n b wt fr un ti ep i (whyR n b fr un ti ep may tu room i))) := by
  have hD0 := hD
  obtain ⟨h, h0, hn, hj⟩ := hD
  obtain ⟨-, i2, i3, -, -, -, i7⟩ := hj i hi
  have hb4 := lt16 hn hb
  have sn := (hS i hi).2.1
  have bd := SN_b hS hn b
  have i0 : (0 ≤ (i : Int)) = True := eq_true (by omega)
  have i1 : ((i : Int) < 14) = True := eq_true (by omega)
  have hP : ∀ y z, SH (rsM N i y z) := fun y z => h
  have p63 : ∀ y z, gi (rsM N i y z) 35 63 = (b : Nat) := fun y z => by rw [gi_rso (by decide) (by decide)]; exact h63
  have p64 : ∀ y z, gi (rsM N i y z) 35 64 = sm (spn fr un) b n := fun y z => by rw [gi_rso (by decide) (by decide)]; exact h64
  have p46 : ∀ y z, gi (rsM N i y z) 35 46 = tu := fun y z => by rw [gi_rso (by decide) (by decide)]; exact htu
  have p49 : ∀ y z, gi (rsM N i y z) 35 49 = room := fun y z => by rw [gi_rso (by decide) (by decide)]; exact hro
  have p81 : ∀ y z, gi (rsM N i y z) 81 i = bi (!may i) := fun y z => by rw [gi_rso (by decide) (by decide)]; exact i7
  have p74 : ∀ y z, gi (rsM N i y z) 74 i = fr i := fun y z => by rw [gi_rso (by decide) (by decide)]; exact i2
  have p75 : ∀ y z, gi (rsM N i y z) 75 i = un i := fun y z => by rw [gi_rso (by decide) (by decide)]; exact i3
  have s1 := i_shr (s := b) (i := i) hb4 (by omega)
  have s2 := i_b1 (s := b) (i := i) hb4
  have e0 : si (si N 82 i 0) 83 i (-1) = rsM N i 0 (-1) := rfl
  have start : CP (mc (d + 2)) 179 [vr (some 35), vi (i : Nat)] N Q = WP (mc (d + 1)) tX12_reasons 14 [vr (some 35), vi (i : Nat), vj] [] (rsM N i 0 (-1)) Q := by
    simp only [↓cpX12_reasons, ↓eX12_reasons_0, ↓eX12_reasons_1, ↓eX12_reasons_4, ↓eX12_reasons_5, ↓eX12_reasons_6, ↓eX12_reasons_7, ↓eX12_reasons_8, ↓eX12_reasons_11, ↓eX12_reasons_12, ↓eX12_reasons_13, hk35 h, hr35_75 h, hr35_76 h, hk82 h, hl82 h, hk83 h, hl83 h, i0, i1, e0, Int.cast_ofNat_Int, kd_si, gr_si, ln_si, gi_same, gi_na, gi_ni, nl_i, nl_r, nl_j, nj_i, nj_l, nj_r, true_and, and_true, and_self, cs_0, cs_1, cs_2, cs_3, cs_4, ↓reduceIte, Nat.reduceLeDiff, Nat.reduceEqDiff, Nat.reduceAdd, Int.reduceLE, Int.reduceLT, Int.reduceEq, Int.reduceAdd, Int.reduceNeg, Int.reduceToNat, Int.toNat_natCast, ne_eq, not_false_eq_true, not_true_eq_false, or_true, true_or, or_false, false_or]
  rw [start]
  unfold whyR
  by_cases q : b.testBit i = true
  · rw [tb_1 q] at s2
    rw [if_pos q]
    simp only [↓eX12_reasons_14, ↓eX12_reasons_15, ↓eX12_reasons_18, ↓eX12_reasons_19, ↓eX12_reasons_20, ↓eX12_reasons_21, ↓eX12_reasons_22, ↓eX12_reasons_23, ↓eX12_reasons_26, hk35 (hP _ _), p63, s1, s2, Int.cast_ofNat_Int, kd_si, gr_si, ln_si, gi_same, gi_na, gi_ni, nl_i, nl_r, nl_j, nj_i, nj_l, nj_r, true_and, and_true, and_self, cs_0, cs_1, cs_2, cs_3, cs_4, ↓reduceIte, Nat.reduceLeDiff, Nat.reduceEqDiff, Nat.reduceAdd, Int.reduceLE, Int.reduceLT, Int.reduceEq, Int.reduceAdd, Int.reduceNeg, Int.reduceToNat, Int.toNat_natCast, ne_eq, not_false_eq_true, not_true_eq_false, or_true, true_or, or_false, false_or]
    rfl
  rw [tb_0 q] at s2
  rw [if_neg q]
  cases hm : may i with
  | false =>
    have p81' : ∀ y z, gi (rsM N i y z) 81 i = 1 := fun y z => by rw [p81, hm]; rfl
    rw [if_pos rfl]
    simp only [↓eX12_reasons_14, ↓eX12_reasons_15, ↓eX12_reasons_18, ↓eX12_reasons_19, ↓eX12_reasons_20, ↓eX12_reasons_21, ↓eX12_reasons_22, ↓eX12_reasons_23, ↓eX12_reasons_26, ↓eX12_reasons_27, ↓eX12_reasons_28, ↓eX12_reasons_31, ↓eX12_reasons_32, ↓eX12_reasons_33, ↓eX12_reasons_34, ↓eX12_reasons_35, ↓eX12_reasons_38, ↓eX12_reasons_39, ↓eX12_reasons_40, ↓eX12_reasons_43, hk35 (hP _ _), hr35_75 (hP _ _), hr35_74 (hP _ _), hk82 (hP _ _), hl82 (hP _ _), hk81 (hP _ _), hl81 (hP _ _), i0, i1, p63, p81', s1, s2, rs82, Int.cast_ofNat_Int, kd_si, gr_si, ln_si, gi_same, gi_na, gi_ni, nl_i, nl_r, nl_j, nj_i, nj_l, nj_r, true_and, and_true, and_self, cs_0, cs_1, cs_2, cs_3, cs_4, ↓reduceIte, Nat.reduceLeDiff, Nat.reduceEqDiff, Nat.reduceAdd, Int.reduceLE, Int.reduceLT, Int.reduceEq, Int.reduceAdd, Int.reduceNeg, Int.reduceToNat, Int.toNat_natCast, ne_eq, not_false_eq_true, not_true_eq_false, or_true, true_or, or_false, false_or]
    rfl
  | true =>
    have p81' : ∀ y z, gi (rsM N i y z) 81 i = 0 := fun y z => by rw [p81, hm]; rfl
    rw [if_neg (by decide)]
    have one := y_re_one (d := d) (Q := Q) hD0 h63 hb4 hi (y := 2) n 0 (by omega)
    have one' : WP (mc (d + 1)) tX12_reasons 53 [vr (some 35), vi (i : Nat), vi 0] [] (rsM N i 2 (-1)) Q = _ := one
    have to53 : WP (mc (d + 1)) tX12_reasons 14 [vr (some 35), vi (i : Nat), vj] [] (rsM N i 0 (-1)) Q = WP (mc (d + 1)) tX12_reasons 53 [vr (some 35), vi (i : Nat), vi 0] [] (rsM N i 2 (-1)) Q := by
      simp only [↓eX12_reasons_14, ↓eX12_reasons_15, ↓eX12_reasons_18, ↓eX12_reasons_19, ↓eX12_reasons_20, ↓eX12_reasons_21, ↓eX12_reasons_22, ↓eX12_reasons_23, ↓eX12_reasons_26, ↓eX12_reasons_27, ↓eX12_reasons_28, ↓eX12_reasons_31, ↓eX12_reasons_32, ↓eX12_reasons_33, ↓eX12_reasons_34, ↓eX12_reasons_35, ↓eX12_reasons_38, ↓eX12_reasons_39, ↓eX12_reasons_40, ↓eX12_reasons_43, ↓eX12_reasons_44, ↓eX12_reasons_45, ↓eX12_reasons_48, ↓eX12_reasons_49, ↓eX12_reasons_50, ↓eX12_reasons_51, ↓eX12_reasons_52, hk35 (hP _ _), hr35_75 (hP _ _), hr35_74 (hP _ _), hk82 (hP _ _), hl82 (hP _ _), hk81 (hP _ _), hl81 (hP _ _), i0, i1, p63, p81', s1, s2, rs82, Int.cast_ofNat_Int, kd_si, gr_si, ln_si, gi_same, gi_na, gi_ni, nl_i, nl_r, nl_j, nj_i, nj_l, nj_r, true_and, and_true, and_self, cs_0, cs_1, cs_2, cs_3, cs_4, ↓reduceIte, Nat.reduceLeDiff, Nat.reduceEqDiff, Nat.reduceAdd, Int.reduceLE, Int.reduceLT, Int.reduceEq, Int.reduceAdd, Int.reduceNeg, Int.reduceToNat, Int.toNat_natCast, ne_eq, not_false_eq_true, not_true_eq_false, or_true, true_or, or_false, false_or]
    rw [to53, one']
    by_cases y : ff (alQ ti ep b i) n 0 ≠ -1
    · rw [if_pos y, if_pos y]
      rfl
    · rw [if_neg y, if_neg y]
      have p2 : 2 ^ i < 16384 := Nat.pow_lt_pow_right (a := 2) (n := 14) (by decide) (by omega)
      have o1 := i_or (a := b) (b := 2 ^ i) hb4 p2
      have o2 := i_shl (i := i) (by omega)
      have ft := fun (Q : mV → mM → Prop) => y_isThin (d := d) (M := rsM N i 2 (-1)) (Q := Q) (s := b ||| 2 ^ i) (RD_rs hD0) (or_lt hb4 p2) (p46 2 (-1))
      by_cases z : ff (thQ fr un tu n (b ||| 2 ^ i)) n 0 ≠ -1
      · rw [if_pos z]
        simp only [if_pos z] at ft
        have met := y_re_met (d := d) (Q := Q) hD0 h63 hb4 hi (y := 3) n 0 (-1) 0 (by omega) (Or.inl rfl)
        have met' : WP (mc (d + 1)) tX12_reasons 140 [vr (some 35), vi (i : Nat), vi 0] [] (rsM N i 3 (-1)) Q = _ := met
        simp only [↓eX12_reasons_116, ↓eX12_reasons_117, ↓eX12_reasons_118, ↓eX12_reasons_121, ↓eX12_reasons_122, ↓eX12_reasons_123, ↓eX12_reasons_124, ↓eX12_reasons_125, ↓eX12_reasons_128, ↓eX12_reasons_131, ↓eX12_reasons_132, ↓eX12_reasons_135, ↓eX12_reasons_136, ↓eX12_reasons_137, ↓eX12_reasons_138, ↓eX12_reasons_139, hk35 (hP _ _), hr35_75 (hP _ _), hk82 (hP _ _), hl82 (hP _ _), i0, i1, p63, o1, o2, rs82, ↓ft, Int.cast_ofNat_Int, kd_si, gr_si, ln_si, gi_same, gi_na, gi_ni, nl_i, nl_r, nl_j, nj_i, nj_l, nj_r, true_and, and_true, and_self, cs_0, cs_1, cs_2, cs_3, cs_4, ↓reduceIte, Nat.reduceLeDiff, Nat.reduceEqDiff, Nat.reduceAdd, Int.reduceLE, Int.reduceLT, Int.reduceEq, Int.reduceAdd, Int.reduceNeg, Int.reduceToNat, Int.toNat_natCast, ne_eq, not_false_eq_true, not_true_eq_false, or_true, true_or, or_false, false_or]
        rw [met']
        rfl
      · rw [if_neg z]
        simp only [if_neg z] at ft
        have w1 : wr (sm (spn fr un) b n + un i) = sm (spn fr un) b n + un i := wr_id (by omega) (by omega)
        have w2 : wr (sm (spn fr un) b n + un i - fr i) = sm (spn fr un) b n + spn fr un i := by
          unfold spn at *
          rw [wr_id (by omega) (by omega)]; omega
        by_cases u : room < sm (spn fr un) b n + spn fr un i
        · have u' : (sm (spn fr un) b n + spn fr un i ≤ room) = False := eq_false (by omega)
          rw [if_pos u]
          simp only [↓eX12_reasons_116, ↓eX12_reasons_117, ↓eX12_reasons_118, ↓eX12_reasons_121, ↓eX12_reasons_122, ↓eX12_reasons_123, ↓eX12_reasons_124, ↓eX12_reasons_125, ↓eX12_reasons_128, ↓eX12_reasons_213, ↓eX12_reasons_214, ↓eX12_reasons_217, ↓eX12_reasons_218, ↓eX12_reasons_219, ↓eX12_reasons_222, ↓eX12_reasons_223, ↓eX12_reasons_226, ↓eX12_reasons_227, ↓eX12_reasons_228, ↓eX12_reasons_229, ↓eX12_reasons_230, ↓eX12_reasons_233, ↓eX12_reasons_234, ↓eX12_reasons_235, ↓eX12_reasons_236, ↓eX12_reasons_237, ↓eX12_reasons_240, ↓eX12_reasons_243, ↓eX12_reasons_244, ↓eX12_reasons_247, ↓eX12_reasons_248, ↓eX12_reasons_249, hk35 (hP _ _), hr35_75 (hP _ _), hr35_67 (hP _ _), hr35_68 (hP _ _), hk82 (hP _ _), hl82 (hP _ _), hk74 (hP _ _), hl74 (hP _ _), hk75 (hP _ _), hl75 (hP _ _), i0, i1, p63, p64, p49, p74, p75, w1, w2, u', o1, o2, rs82, ↓ft, Int.cast_ofNat_Int, kd_si, gr_si, ln_si, gi_same, gi_na, gi_ni, nl_i, nl_r, nl_j, nj_i, nj_l, nj_r, true_and, and_true, and_self, cs_0, cs_1, cs_2, cs_3, cs_4, ↓reduceIte, Nat.reduceLeDiff, Nat.reduceEqDiff, Nat.reduceAdd, Int.reduceLE, Int.reduceLT, Int.reduceEq, Int.reduceAdd, Int.reduceNeg, Int.reduceToNat, Int.toNat_natCast, ne_eq, not_false_eq_true, not_true_eq_false, or_true, true_or, or_false, false_or]
          rfl
        · have u' : (sm (spn fr un) b n + spn fr un i ≤ room) = True := eq_true (by omega)
          rw [if_neg u]
          simp only [↓eX12_reasons_116, ↓eX12_reasons_117, ↓eX12_reasons_118, ↓eX12_reasons_121, ↓eX12_reasons_122, ↓eX12_reasons_123, ↓eX12_reasons_124, ↓eX12_reasons_125, ↓eX12_reasons_128, ↓eX12_reasons_213, ↓eX12_reasons_214, ↓eX12_reasons_217, ↓eX12_reasons_218, ↓eX12_reasons_219, ↓eX12_reasons_222, ↓eX12_reasons_223, ↓eX12_reasons_226, ↓eX12_reasons_227, ↓eX12_reasons_228, ↓eX12_reasons_229, ↓eX12_reasons_230, ↓eX12_reasons_233, ↓eX12_reasons_234, ↓eX12_reasons_235, ↓eX12_reasons_236, ↓eX12_reasons_237, ↓eX12_reasons_240, ↓eX12_reasons_243, ↓eX12_reasons_244, ↓eX12_reasons_247, ↓eX12_reasons_248, ↓eX12_reasons_249, hk35 (hP _ _), hr35_75 (hP _ _), hr35_67 (hP _ _), hr35_68 (hP _ _), hk82 (hP _ _), hl82 (hP _ _), hk74 (hP _ _), hl74 (hP _ _), hk75 (hP _ _), hl75 (hP _ _), i0, i1, p63, p64, p49, p74, p75, w1, w2, u', o1, o2, rs82, ↓ft, Int.cast_ofNat_Int, kd_si, gr_si, ln_si, gi_same, gi_na, gi_ni, nl_i, nl_r, nl_j, nj_i, nj_l, nj_r, true_and, and_true, and_self, cs_0, cs_1, cs_2, cs_3, cs_4, ↓reduceIte, Nat.reduceLeDiff, Nat.reduceEqDiff, Nat.reduceAdd, Int.reduceLE, Int.reduceLT, Int.reduceEq, Int.reduceAdd, Int.reduceNeg, Int.reduceToNat, Int.toNat_natCast, ne_eq, not_false_eq_true, not_true_eq_false, or_true, true_or, or_false, false_or]
          rfl
end REAS
/-- both tell the same reasons -/
theorem why_eq {n b j : Nat} {wt fr un ti ep lo way : Nat → Int} {may : Nat → Bool} {tu room : Int} (hS : SN n wt fr un way) (hb : b < 2 ^ n) (hj : j < n) (hth : thinM n fr un tu b) (ho : ∀ i k, i ≠ k → i < n → k < n → decide (lo k = lo i) = alk ti ep i k) : whyP n b fr un lo may tu room j = whyR n b fr un ti ep may tu room j ∧ ∀ y, rivP n b wt fr un lo j y = byR n b wt fr un ti ep j y ∨ b.testBit j = true := by
  by_cases q : b.testBit j = true
  · refine ⟨?_, fun y => Or.inr q⟩
    unfold whyP whyR
    rw [if_pos q, if_pos q]
  · have one : ff (oneQ lo b j) n 0 = ff (alQ ti ep b j) n 0 := ff_congr n 0 (fun i _ hi => by
      unfold oneQ alQ
      by_cases z : b.testBit i = true
      · have ne : j ≠ i := fun e => q (by rw [e]; exact z)
        rw [ho j i ne hj (by omega)]
      · have z' : b.testBit i = false := by simpa using z
        rw [z']; rfl)
    have tb2 : ∀ i, (b ||| 2 ^ j).testBit i = if i = j then true else b.testBit i := fun i => by
      rw [Nat.testBit_or, Nat.testBit_two_pow]
      by_cases z : i = j
      · rw [if_pos z]; simp [z]
      · have : ¬ j = i := fun w => z w.symm
        rw [if_neg z]; simp [this]
    have sm2 : ∀ f : Nat → Int, sm f (b ||| 2 ^ j) n = sm f b n + f j := fun f => by
      have : ∀ k, sm f (b ||| 2 ^ j) k = sm f b k + (if j < k then f j else 0) := by
        intro k
        induction k with
        | zero => rw [if_neg (by omega)]; rfl
        | succ k ih =>
          rw [sm_s, sm_s, ih, tb2]
          by_cases z : k = j
          · subst z
            have a1 : ¬ k < k := by omega
            have a2 : k < k + 1 := by omega
            rw [if_neg a1, if_neg q, if_pos a2]
            simp
          · rw [if_neg z]
            by_cases y : j < k
            · have y2 : j < k + 1 := by omega
              rw [if_pos y, if_pos y2]
              omega
            · have y2 : ¬ j < k + 1 := by omega
              rw [if_neg y, if_neg y2]
              omega
      rw [this n, if_pos hj]
    have slo : ∀ i, slN fr un (fr i) = onN fr un i := fun i => rfl
    have crd : (tu ≤ sm (slN fr un (fr j)) b n ∨ ff (crdQ fr un tu n b j) n 0 ≠ -1) ↔ ff (thQ fr un tu n (b ||| 2 ^ j)) n 0 ≠ -1 := by
      rw [ff_ex, ff_ex]
      have ojj : onN fr un j j = 1 := by
        unfold onN
        rw [if_pos ⟨Int.le_refl _, (hS j hj).2.1.2.1⟩]
      constructor
      · rintro (w | ⟨i, h1, h2, h3⟩)
        · refine ⟨j, Nat.zero_le j, by omega, ?_⟩
          unfold thQ
          rw [tb2, if_pos rfl, Bool.true_and, decide_eq_true_eq, sm2, ojj]
          rw [slo] at w
          omega
        · unfold crdQ at h3
          rw [Bool.and_eq_true, decide_eq_true_eq] at h3
          obtain ⟨h4, h5, h6⟩ := h3
          refine ⟨i, h1, h2, ?_⟩
          have ne : i ≠ j := fun e => q (by rw [← e]; exact h4)
          unfold thQ
          rw [tb2, if_neg ne, h4, Bool.true_and, decide_eq_true_eq, sm2]
          have : onN fr un i j = 1 := by unfold onN; rw [if_pos h5]
          rw [slo] at h6
          omega
      · rintro ⟨i, h1, h2, h3⟩
        unfold thQ at h3
        rw [Bool.and_eq_true, decide_eq_true_eq, tb2, sm2] at h3
        obtain ⟨h4, h5⟩ := h3
        by_cases z : i = j
        · subst z
          rw [ojj] at h5
          rw [slo]
          exact Or.inl (by omega)
        · rw [if_neg z] at h4
          have t := hth i (by omega) h4
          refine Or.inr ⟨i, h1, h2, ?_⟩
          unfold crdQ
          rw [h4, Bool.true_and, decide_eq_true_eq, slo]
          unfold onN at h5 t ⊢
          by_cases y : fr j ≤ fr i ∧ fr i < un j
          · rw [if_pos y] at h5
            exact ⟨y, by omega⟩
          · rw [if_neg y] at h5
            omega
    constructor
    · unfold whyP whyR
      rw [one]
      by_cases z : ff (thQ fr un tu n (b ||| 2 ^ j)) n 0 ≠ -1
      · rw [if_pos z, if_pos (crd.mpr z)]
      · rw [if_neg z, if_neg (fun w => z (crd.mp w))]
    · intro y
      refine Or.inl ?_
      unfold rivP byR
      rw [one, metR_Q]
theorem riv_eq {n b j : Nat} {wt fr un ti ep lo way : Nat → Int} {may : Nat → Bool} {tu room : Int} (hS : SN n wt fr un way) (hb : b < 2 ^ n) (hj : j < n) (hth : thinM n fr un tu b) (ho : ∀ i k, i ≠ k → i < n → k < n → decide (lo k = lo i) = alk ti ep i k) : rivP n b wt fr un lo j (whyP n b fr un lo may tu room j) = byR n b wt fr un ti ep j (whyR n b fr un ti ep may tu room j) := by
  obtain ⟨h1, h2⟩ := why_eq (may := may) (room := room) hS hb hj hth ho
  rw [h1]
  rcases h2 (whyR n b fr un ti ep may tu room j) with w | w
  · exact w
  · have e : whyR n b fr un ti ep may tu room j = 0 := by unfold whyR; rw [if_pos w]
    rw [e]
    rfl
