section TE2
variable {d : Nat} {Q : mV → mM → Prop} {B : Nat → Int} {sz sd : Nat} {T : mM}
theorem go_no {st dp : Nat} {cm : Bool} {k : Int} (h : st = 0) (h1 : k ≠ 23) (h2 : k ≠ 24) : ¬ goes st dp cm k := by
  intro g
  rcases g with g | g | g | g | g | g | g
  · exact g.2.elim h1 h2
  all_goals exact absurd (g.1.symm.trans h) (by decide)
/-- the amount of a wish -/
theorem y_tr_amount {k0 R : Nat} {N0 : mM} {wp : Int} {me : Nat → Env → Int} {mt : Nat → Int} (hT : TKB B sz T) (hsd : sd ≤ 1) (h0 : SH N0) (h38 : ∀ a i, 38 ≤ a → a ≤ 40 → gi N0 a i = gi T a i)
    (hQ1 : ∀ k P, k0 < k → ok B sz k → (sg B sz k).1 = 0 → RT sd k P (sg B sz k) → YF (rmS sd) N0 P → Q vj P) (hQ2 : ∀ k P, FL B sz k P → YF (rmS sd) N0 P → Q vj P)
    {k nt c n : Nat} {A O : Env → Int} {ck : Int} {L : Env → Int} {N : mM} {a3 a4 : mV} (hk0 : k0 < k) (hk : ok B sz k) (hs : sg B sz k = (1, 0, false, 0, wp, nt, R, me, mt, 0, A, O, ck, L, [], fun _ => [])) (yN : YF (rmS sd) N0 N) (g11 : gi N 35 11 = k) (g13 : gi N 35 13 = 0) (g12 : gi N 35 12 = 0) (g19 : gi N 35 19 = sd) (g43 : gi N 43 sd = R) (gw : WPR N wp) (hwp : wp ≤ bg B sz k) (g29 : gi N 35 29 = (500 * sd + c : Nat)) (hc : c ≤ k) (g46 : gi N 46 sd = n) (hn : n + 1 ≤ k) (hfr : fr N sd R = n) (hM : MRU N sd R me mt c) (hR : R < 20) :
    WP (mc (d + 5)) tX12_tellRule 93 [vr (some 35), vi (20 * sd + R : Nat), vi 1, a3, a4] [] N Q := by
  have hN := YF_SH yN h0
  have k4 := ok_400 hk
  have hnt := sg_n hs
  have e11 : rmS sd 35 11 := Or.inl ⟨rfl, Or.inl (by decide)⟩
  have e13 : rmS sd 35 13 := Or.inl ⟨rfl, Or.inl (by decide)⟩
  have e14 : rmS sd 35 14 := Or.inl ⟨rfl, Or.inl (by decide)⟩
  have e15 : rmS sd 35 15 := Or.inl ⟨rfl, Or.inl (by decide)⟩
  have e16 : rmS sd 35 16 := Or.inl ⟨rfl, Or.inl (by decide)⟩
  have e44 : rmS sd 44 (20 * sd + R) := Or.inr (Or.inr (Or.inl ⟨rfl, by omega, by omega⟩))
  have g38 : gi N 38 k = gi T 38 k := by rw [yN.2 38 k (by unfold rmS; omega)]; exact h38 38 k (by decide) (by decide)
  have g39 : gi N 39 k = gi T 39 k := by rw [yN.2 39 k (by unfold rmS; omega)]; exact h38 39 k (by decide) (by decide)
  have g40 : gi N 40 k = gi T 40 k := by rw [yN.2 40 k (by unfold rmS; omega)]; exact h38 40 k (by decide) (by decide)
  have synt : gi N 38 k ≠ 2 → (bg B sz k < sz → ¬ goes 1 0 false (tk B sz k)) → WP (mc (d + 5)) tX12_tellRule 93 [vr (some 35), vi (20 * sd + R : Nat), vi 1, a3, a4] [] N Q := fun m hns => by
    have fm := fun (Q : mV → mM → Prop) => y_mustN (d := d + 2) (N := N) (Q := Q) (k := k) (c := 2) hN g11 k4 g13 m
    have fl : FL B sz k (si (si N 35 13 1) 35 14 (gi N 39 k)) := FL_syn hT hk hs (by decide) hns (by simp only [Int.cast_ofNat_Int, kd_si, gr_si, ln_si, gi_same, gi_na, gi_ni, nl_i, nl_r, nl_j, nj_i, nj_l, nj_r, true_and, and_true, and_self, cs_0, cs_1, cs_2, cs_3, cs_4, ↓reduceIte, Nat.reduceLeDiff, Nat.reduceEqDiff, Nat.reduceAdd, Int.reduceLE, Int.reduceLT, Int.reduceEq, Int.reduceAdd, Int.reduceNeg, Int.reduceToNat, Int.toNat_natCast, ne_eq, not_false_eq_true, not_true_eq_false, or_true, true_or, or_false, false_or]) (by rw [gi_same, g39]) (by simp only [Int.cast_ofNat_Int, kd_si, gr_si, ln_si, gi_same, gi_na, gi_ni, nl_i, nl_r, nl_j, nj_i, nj_l, nj_r, true_and, and_true, and_self, cs_0, cs_1, cs_2, cs_3, cs_4, ↓reduceIte, Nat.reduceLeDiff, Nat.reduceEqDiff, Nat.reduceAdd, Int.reduceLE, Int.reduceLT, Int.reduceEq, Int.reduceAdd, Int.reduceNeg, Int.reduceToNat, Int.toNat_natCast, ne_eq, not_false_eq_true, not_true_eq_false, or_true, true_or, or_false, false_or]; exact g11)
    simp only [↓eX12_tellRule_93, ↓eX12_tellRule_94, ↓eX12_tellRule_97, ↓eX12_tellRule_98, ↓eX12_tellRule_99, ↓eX12_tellRule_100, ↓eX12_tellRule_103, ↓eX12_tellRule_104, ↓eX12_tellRule_107, ↓eX12_tellRule_110, hk35 hN, g11, ↓fm, Int.cast_ofNat_Int, kd_si, gr_si, ln_si, gi_same, gi_na, gi_ni, nl_i, nl_r, nl_j, nj_i, nj_l, nj_r, true_and, and_true, and_self, cs_0, cs_1, cs_2, cs_3, cs_4, ↓reduceIte, Nat.reduceLeDiff, Nat.reduceEqDiff, Nat.reduceAdd, Int.reduceLE, Int.reduceLT, Int.reduceEq, Int.reduceAdd, Int.reduceNeg, Int.reduceToNat, Int.toNat_natCast, ne_eq, not_false_eq_true, not_true_eq_false, or_true, true_or, or_false, false_or]
    exact hQ2 k _ fl (YF_si e14 (YF_si e13 yN))
  rcases tokL hT hk with ⟨b1, b2, b3, b4⟩ | ⟨b1, b2, -⟩
  · have c2 := KR_c b2 (c := 1) (by decide) (by decide)
    by_cases z : tk B sz k = 1
    · have m2 : gi N 38 k = 2 := by rw [g38]; exact c2.mpr z
      have hv : gi N 40 k = tvv B sz k := by rw [g40]; exact b4 z
      have vr' := tk_1 (B := B) (sz := sz) (i := bg B sz k) z
      have hgo : goes 1 0 false (tk B sz k) := Or.inr (Or.inl ⟨rfl, z⟩)
      clear c2 b2 b4
      by_cases k40 : k = 400
      · subst k40
        have fm := fun (Q : mV → mM → Prop) => y_mustF (d := d + 2) (N := N) (Q := Q) (c := 2) hN g11 g13 m2
        have fl : FL B sz 400 (si (si N 35 13 2) 35 14 (gi N 39 400)) := FL_room hT hk hs b1 hgo (Or.inl (by omega)) (by simp only [Int.cast_ofNat_Int, kd_si, gr_si, ln_si, gi_same, gi_na, gi_ni, nl_i, nl_r, nl_j, nj_i, nj_l, nj_r, true_and, and_true, and_self, cs_0, cs_1, cs_2, cs_3, cs_4, ↓reduceIte, Nat.reduceLeDiff, Nat.reduceEqDiff, Nat.reduceAdd, Int.reduceLE, Int.reduceLT, Int.reduceEq, Int.reduceAdd, Int.reduceNeg, Int.reduceToNat, Int.toNat_natCast, ne_eq, not_false_eq_true, not_true_eq_false, or_true, true_or, or_false, false_or]) (by rw [gi_same, g39]) (by simp only [Int.cast_ofNat_Int, kd_si, gr_si, ln_si, gi_same, gi_na, gi_ni, nl_i, nl_r, nl_j, nj_i, nj_l, nj_r, true_and, and_true, and_self, cs_0, cs_1, cs_2, cs_3, cs_4, ↓reduceIte, Nat.reduceLeDiff, Nat.reduceEqDiff, Nat.reduceAdd, Int.reduceLE, Int.reduceLT, Int.reduceEq, Int.reduceAdd, Int.reduceNeg, Int.reduceToNat, Int.toNat_natCast, ne_eq, not_false_eq_true, not_true_eq_false, or_true, true_or, or_false, false_or]; exact g11)
        have g11' : gi N 35 11 = 400 := g11
        simp only [↓eX12_tellRule_93, ↓eX12_tellRule_94, ↓eX12_tellRule_97, ↓eX12_tellRule_98, ↓eX12_tellRule_99, ↓eX12_tellRule_100, ↓eX12_tellRule_103, ↓eX12_tellRule_104, ↓eX12_tellRule_107, ↓eX12_tellRule_110, hk35 hN, g11', ↓fm, Int.cast_ofNat_Int, kd_si, gr_si, ln_si, gi_same, gi_na, gi_ni, nl_i, nl_r, nl_j, nj_i, nj_l, nj_r, true_and, and_true, and_self, cs_0, cs_1, cs_2, cs_3, cs_4, ↓reduceIte, Nat.reduceLeDiff, Nat.reduceEqDiff, Nat.reduceAdd, Int.reduceLE, Int.reduceLT, Int.reduceEq, Int.reduceAdd, Int.reduceNeg, Int.reduceToNat, Int.toNat_natCast, ne_eq, not_false_eq_true, not_true_eq_false, or_true, true_or, or_false, false_or]
        exact hQ2 400 _ fl (YF_si e14 (YF_si e13 yN))
      · have fm := fun (Q : mV → mM → Prop) => y_mustY (d := d + 2) (N := N) (Q := Q) (k := k) (c := 2) hN g11 (by omega) g13 m2
        have mm : ¬ much 1 0 nt R (tk B sz k) := by
          intro m
          rcases m with m | m | m
          · omega
          · exact absurd m.1 (by decide)
          · rw [z] at m; exact absurd m.1 (by decide)
        obtain ⟨ok1, sg1⟩ := ok_go hk hs b1 hgo mm
        have sg2 : sg B sz (k + 1) = (2, 0, false, tvv B sz k, (if wp = -1 ∧ (tvv B sz k < 1 ∨ 1000 < tvv B sz k) then (bg B sz k : Int) else wp), nt + 1, R, me, mt, 0, A, O, ck, L, [], fun _ => []) := by rw [sg1]; rfl
        have r0 : (0 ≤ ((20 * sd + R : Nat) : Int)) = True := eq_true (by omega)
        have r1 : (((20 * sd + R : Nat) : Int) < 40) = True := eq_true (by omega)
        have i0 : (0 ≤ (k : Int)) = True := eq_true (by omega)
        have i1 : ((k : Int) < 403) = True := eq_true (by omega)
        obtain ⟨S, hS⟩ : ∃ S, S = si (si N 35 11 (k + 1 : Nat)) 44 (20 * sd + R) (tvv B sz k) := ⟨_, rfl⟩
        have sS : SH S := by rw [hS]; exact hN
        have yS : YF (rmS sd) N0 S := by rw [hS]; exact YF_si e44 (YF_si e11 yN)
        have o35 : ∀ i, i ≠ 11 → gi S 35 i = gi N 35 i := fun i hi => by rw [hS, gi_na (by decide), gi_ni hi]
        have oth : ∀ a i, a ≠ 35 → a ≠ 44 → gi S a i = gi N a i := fun a i h1 h2 => by rw [hS, gi_na h2, gi_na h1]
        have S11 : gi S 35 11 = (k + 1 : Nat) := by rw [hS, gi_na (by decide), gi_same]
        have S44 : gi S 44 (20 * sd + R) = tvv B sz k := by rw [hS, gi_same]
        have wS : WPR S wp := by
          unfold WPR at gw ⊢
          rw [o35 15 (by decide), o35 16 (by decide)]
          exact gw
        have frS : fr S sd R = n := by unfold fr at hfr ⊢; rw [oth 45 _ (by decide) (by decide)]; exact hfr
        have MS : MRU S sd R me mt c := MRU_f (fun r hr => oth 45 _ (by decide) (by decide)) (fun r hr => by rw [hS, gi_ni (by omega), gi_na (by decide)]) (fun a i h1 h2 _ => oth a _ (fun w => by omega) (fun w => by omega)) (fun j _ => ⟨oth 52 j (by decide) (by decide), oth 53 j (by decide) (by decide)⟩) (Nat.le_refl _) hM
        -- at the if
        have fin : ∀ P wp2, wp2 = (if wp = -1 ∧ (tvv B sz k < 1 ∨ 1000 < tvv B sz k) then (bg B sz k : Int) else wp) → YF (rmS sd) N0 P → (∀ a i, ¬ (a = 35 ∧ (i = 15 ∨ i = 16)) → gi P a i = gi S a i) → WPR P wp2 → ∀ a3 a4, WP (mc (d + 5)) tX12_tellRule 151 [vr (some 35), vi (20 * sd + R : Nat), vi 1, a3, a4] [] P Q := fun P wp2 hw2 yP hP wP a3 a4 => by
          rw [← hw2] at sg2
          have p : ∀ a i, a ≠ 35 → gi P a i = gi S a i := fun a i ha => hP a i (fun w => ha w.1)
          have q : ∀ i, i ≠ 15 → i ≠ 16 → gi P 35 i = gi S 35 i := fun i h1 h2 => hP 35 i (fun w => w.2.elim h1 h2)
          exact y_tr_if (k0 := k0) hT hsd h0 h38 hQ1 hQ2 (by omega) ok1 sg2 yP (by rw [q 11 (by decide) (by decide)]; exact S11) (by rw [q 13 (by decide) (by decide), o35 13 (by decide)]; exact g13) (by rw [q 12 (by decide) (by decide), o35 12 (by decide)]; exact g12) (by rw [q 19 (by decide) (by decide), o35 19 (by decide)]; exact g19) (by rw [p 43 _ (by decide), oth 43 _ (by decide) (by decide)]; exact g43) wP (by rw [q 29 (by decide) (by decide), o35 29 (by decide)]; exact g29) (by omega) (by rw [p 46 _ (by decide), oth 46 _ (by decide) (by decide)]; exact g46) (by omega) (by unfold fr at frS ⊢; rw [p 45 _ (by decide)]; exact frS) (MRU_f (fun r hr => p 45 _ (by decide)) (fun r hr => p 44 _ (by decide)) (fun a i h1 h2 _ => p a _ (fun w => by omega)) (fun j _ => ⟨p 52 j (by decide), p 53 j (by decide)⟩) (Nat.le_refl _) MS) (by rw [p 44 _ (by decide)]; exact S44) (nlI _)
        have v40 : ∀ x, gi (si N 35 11 x) 40 k = tvv B sz k := fun x => by rw [gi_na (by decide)]; exact hv
        have v41 : gi S 40 k = tvv B sz k := by rw [oth 40 _ (by decide) (by decide)]; exact hv
        have step : WP (mc (d + 5)) tX12_tellRule 93 [vr (some 35), vi (20 * sd + R : Nat), vi 1, a3, a4] [] N Q = WP (mc (d + 5)) tX12_tellRule 123 [vr (some 35), vi (20 * sd + R : Nat), vi 1, vi k, a4] [] S Q := by
          rw [hS]
          simp only [↓eX12_tellRule_93, ↓eX12_tellRule_94, ↓eX12_tellRule_97, ↓eX12_tellRule_98, ↓eX12_tellRule_99, ↓eX12_tellRule_100, ↓eX12_tellRule_103, ↓eX12_tellRule_104, ↓eX12_tellRule_107, ↓eX12_tellRule_110, ↓eX12_tellRule_111, ↓eX12_tellRule_112, ↓eX12_tellRule_115, ↓eX12_tellRule_116, ↓eX12_tellRule_117, ↓eX12_tellRule_120, ↓eX12_tellRule_121, ↓eX12_tellRule_122, hk35 hN, hr35_7 hN, hr35_21 hN, hk40 hN, hl40 hN, hk44 hN, hl44 hN, g11, g13, ↓fm, v40, r0, r1, i0, i1, Int.le_refl, Int.cast_ofNat_Int, kd_si, gr_si, ln_si, gi_same, gi_na, gi_ni, nl_i, nl_r, nl_j, nj_i, nj_l, nj_r, true_and, and_true, and_self, cs_0, cs_1, cs_2, cs_3, cs_4, ↓reduceIte, Nat.reduceLeDiff, Nat.reduceEqDiff, Nat.reduceAdd, Int.reduceLE, Int.reduceLT, Int.reduceEq, Int.reduceAdd, Int.reduceNeg, Int.reduceToNat, Int.toNat_natCast, ne_eq, not_false_eq_true, not_true_eq_false, or_true, true_or, or_false, false_or]
        rw [step]
        have fw := fun (Q : mV → mM → Prop) => y_wrong (d := d + 4) (Q := Q) (N := S) (wp := wp) (k := k) (p := (bg B sz k : Nat)) sS k4 (by rw [o35 13 (by decide)]; exact g13) (by rw [oth 39 _ (by decide) (by decide), g39]; exact b3) wS hwp
        have bad : tvv B sz k < 1 ∨ 1000 < tvv B sz k → ∀ a3, WP (mc (d + 5)) tX12_tellRule 151 [vr (some 35), vi (20 * sd + R : Nat), vi 1, a3, a4] [] (if wp = -1 then si (si S 35 15 5) 35 16 (bg B sz k : Nat) else S) Q := fun hbad a3 => by
          by_cases y : wp = -1
          · rw [if_pos y]
            refine fin _ (bg B sz k : Nat) (by rw [if_pos ⟨y, hbad⟩]) (YF_si e16 (YF_si e15 yS)) (fun a i w => ?_) (Or.inr ⟨by omega, by simp only [Int.cast_ofNat_Int, kd_si, gr_si, ln_si, gi_same, gi_na, gi_ni, nl_i, nl_r, nl_j, nj_i, nj_l, nj_r, true_and, and_true, and_self, cs_0, cs_1, cs_2, cs_3, cs_4, ↓reduceIte, Nat.reduceLeDiff, Nat.reduceEqDiff, Nat.reduceAdd, Int.reduceLE, Int.reduceLT, Int.reduceEq, Int.reduceAdd, Int.reduceNeg, Int.reduceToNat, Int.toNat_natCast, ne_eq, not_false_eq_true, not_true_eq_false, or_true, true_or, or_false, false_or], by simp only [Int.cast_ofNat_Int, kd_si, gr_si, ln_si, gi_same, gi_na, gi_ni, nl_i, nl_r, nl_j, nj_i, nj_l, nj_r, true_and, and_true, and_self, cs_0, cs_1, cs_2, cs_3, cs_4, ↓reduceIte, Nat.reduceLeDiff, Nat.reduceEqDiff, Nat.reduceAdd, Int.reduceLE, Int.reduceLT, Int.reduceEq, Int.reduceAdd, Int.reduceNeg, Int.reduceToNat, Int.toNat_natCast, ne_eq, not_false_eq_true, not_true_eq_false, or_true, true_or, or_false, false_or]⟩) _ _
            rw [gi_si, if_neg (fun q => w ⟨q.1, Or.inr q.2⟩), gi_si, if_neg (fun q => w ⟨q.1, Or.inl q.2⟩)]
          · rw [if_neg y]
            exact fin S wp (by rw [if_neg (fun w => y w.1)]) yS (fun _ _ _ => rfl) wS _ _
        by_cases z1 : tvv B sz k < 1
        · have := bad (Or.inl z1) (vi k)
          simp only [↓eX12_tellRule_123, ↓eX12_tellRule_124, ↓eX12_tellRule_127, ↓eX12_tellRule_128, ↓eX12_tellRule_129, ↓eX12_tellRule_130, ↓eX12_tellRule_133, ↓eX12_tellRule_134, ↓eX12_tellRule_137, ↓eX12_tellRule_138, ↓eX12_tellRule_139, ↓eX12_tellRule_142, ↓eX12_tellRule_145, ↓eX12_tellRule_146, ↓eX12_tellRule_147, ↓eX12_tellRule_148, hk35 sS, hr35_7 sS, hk40 sS, hl40 sS, v41, z1, i0, i1, ↓fw, Int.cast_ofNat_Int, kd_si, gr_si, ln_si, gi_same, gi_na, gi_ni, nl_i, nl_r, nl_j, nj_i, nj_l, nj_r, true_and, and_true, and_self, cs_0, cs_1, cs_2, cs_3, cs_4, ↓reduceIte, Nat.reduceLeDiff, Nat.reduceEqDiff, Nat.reduceAdd, Int.reduceLE, Int.reduceLT, Int.reduceEq, Int.reduceAdd, Int.reduceNeg, Int.reduceToNat, Int.toNat_natCast, ne_eq, not_false_eq_true, not_true_eq_false, or_true, true_or, or_false, false_or]
          exact this
        · by_cases z2 : 1000 < tvv B sz k
          · have z2' : (tvv B sz k ≤ 1000) = False := eq_false (by omega)
            have := bad (Or.inr z2) (vi k)
            simp only [↓eX12_tellRule_123, ↓eX12_tellRule_124, ↓eX12_tellRule_127, ↓eX12_tellRule_128, ↓eX12_tellRule_129, ↓eX12_tellRule_130, ↓eX12_tellRule_133, ↓eX12_tellRule_134, ↓eX12_tellRule_137, ↓eX12_tellRule_138, ↓eX12_tellRule_139, ↓eX12_tellRule_142, ↓eX12_tellRule_145, ↓eX12_tellRule_146, ↓eX12_tellRule_147, ↓eX12_tellRule_148, hk35 sS, hr35_7 sS, hk40 sS, hl40 sS, v41, z1, z2', i0, i1, ↓fw, Int.cast_ofNat_Int, kd_si, gr_si, ln_si, gi_same, gi_na, gi_ni, nl_i, nl_r, nl_j, nj_i, nj_l, nj_r, true_and, and_true, and_self, cs_0, cs_1, cs_2, cs_3, cs_4, ↓reduceIte, Nat.reduceLeDiff, Nat.reduceEqDiff, Nat.reduceAdd, Int.reduceLE, Int.reduceLT, Int.reduceEq, Int.reduceAdd, Int.reduceNeg, Int.reduceToNat, Int.toNat_natCast, ne_eq, not_false_eq_true, not_true_eq_false, or_true, true_or, or_false, false_or]
            exact this
          · have z2' : (tvv B sz k ≤ 1000) = True := eq_true (by omega)
            simp only [↓eX12_tellRule_123, ↓eX12_tellRule_124, ↓eX12_tellRule_127, ↓eX12_tellRule_128, ↓eX12_tellRule_129, ↓eX12_tellRule_130, ↓eX12_tellRule_133, ↓eX12_tellRule_134, ↓eX12_tellRule_137, ↓eX12_tellRule_138, ↓eX12_tellRule_139, ↓eX12_tellRule_142, ↓eX12_tellRule_145, ↓eX12_tellRule_146, ↓eX12_tellRule_147, ↓eX12_tellRule_148, hk35 sS, hr35_7 sS, hk40 sS, hl40 sS, v41, z1, z2', i0, i1, ↓fw, Int.cast_ofNat_Int, kd_si, gr_si, ln_si, gi_same, gi_na, gi_ni, nl_i, nl_r, nl_j, nj_i, nj_l, nj_r, true_and, and_true, and_self, cs_0, cs_1, cs_2, cs_3, cs_4, ↓reduceIte, Nat.reduceLeDiff, Nat.reduceEqDiff, Nat.reduceAdd, Int.reduceLE, Int.reduceLT, Int.reduceEq, Int.reduceAdd, Int.reduceNeg, Int.reduceToNat, Int.toNat_natCast, ne_eq, not_false_eq_true, not_true_eq_false, or_true, true_or, or_false, false_or]
            exact fin S wp (by rw [if_neg (fun w => w.2.elim z1 z2)]) yS (fun _ _ _ => rfl) wS _ _
    · refine synt (by rw [g38]; exact fun w => z (c2.mp w)) (fun _ g => ?_)
      rcases g with g | g | g | g | g | g | g
      · exact absurd g.1 (by decide)
      · exact z g.2
      · exact absurd g.1 (by decide)
      · exact absurd g.1 (by decide)
      · exact absurd g.1 (by decide)
      · exact absurd g.1 (by decide)
      · exact absurd g.1 (by decide)
  · exact synt (by rw [g38, b2]; decide) (fun q => by rw [b1] at q; exact absurd q (Nat.lt_irrefl _))
theorem y_tellRule {N : mM} {k : Nat} (hT : TKB B sz T) (hsd : sd ≤ 1) (h : SH N) (h38 : ∀ a i, 38 ≤ a → a ≤ 40 → gi N a i = gi T a i) (hk : ok B sz k) (hb : bg B sz k < sz) (h0 : (sg B sz k).1 = 0) (hR : RT sd k N (sg B sz k))
    (hQ1 : ∀ k' P, k < k' → ok B sz k' → (sg B sz k').1 = 0 → RT sd k' P (sg B sz k') → YF (rmS sd) N P → Q vj P) (hQ2 : ∀ k' P, FL B sz k' P → YF (rmS sd) N P → Q vj P) : CP (mc (d + 6)) 141 [vr (some 35)] N Q := by
  have hwp := (sg_wp k hk).1
  obtain ⟨am, wp, nt, R, me, mt, A, O, ck, L, hs⟩ := st0 hk h0
  rw [hs] at hR hwp
  have hwp' : wp ≤ bg B sz k := hwp
  obtain ⟨g11, g13, g12, g19, g43, gw, c, n, g29, hc, g46, hn, hfr, hM⟩ := hR
  have k4 := ok_400 hk
  have hnt := sg_n hs
  have hR20 : R ≤ 20 := by
    have p := sg_PI k hk
    rw [hs] at p
    exact p.2.2.2.1
  have e11 : rmS sd 35 11 := Or.inl ⟨rfl, Or.inl (by decide)⟩
  have e13 : rmS sd 35 13 := Or.inl ⟨rfl, Or.inl (by decide)⟩
  have e14 : rmS sd 35 14 := Or.inl ⟨rfl, Or.inl (by decide)⟩
  have g38 := h38 38 k (by decide) (by decide)
  have g39 := h38 39 k (by decide) (by decide)
  have fis := fun (Q : mV → mM → Prop) (c : Int) => y_is (d := d + 4) (N := N) (Q := Q) (c := c) h g11 k4
  have ff := fun (Q : mV → mM → Prop) (c : Int) => y_fail (d := d + 4) (N := N) (Q := Q) (c := c) h g11 k4 g13
  have sd0 : (0 ≤ (sd : Int)) = True := eq_true (by omega)
  have sd1 : ((sd : Int) < 2) = True := eq_true (by omega)
  have b2 : KR (tk B sz k) (gi N 38 k) := by
    rw [g38]
    rcases tokL hT hk with ⟨-, b2, -, -⟩ | ⟨b1, -⟩
    · exact b2
    · rw [b1] at hb; exact absurd hb (Nat.lt_irrefl _)
  obtain ⟨mk, hmk⟩ : ∃ mk, gi N 38 k = mk := ⟨_, rfl⟩
  rw [hmk] at b2
  have c20 := KR_c b2 (c := 23) (by decide) (by decide)
  have c22 := KR_c b2 (c := 24) (by decide) (by decide)
  by_cases zw : ¬ (tk B sz k = 23 ∨ tk B sz k = 24)
  · have m20 : (mk = 20) = False := eq_false (fun w => zw (Or.inl (c20.mp w)))
    have m22 : (mk = 22) = False := eq_false (fun w => zw (Or.inr (c22.mp w)))
    have fl : FL B sz k (si (si N 35 13 1) 35 14 (gi N 39 k)) := by
      rcases tokL hT hk with ⟨b1, -, b3, -⟩ | ⟨b1, -⟩
      · have e : flt (sg B sz k) (tk B sz k) = 1 := by
          rw [hs]
          unfold flt
          simp only [if_pos (go_no (dp := 0) (cm := false) (st := 0) rfl (fun w => zw (Or.inl w)) (fun w => zw (Or.inr w)))]
        have rf : rsF B sz k = 1 := by unfold rsF; rw [if_pos b1, e]
        refine ⟨⟨hk, Or.inr ⟨b1, by rw [e]; decide⟩⟩, by rw [rf]; simp only [Int.cast_ofNat_Int, kd_si, gr_si, ln_si, gi_same, gi_na, gi_ni, nl_i, nl_r, nl_j, nj_i, nj_l, nj_r, true_and, and_true, and_self, cs_0, cs_1, cs_2, cs_3, cs_4, ↓reduceIte, Nat.reduceLeDiff, Nat.reduceEqDiff, Nat.reduceAdd, Int.reduceLE, Int.reduceLT, Int.reduceEq, Int.reduceAdd, Int.reduceNeg, Int.reduceToNat, Int.toNat_natCast, ne_eq, not_false_eq_true, not_true_eq_false, or_true, true_or, or_false, false_or], by rw [rf]; decide, ?_, k, k4, by simp only [Int.cast_ofNat_Int, kd_si, gr_si, ln_si, gi_same, gi_na, gi_ni, nl_i, nl_r, nl_j, nj_i, nj_l, nj_r, true_and, and_true, and_self, cs_0, cs_1, cs_2, cs_3, cs_4, ↓reduceIte, Nat.reduceLeDiff, Nat.reduceEqDiff, Nat.reduceAdd, Int.reduceLE, Int.reduceLT, Int.reduceEq, Int.reduceAdd, Int.reduceNeg, Int.reduceToNat, Int.toNat_natCast, ne_eq, not_false_eq_true, not_true_eq_false, or_true, true_or, or_false, false_or]; exact g11⟩
        unfold rsP
        rw [if_pos b1, gi_same, g39, b3]
      · rw [b1] at hb; exact absurd hb (Nat.lt_irrefl _)
    simp only [↓cpX12_tellRule, ↓eX12_tellRule_0, ↓eX12_tellRule_1, ↓eX12_tellRule_3, ↓eX12_tellRule_6, ↓eX12_tellRule_9, ↓eX12_tellRule_10, ↓eX12_tellRule_12, ↓eX12_tellRule_15, ↓eX12_tellRule_18, ↓eX12_tellRule_19, ↓eX12_tellRule_20, ↓eX12_tellRule_23, ↓eX12_tellRule_26, ↓eX12_tellRule_27, ↓eX12_tellRule_30, ↓eX12_tellRule_31, ↓eX12_tellRule_34, ↓eX12_tellRule_35, ↓eX12_tellRule_37, ↓eX12_tellRule_40, ↓eX12_tellRule_41, ↓eX12_tellRule_42, ↓eX12_tellRule_45, ↓eX12_tellRule_46, ↓eX12_tellRule_49, ↓eX12_tellRule_52, hk35 h, ↓fis, ↓ff, g13, hmk, m20, m22, and_false, Int.cast_ofNat_Int, kd_si, gr_si, ln_si, gi_same, gi_na, gi_ni, nl_i, nl_r, nl_j, nj_i, nj_l, nj_r, true_and, and_true, and_self, cs_0, cs_1, cs_2, cs_3, cs_4, ↓reduceIte, Nat.reduceLeDiff, Nat.reduceEqDiff, Nat.reduceAdd, Int.reduceLE, Int.reduceLT, Int.reduceEq, Int.reduceAdd, Int.reduceNeg, Int.reduceToNat, Int.toNat_natCast, ne_eq, not_false_eq_true, not_true_eq_false, or_true, true_or, or_false, false_or]
    exact hQ2 k _ fl (YF_si e14 (YF_si e13 YF_refl))
  have zw := Decidable.not_not.mp zw
  have hgo : goes 0 0 false (tk B sz k) := Or.inl ⟨rfl, zw⟩
  by_cases zR : R = 20
  · have gR : gi N 43 sd = 20 := by rw [g43, zR]; rfl
    have fl : FL B sz k (si (si N 35 13 2) 35 14 (gi N 39 k)) := FL_room hT hk hs hb hgo (Or.inr (Or.inl ⟨rfl, by omega⟩)) (by simp only [Int.cast_ofNat_Int, kd_si, gr_si, ln_si, gi_same, gi_na, gi_ni, nl_i, nl_r, nl_j, nj_i, nj_l, nj_r, true_and, and_true, and_self, cs_0, cs_1, cs_2, cs_3, cs_4, ↓reduceIte, Nat.reduceLeDiff, Nat.reduceEqDiff, Nat.reduceAdd, Int.reduceLE, Int.reduceLT, Int.reduceEq, Int.reduceAdd, Int.reduceNeg, Int.reduceToNat, Int.toNat_natCast, ne_eq, not_false_eq_true, not_true_eq_false, or_true, true_or, or_false, false_or]) (by rw [gi_same, g39]) (by simp only [Int.cast_ofNat_Int, kd_si, gr_si, ln_si, gi_same, gi_na, gi_ni, nl_i, nl_r, nl_j, nj_i, nj_l, nj_r, true_and, and_true, and_self, cs_0, cs_1, cs_2, cs_3, cs_4, ↓reduceIte, Nat.reduceLeDiff, Nat.reduceEqDiff, Nat.reduceAdd, Int.reduceLE, Int.reduceLT, Int.reduceEq, Int.reduceAdd, Int.reduceNeg, Int.reduceToNat, Int.toNat_natCast, ne_eq, not_false_eq_true, not_true_eq_false, or_true, true_or, or_false, false_or]; exact g11)
    have fin := hQ2 k _ fl (YF_si e14 (YF_si e13 YF_refl))
    rcases zw with z | z
    · have mm : mk = 20 := c20.mpr z
      simp only [↓cpX12_tellRule, ↓eX12_tellRule_0, ↓eX12_tellRule_1, ↓eX12_tellRule_3, ↓eX12_tellRule_6, ↓eX12_tellRule_9, ↓eX12_tellRule_10, ↓eX12_tellRule_12, ↓eX12_tellRule_15, ↓eX12_tellRule_18, ↓eX12_tellRule_19, ↓eX12_tellRule_20, ↓eX12_tellRule_23, ↓eX12_tellRule_26, ↓eX12_tellRule_27, ↓eX12_tellRule_30, ↓eX12_tellRule_31, ↓eX12_tellRule_34, ↓eX12_tellRule_35, ↓eX12_tellRule_37, ↓eX12_tellRule_40, ↓eX12_tellRule_41, ↓eX12_tellRule_42, ↓eX12_tellRule_45, ↓eX12_tellRule_46, ↓eX12_tellRule_49, ↓eX12_tellRule_52, hk35 h, hr35_20 h, hk43 h, hl43 h, ↓fis, ↓ff, g13, g19, gR, hmk, mm, sd0, sd1, and_false, Int.cast_ofNat_Int, kd_si, gr_si, ln_si, gi_same, gi_na, gi_ni, nl_i, nl_r, nl_j, nj_i, nj_l, nj_r, true_and, and_true, and_self, cs_0, cs_1, cs_2, cs_3, cs_4, ↓reduceIte, Nat.reduceLeDiff, Nat.reduceEqDiff, Nat.reduceAdd, Int.reduceLE, Int.reduceLT, Int.reduceEq, Int.reduceAdd, Int.reduceNeg, Int.reduceToNat, Int.toNat_natCast, ne_eq, not_false_eq_true, not_true_eq_false, or_true, true_or, or_false, false_or]
      exact fin
    · have mm : mk = 22 := c22.mpr z
      simp only [↓cpX12_tellRule, ↓eX12_tellRule_0, ↓eX12_tellRule_1, ↓eX12_tellRule_3, ↓eX12_tellRule_6, ↓eX12_tellRule_9, ↓eX12_tellRule_10, ↓eX12_tellRule_12, ↓eX12_tellRule_15, ↓eX12_tellRule_18, ↓eX12_tellRule_19, ↓eX12_tellRule_20, ↓eX12_tellRule_23, ↓eX12_tellRule_26, ↓eX12_tellRule_27, ↓eX12_tellRule_30, ↓eX12_tellRule_31, ↓eX12_tellRule_34, ↓eX12_tellRule_35, ↓eX12_tellRule_37, ↓eX12_tellRule_40, ↓eX12_tellRule_41, ↓eX12_tellRule_42, ↓eX12_tellRule_45, ↓eX12_tellRule_46, ↓eX12_tellRule_49, ↓eX12_tellRule_52, hk35 h, hr35_20 h, hk43 h, hl43 h, ↓fis, ↓ff, g13, g19, gR, hmk, mm, sd0, sd1, and_false, Int.cast_ofNat_Int, kd_si, gr_si, ln_si, gi_same, gi_na, gi_ni, nl_i, nl_r, nl_j, nj_i, nj_l, nj_r, true_and, and_true, and_self, cs_0, cs_1, cs_2, cs_3, cs_4, ↓reduceIte, Nat.reduceLeDiff, Nat.reduceEqDiff, Nat.reduceAdd, Int.reduceLE, Int.reduceLT, Int.reduceEq, Int.reduceAdd, Int.reduceNeg, Int.reduceToNat, Int.toNat_natCast, ne_eq, not_false_eq_true, not_true_eq_false, or_true, true_or, or_false, false_or]
      exact fin
  · have nR : ((R : Int) = 20) = False := eq_false (by omega)
    have w20 : wr (20 * (sd : Int)) = ((20 * sd : Nat) : Int) := by rw [wr_id (by omega) (by omega)]; omega
    have w21 : wr (((20 * sd : Nat) : Int) + (R : Int)) = ((20 * sd + R : Nat) : Int) := by rw [wr_id (by omega) (by omega)]; omega
    have r0 : (0 ≤ ((20 * sd + R : Nat) : Int)) = True := eq_true (by omega)
    have r1 : (((20 * sd + R : Nat) : Int) < 40) = True := eq_true (by omega)
    obtain ⟨N1, hN1⟩ : ∃ N1, N1 = si N 44 (20 * sd + R) 0 := ⟨_, rfl⟩
    have s1 : SH N1 := by rw [hN1]; exact h
    have e44 : rmS sd 44 (20 * sd + R) := Or.inr (Or.inr (Or.inl ⟨rfl, by omega, by omega⟩))
    have y1 : YF (rmS sd) N N1 := by rw [hN1]; exact YF_si e44 YF_refl
    have o1 : ∀ a i, a ≠ 44 → gi N1 a i = gi N a i := fun a i ha => by rw [hN1, gi_na ha]
    have f44 : ∀ r, r < R → gi N1 44 (20 * sd + r) = gi N 44 (20 * sd + r) := fun r hr => by rw [hN1, gi_ni (by omega)]
    have g44 : gi N1 44 (20 * sd + R) = 0 := by rw [hN1, gi_same]
    have M1 : MRU N1 sd R me mt c := MRU_f (fun r hr => o1 45 _ (by decide)) f44 (fun a i h1 h2 _ => o1 a _ (fun w => by omega)) (fun j _ => ⟨o1 52 j (by decide), o1 53 j (by decide)⟩) (Nat.le_refl _) hM
    have hfr1 : fr N1 sd R = n := by unfold fr at hfr ⊢; rw [o1 45 _ (by decide)]; exact hfr
    have gw1 : WPR N1 wp := by
      unfold WPR at gw ⊢
      rw [o1 35 _ (by decide), o1 35 _ (by decide)]
      exact gw
    have t11 : gi N1 35 11 = k := by rw [o1 35 _ (by decide)]; exact g11
    have t13 : gi N1 35 13 = 0 := by rw [o1 35 _ (by decide)]; exact g13
    have fis1 := fun (Q : mV → mM → Prop) (c : Int) => y_is (d := d + 4) (N := N1) (Q := Q) (c := c) s1 t11 k4
    have hmk1 : gi N1 38 k = mk := by rw [o1 38 _ (by decide)]; exact hmk
    have m1 : ∀ i, i ≠ 44 → True := fun _ _ => trivial
    have g39' : gi N1 39 k = gi T 39 k := by rw [o1 39 _ (by decide)]; exact g39
    have nomuch : k ≠ 400 → ¬ much 0 0 nt R (tk B sz k) := by
      intro k40 m
      rcases m with m | m | m
      · omega
      · omega
      · omega
    rcases zw with z | z
    · have mm : mk = 20 := c20.mpr z
      clear c20 c22 b2
      by_cases k40 : k = 400
      · subst k40
        have fl : FL B sz 400 (si (si N1 35 13 2) 35 14 (gi N1 39 400)) := FL_room hT hk hs hb hgo (Or.inl (by omega)) (by simp only [Int.cast_ofNat_Int, kd_si, gr_si, ln_si, gi_same, gi_na, gi_ni, nl_i, nl_r, nl_j, nj_i, nj_l, nj_r, true_and, and_true, and_self, cs_0, cs_1, cs_2, cs_3, cs_4, ↓reduceIte, Nat.reduceLeDiff, Nat.reduceEqDiff, Nat.reduceAdd, Int.reduceLE, Int.reduceLT, Int.reduceEq, Int.reduceAdd, Int.reduceNeg, Int.reduceToNat, Int.toNat_natCast, ne_eq, not_false_eq_true, not_true_eq_false, or_true, true_or, or_false, false_or]) (by rw [gi_same, g39']) (by simp only [Int.cast_ofNat_Int, kd_si, gr_si, ln_si, gi_same, gi_na, gi_ni, nl_i, nl_r, nl_j, nj_i, nj_l, nj_r, true_and, and_true, and_self, cs_0, cs_1, cs_2, cs_3, cs_4, ↓reduceIte, Nat.reduceLeDiff, Nat.reduceEqDiff, Nat.reduceAdd, Int.reduceLE, Int.reduceLT, Int.reduceEq, Int.reduceAdd, Int.reduceNeg, Int.reduceToNat, Int.toNat_natCast, ne_eq, not_false_eq_true, not_true_eq_false, or_true, true_or, or_false, false_or]; exact t11)
        have fin := hQ2 400 _ fl (YF_si e14 (YF_si e13 y1))
        have fn := fun (Q : mV → mM → Prop) => y_nextF (d := d + 3) (N := N1) (Q := Q) s1 t11 t13
        have sF : SH (si (si N1 35 13 2) 35 14 (gi N1 39 400)) := s1
        have fm := fun (Q : mV → mM → Prop) (c : Int) => y_mustD (d := d + 2) (N := si (si N1 35 13 2) 35 14 (gi N1 39 400)) (Q := Q) (t := 400) (c := c) sF (by simp only [Int.cast_ofNat_Int, kd_si, gr_si, ln_si, gi_same, gi_na, gi_ni, nl_i, nl_r, nl_j, nj_i, nj_l, nj_r, true_and, and_true, and_self, cs_0, cs_1, cs_2, cs_3, cs_4, ↓reduceIte, Nat.reduceLeDiff, Nat.reduceEqDiff, Nat.reduceAdd, Int.reduceLE, Int.reduceLT, Int.reduceEq, Int.reduceAdd, Int.reduceNeg, Int.reduceToNat, Int.toNat_natCast, ne_eq, not_false_eq_true, not_true_eq_false, or_true, true_or, or_false, false_or]; exact t11) (Nat.le_refl _) (by simp only [Int.cast_ofNat_Int, kd_si, gr_si, ln_si, gi_same, gi_na, gi_ni, nl_i, nl_r, nl_j, nj_i, nj_l, nj_r, true_and, and_true, and_self, cs_0, cs_1, cs_2, cs_3, cs_4, ↓reduceIte, Nat.reduceLeDiff, Nat.reduceEqDiff, Nat.reduceAdd, Int.reduceLE, Int.reduceLT, Int.reduceEq, Int.reduceAdd, Int.reduceNeg, Int.reduceToNat, Int.toNat_natCast, ne_eq, not_false_eq_true, not_true_eq_false, or_true, true_or, or_false, false_or])
        simp only [↓cpX12_tellRule, ↓eX12_tellRule_0, ↓eX12_tellRule_1, ↓eX12_tellRule_3, ↓eX12_tellRule_6, ↓eX12_tellRule_9, ↓eX12_tellRule_10, ↓eX12_tellRule_12, ↓eX12_tellRule_15, ↓eX12_tellRule_18, ↓eX12_tellRule_19, ↓eX12_tellRule_20, ↓eX12_tellRule_23, ↓eX12_tellRule_26, ↓eX12_tellRule_27, ↓eX12_tellRule_30, ↓eX12_tellRule_31, ↓eX12_tellRule_34, ↓eX12_tellRule_35, ↓eX12_tellRule_37, ↓eX12_tellRule_40, ↓eX12_tellRule_41, ↓eX12_tellRule_42, ↓eX12_tellRule_45, ↓eX12_tellRule_46, ↓eX12_tellRule_49, ↓eX12_tellRule_52, ↓eX12_tellRule_53, ↓eX12_tellRule_55, ↓eX12_tellRule_56, ↓eX12_tellRule_59, ↓eX12_tellRule_60, ↓eX12_tellRule_61, ↓eX12_tellRule_64, ↓eX12_tellRule_65, ↓eX12_tellRule_68, ↓eX12_tellRule_69, ↓eX12_tellRule_70, ↓eX12_tellRule_71, ↓eX12_tellRule_72, ↓eX12_tellRule_75, ↓eX12_tellRule_76, ↓eX12_tellRule_77, hk35 h, hr35_20 h, hr35_21 h, hk43 h, hl43 h, hk44 h, hl44 h, ↓fis, ↓ff, g13, g19, g43, hmk, mm, nR, sd0, sd1, w20, w21, r0, r1, and_false, Int.cast_ofNat_Int, kd_si, gr_si, ln_si, gi_same, gi_na, gi_ni, nl_i, nl_r, nl_j, nj_i, nj_l, nj_r, true_and, and_true, and_self, cs_0, cs_1, cs_2, cs_3, cs_4, ↓reduceIte, Nat.reduceLeDiff, Nat.reduceEqDiff, Nat.reduceAdd, Int.reduceLE, Int.reduceLT, Int.reduceEq, Int.reduceAdd, Int.reduceNeg, Int.reduceToNat, Int.toNat_natCast, ne_eq, not_false_eq_true, not_true_eq_false, or_true, true_or, or_false, false_or]
        rw [← hN1]
        simp only [↓eX12_tellRule_78, ↓eX12_tellRule_79, ↓eX12_tellRule_81, ↓eX12_tellRule_84, ↓eX12_tellRule_85, ↓eX12_tellRule_86, ↓eX12_tellRule_89, ↓eX12_tellRule_90, ↓eX12_tellRule_93, ↓eX12_tellRule_94, ↓eX12_tellRule_97, ↓eX12_tellRule_98, ↓eX12_tellRule_99, ↓eX12_tellRule_100, ↓eX12_tellRule_103, ↓eX12_tellRule_104, ↓eX12_tellRule_107, ↓eX12_tellRule_110, hk35 s1, ↓fis1, t13, hmk1, mm, ↓fn, ↓fm, Int.cast_ofNat_Int, kd_si, gr_si, ln_si, gi_same, gi_na, gi_ni, nl_i, nl_r, nl_j, nj_i, nj_l, nj_r, true_and, and_true, and_self, cs_0, cs_1, cs_2, cs_3, cs_4, ↓reduceIte, Nat.reduceLeDiff, Nat.reduceEqDiff, Nat.reduceAdd, Int.reduceLE, Int.reduceLT, Int.reduceEq, Int.reduceAdd, Int.reduceNeg, Int.reduceToNat, Int.toNat_natCast, ne_eq, not_false_eq_true, not_true_eq_false, or_true, true_or, or_false, false_or]
        exact fin
      · have fn := fun (Q : mV → mM → Prop) => y_nextG (d := d + 3) (N := N1) (Q := Q) (k := k) s1 t11 (by omega)
        obtain ⟨ok1, sg1⟩ := ok_go hk hs hb hgo (nomuch k40)
        have sg2 : sg B sz (k + 1) = (1, 0, false, 0, wp, nt + 1, R, me, mt, 0, A, O, ck, L, [], fun _ => []) := by
          rw [sg1, z]; rfl
        simp only [↓cpX12_tellRule, ↓eX12_tellRule_0, ↓eX12_tellRule_1, ↓eX12_tellRule_3, ↓eX12_tellRule_6, ↓eX12_tellRule_9, ↓eX12_tellRule_10, ↓eX12_tellRule_12, ↓eX12_tellRule_15, ↓eX12_tellRule_18, ↓eX12_tellRule_19, ↓eX12_tellRule_20, ↓eX12_tellRule_23, ↓eX12_tellRule_26, ↓eX12_tellRule_27, ↓eX12_tellRule_30, ↓eX12_tellRule_31, ↓eX12_tellRule_34, ↓eX12_tellRule_35, ↓eX12_tellRule_37, ↓eX12_tellRule_40, ↓eX12_tellRule_41, ↓eX12_tellRule_42, ↓eX12_tellRule_45, ↓eX12_tellRule_46, ↓eX12_tellRule_49, ↓eX12_tellRule_52, ↓eX12_tellRule_53, ↓eX12_tellRule_55, ↓eX12_tellRule_56, ↓eX12_tellRule_59, ↓eX12_tellRule_60, ↓eX12_tellRule_61, ↓eX12_tellRule_64, ↓eX12_tellRule_65, ↓eX12_tellRule_68, ↓eX12_tellRule_69, ↓eX12_tellRule_70, ↓eX12_tellRule_71, ↓eX12_tellRule_72, ↓eX12_tellRule_75, ↓eX12_tellRule_76, ↓eX12_tellRule_77, hk35 h, hr35_20 h, hr35_21 h, hk43 h, hl43 h, hk44 h, hl44 h, ↓fis, ↓ff, g13, g19, g43, hmk, mm, nR, sd0, sd1, w20, w21, r0, r1, and_false, Int.cast_ofNat_Int, kd_si, gr_si, ln_si, gi_same, gi_na, gi_ni, nl_i, nl_r, nl_j, nj_i, nj_l, nj_r, true_and, and_true, and_self, cs_0, cs_1, cs_2, cs_3, cs_4, ↓reduceIte, Nat.reduceLeDiff, Nat.reduceEqDiff, Nat.reduceAdd, Int.reduceLE, Int.reduceLT, Int.reduceEq, Int.reduceAdd, Int.reduceNeg, Int.reduceToNat, Int.toNat_natCast, ne_eq, not_false_eq_true, not_true_eq_false, or_true, true_or, or_false, false_or]
        rw [← hN1]
        simp only [↓eX12_tellRule_78, ↓eX12_tellRule_79, ↓eX12_tellRule_81, ↓eX12_tellRule_84, ↓eX12_tellRule_85, ↓eX12_tellRule_86, ↓eX12_tellRule_89, ↓eX12_tellRule_90, hk35 s1, ↓fis1, t13, hmk1, mm, ↓fn, Int.cast_ofNat_Int, kd_si, gr_si, ln_si, gi_same, gi_na, gi_ni, nl_i, nl_r, nl_j, nj_i, nj_l, nj_r, true_and, and_true, and_self, cs_0, cs_1, cs_2, cs_3, cs_4, ↓reduceIte, Nat.reduceLeDiff, Nat.reduceEqDiff, Nat.reduceAdd, Int.reduceLE, Int.reduceLT, Int.reduceEq, Int.reduceAdd, Int.reduceNeg, Int.reduceToNat, Int.toNat_natCast, ne_eq, not_false_eq_true, not_true_eq_false, or_true, true_or, or_false, false_or]
        have bl := bg_lt hb
        exact y_tr_amount (k0 := k) hT hsd h h38 hQ1 hQ2 (by omega) ok1 sg2 (YF_si e11 y1) (gi_same _ _ _ _) (by rw [gi_ni (by decide)]; exact t13) (by rw [gi_ni (by decide), o1 35 _ (by decide)]; exact g12) (by rw [gi_ni (by decide), o1 35 _ (by decide)]; exact g19) (by rw [gi_na (by decide), o1 43 _ (by decide)]; exact g43) (by unfold WPR at gw1 ⊢; rw [gi_ni (by decide), gi_ni (by decide)]; exact gw1) (by omega) (by rw [gi_ni (by decide), o1 35 _ (by decide)]; exact g29) (by omega) (by rw [gi_na (by decide), o1 46 _ (by decide)]; exact g46) (by omega) (by unfold fr at hfr1 ⊢; rw [gi_na (by decide)]; exact hfr1) (MRU_f (fun r hr => by rw [gi_na (by decide)]) (fun r hr => by rw [gi_na (by decide)]) (fun a i h1 h2 _ => by rw [gi_na (by omega)]) (fun j _ => ⟨by rw [gi_na (by decide)], by rw [gi_na (by decide)]⟩) (Nat.le_refl _) M1) (by omega)
    · have mm : mk = 22 := c22.mpr z
      clear c20 c22 b2
      by_cases k40 : k = 400
      · subst k40
        have fl : FL B sz 400 (si (si N1 35 13 2) 35 14 (gi N1 39 400)) := FL_room hT hk hs hb hgo (Or.inl (by omega)) (by simp only [Int.cast_ofNat_Int, kd_si, gr_si, ln_si, gi_same, gi_na, gi_ni, nl_i, nl_r, nl_j, nj_i, nj_l, nj_r, true_and, and_true, and_self, cs_0, cs_1, cs_2, cs_3, cs_4, ↓reduceIte, Nat.reduceLeDiff, Nat.reduceEqDiff, Nat.reduceAdd, Int.reduceLE, Int.reduceLT, Int.reduceEq, Int.reduceAdd, Int.reduceNeg, Int.reduceToNat, Int.toNat_natCast, ne_eq, not_false_eq_true, not_true_eq_false, or_true, true_or, or_false, false_or]) (by rw [gi_same, g39']) (by simp only [Int.cast_ofNat_Int, kd_si, gr_si, ln_si, gi_same, gi_na, gi_ni, nl_i, nl_r, nl_j, nj_i, nj_l, nj_r, true_and, and_true, and_self, cs_0, cs_1, cs_2, cs_3, cs_4, ↓reduceIte, Nat.reduceLeDiff, Nat.reduceEqDiff, Nat.reduceAdd, Int.reduceLE, Int.reduceLT, Int.reduceEq, Int.reduceAdd, Int.reduceNeg, Int.reduceToNat, Int.toNat_natCast, ne_eq, not_false_eq_true, not_true_eq_false, or_true, true_or, or_false, false_or]; exact t11)
        have fin := hQ2 400 _ fl (YF_si e14 (YF_si e13 y1))
        have fn := fun (Q : mV → mM → Prop) => y_nextF (d := d + 3) (N := N1) (Q := Q) s1 t11 t13
        have sF : SH (si (si N1 35 13 2) 35 14 (gi N1 39 400)) := s1
        have fm := fun (Q : mV → mM → Prop) (c : Int) => y_mustD (d := d + 2) (N := si (si N1 35 13 2) 35 14 (gi N1 39 400)) (Q := Q) (t := 400) (c := c) sF (by simp only [Int.cast_ofNat_Int, kd_si, gr_si, ln_si, gi_same, gi_na, gi_ni, nl_i, nl_r, nl_j, nj_i, nj_l, nj_r, true_and, and_true, and_self, cs_0, cs_1, cs_2, cs_3, cs_4, ↓reduceIte, Nat.reduceLeDiff, Nat.reduceEqDiff, Nat.reduceAdd, Int.reduceLE, Int.reduceLT, Int.reduceEq, Int.reduceAdd, Int.reduceNeg, Int.reduceToNat, Int.toNat_natCast, ne_eq, not_false_eq_true, not_true_eq_false, or_true, true_or, or_false, false_or]; exact t11) (Nat.le_refl _) (by simp only [Int.cast_ofNat_Int, kd_si, gr_si, ln_si, gi_same, gi_na, gi_ni, nl_i, nl_r, nl_j, nj_i, nj_l, nj_r, true_and, and_true, and_self, cs_0, cs_1, cs_2, cs_3, cs_4, ↓reduceIte, Nat.reduceLeDiff, Nat.reduceEqDiff, Nat.reduceAdd, Int.reduceLE, Int.reduceLT, Int.reduceEq, Int.reduceAdd, Int.reduceNeg, Int.reduceToNat, Int.toNat_natCast, ne_eq, not_false_eq_true, not_true_eq_false, or_true, true_or, or_false, false_or])
        simp only [↓cpX12_tellRule, ↓eX12_tellRule_0, ↓eX12_tellRule_1, ↓eX12_tellRule_3, ↓eX12_tellRule_6, ↓eX12_tellRule_9, ↓eX12_tellRule_10, ↓eX12_tellRule_12, ↓eX12_tellRule_15, ↓eX12_tellRule_18, ↓eX12_tellRule_19, ↓eX12_tellRule_20, ↓eX12_tellRule_23, ↓eX12_tellRule_26, ↓eX12_tellRule_27, ↓eX12_tellRule_30, ↓eX12_tellRule_31, ↓eX12_tellRule_34, ↓eX12_tellRule_35, ↓eX12_tellRule_37, ↓eX12_tellRule_40, ↓eX12_tellRule_41, ↓eX12_tellRule_42, ↓eX12_tellRule_45, ↓eX12_tellRule_46, ↓eX12_tellRule_49, ↓eX12_tellRule_52, ↓eX12_tellRule_53, ↓eX12_tellRule_55, ↓eX12_tellRule_56, ↓eX12_tellRule_59, ↓eX12_tellRule_60, ↓eX12_tellRule_61, ↓eX12_tellRule_64, ↓eX12_tellRule_65, ↓eX12_tellRule_68, ↓eX12_tellRule_69, ↓eX12_tellRule_70, ↓eX12_tellRule_71, ↓eX12_tellRule_72, ↓eX12_tellRule_75, ↓eX12_tellRule_76, ↓eX12_tellRule_77, hk35 h, hr35_20 h, hr35_21 h, hk43 h, hl43 h, hk44 h, hl44 h, ↓fis, ↓ff, g13, g19, g43, hmk, mm, nR, sd0, sd1, w20, w21, r0, r1, and_false, Int.cast_ofNat_Int, kd_si, gr_si, ln_si, gi_same, gi_na, gi_ni, nl_i, nl_r, nl_j, nj_i, nj_l, nj_r, true_and, and_true, and_self, cs_0, cs_1, cs_2, cs_3, cs_4, ↓reduceIte, Nat.reduceLeDiff, Nat.reduceEqDiff, Nat.reduceAdd, Int.reduceLE, Int.reduceLT, Int.reduceEq, Int.reduceAdd, Int.reduceNeg, Int.reduceToNat, Int.toNat_natCast, ne_eq, not_false_eq_true, not_true_eq_false, or_true, true_or, or_false, false_or]
        rw [← hN1]
        simp only [↓eX12_tellRule_78, ↓eX12_tellRule_79, ↓eX12_tellRule_81, ↓eX12_tellRule_84, ↓eX12_tellRule_85, ↓eX12_tellRule_86, ↓eX12_tellRule_89, ↓eX12_tellRule_90, ↓eX12_tellRule_151, ↓eX12_tellRule_152, ↓eX12_tellRule_154, ↓eX12_tellRule_157, ↓eX12_tellRule_158, ↓eX12_tellRule_159, ↓eX12_tellRule_160, hk35 s1, ↓fis1, t13, hmk1, mm, ↓fn, ↓fm, and_false, Int.cast_ofNat_Int, kd_si, gr_si, ln_si, gi_same, gi_na, gi_ni, nl_i, nl_r, nl_j, nj_i, nj_l, nj_r, true_and, and_true, and_self, cs_0, cs_1, cs_2, cs_3, cs_4, ↓reduceIte, Nat.reduceLeDiff, Nat.reduceEqDiff, Nat.reduceAdd, Int.reduceLE, Int.reduceLT, Int.reduceEq, Int.reduceAdd, Int.reduceNeg, Int.reduceToNat, Int.toNat_natCast, ne_eq, not_false_eq_true, not_true_eq_false, or_true, true_or, or_false, false_or]
        rw [eX12_tellRule_162]
        simp only [↓eX12_tellRule_164, ↓eX12_tellRule_167, ↓eX12_tellRule_168, ↓eX12_tellRule_171, hk35 s1, Int.cast_ofNat_Int, kd_si, gr_si, ln_si, gi_same, gi_na, gi_ni, nl_i, nl_r, nl_j, nj_i, nj_l, nj_r, true_and, and_true, and_self, cs_0, cs_1, cs_2, cs_3, cs_4, ↓reduceIte, Nat.reduceLeDiff, Nat.reduceEqDiff, Nat.reduceAdd, Int.reduceLE, Int.reduceLT, Int.reduceEq, Int.reduceAdd, Int.reduceNeg, Int.reduceToNat, Int.toNat_natCast, ne_eq, not_false_eq_true, not_true_eq_false, or_true, true_or, or_false, false_or]
        exact y_tr_dead _ _ _ _ sF fl fin
      · have fn := fun (Q : mV → mM → Prop) => y_nextG (d := d + 3) (N := N1) (Q := Q) (k := k) s1 t11 (by omega)
        obtain ⟨ok1, sg1⟩ := ok_go hk hs hb hgo (nomuch k40)
        have sg2 : sg B sz (k + 1) = (2, 0, false, 0, wp, nt + 1, R, me, mt, 0, A, O, ck, L, [], fun _ => []) := by
          rw [sg1, z]; rfl
        simp only [↓cpX12_tellRule, ↓eX12_tellRule_0, ↓eX12_tellRule_1, ↓eX12_tellRule_3, ↓eX12_tellRule_6, ↓eX12_tellRule_9, ↓eX12_tellRule_10, ↓eX12_tellRule_12, ↓eX12_tellRule_15, ↓eX12_tellRule_18, ↓eX12_tellRule_19, ↓eX12_tellRule_20, ↓eX12_tellRule_23, ↓eX12_tellRule_26, ↓eX12_tellRule_27, ↓eX12_tellRule_30, ↓eX12_tellRule_31, ↓eX12_tellRule_34, ↓eX12_tellRule_35, ↓eX12_tellRule_37, ↓eX12_tellRule_40, ↓eX12_tellRule_41, ↓eX12_tellRule_42, ↓eX12_tellRule_45, ↓eX12_tellRule_46, ↓eX12_tellRule_49, ↓eX12_tellRule_52, ↓eX12_tellRule_53, ↓eX12_tellRule_55, ↓eX12_tellRule_56, ↓eX12_tellRule_59, ↓eX12_tellRule_60, ↓eX12_tellRule_61, ↓eX12_tellRule_64, ↓eX12_tellRule_65, ↓eX12_tellRule_68, ↓eX12_tellRule_69, ↓eX12_tellRule_70, ↓eX12_tellRule_71, ↓eX12_tellRule_72, ↓eX12_tellRule_75, ↓eX12_tellRule_76, ↓eX12_tellRule_77, hk35 h, hr35_20 h, hr35_21 h, hk43 h, hl43 h, hk44 h, hl44 h, ↓fis, ↓ff, g13, g19, g43, hmk, mm, nR, sd0, sd1, w20, w21, r0, r1, and_false, Int.cast_ofNat_Int, kd_si, gr_si, ln_si, gi_same, gi_na, gi_ni, nl_i, nl_r, nl_j, nj_i, nj_l, nj_r, true_and, and_true, and_self, cs_0, cs_1, cs_2, cs_3, cs_4, ↓reduceIte, Nat.reduceLeDiff, Nat.reduceEqDiff, Nat.reduceAdd, Int.reduceLE, Int.reduceLT, Int.reduceEq, Int.reduceAdd, Int.reduceNeg, Int.reduceToNat, Int.toNat_natCast, ne_eq, not_false_eq_true, not_true_eq_false, or_true, true_or, or_false, false_or]
        rw [← hN1]
        simp only [↓eX12_tellRule_78, ↓eX12_tellRule_79, ↓eX12_tellRule_81, ↓eX12_tellRule_84, ↓eX12_tellRule_85, ↓eX12_tellRule_86, ↓eX12_tellRule_89, ↓eX12_tellRule_90, hk35 s1, ↓fis1, t13, hmk1, mm, ↓fn, and_false, Int.cast_ofNat_Int, kd_si, gr_si, ln_si, gi_same, gi_na, gi_ni, nl_i, nl_r, nl_j, nj_i, nj_l, nj_r, true_and, and_true, and_self, cs_0, cs_1, cs_2, cs_3, cs_4, ↓reduceIte, Nat.reduceLeDiff, Nat.reduceEqDiff, Nat.reduceAdd, Int.reduceLE, Int.reduceLT, Int.reduceEq, Int.reduceAdd, Int.reduceNeg, Int.reduceToNat, Int.toNat_natCast, ne_eq, not_false_eq_true, not_true_eq_false, or_true, true_or, or_false, false_or]
        exact y_tr_if (k0 := k) hT hsd h h38 hQ1 hQ2 (by omega) ok1 sg2 (YF_si e11 y1) (gi_same _ _ _ _) (by rw [gi_ni (by decide)]; exact t13) (by rw [gi_ni (by decide), o1 35 _ (by decide)]; exact g12) (by rw [gi_ni (by decide), o1 35 _ (by decide)]; exact g19) (by rw [gi_na (by decide), o1 43 _ (by decide)]; exact g43) (by unfold WPR at gw1 ⊢; rw [gi_ni (by decide), gi_ni (by decide)]; exact gw1) (by rw [gi_ni (by decide), o1 35 _ (by decide)]; exact g29) (by omega) (by rw [gi_na (by decide), o1 46 _ (by decide)]; exact g46) (by omega) (by unfold fr at hfr1 ⊢; rw [gi_na (by decide)]; exact hfr1) (MRU_f (fun r hr => by rw [gi_na (by decide)]) (fun r hr => by rw [gi_na (by decide)]) (fun a i h1 h2 _ => by rw [gi_na (by omega)]) (fun j _ => ⟨by rw [gi_na (by decide)], by rw [gi_na (by decide)]⟩) (Nat.le_refl _) M1) (by rw [gi_na (by decide)]; exact g44) (nlI _)
end TE2
