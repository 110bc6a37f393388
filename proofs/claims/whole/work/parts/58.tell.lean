theorem st0 {B : Nat → Int} {sz k : Nat} (hk : ok B sz k) (h : (sg B sz k).1 = 0) : ∃ am wp nt R me mt A O ck L, sg B sz k = (0, 0, false, am, wp, nt, R, me, mt, 0, A, O, ck, L, [], fun _ => []) := by
  have p := sg_PI k hk
  generalize sg B sz k = s at h p
  obtain ⟨st, dp, cm, am, wp, nt, R, me, mt, bs, A, O, ck, L, w, V⟩ := s
  have h' : st = 0 := h
  subst h'
  obtain ⟨-, -, -, -, -, -, p7, -, p9, p10, -⟩ := p
  obtain ⟨c1, c2, c3⟩ := p10 (Or.inl (by decide))
  have b0 := p9 (by decide)
  subst c1 c2 c3 b0
  have hV : V = fun _ => [] := by
    funext e
    have := p7 e
    exact List.eq_nil_of_length_eq_zero this
  subst hV
  exact ⟨am, wp, nt, R, me, mt, A, O, ck, L, rfl⟩
section TE
variable {d : Nat} {Q : mV → mM → Prop} {B : Nat → Int} {sz sd k0 R : Nat} {T N0 : mM} {wp : Int} {me : Nat → Env → Int} {mt : Nat → Int}
/-- if, and what follows -/
theorem y_tr_if {am : Int} (hT : TKB B sz T) (hsd : sd ≤ 1) (h0 : SH N0) (h38 : ∀ a i, 38 ≤ a → a ≤ 40 → gi N0 a i = gi T a i)
    (hQ1 : ∀ k P, k0 < k → ok B sz k → (sg B sz k).1 = 0 → RT sd k P (sg B sz k) → YF (rmS sd) N0 P → Q vj P) (hQ2 : ∀ k P, FL B sz k P → YF (rmS sd) N0 P → Q vj P)
    {k nt c n : Nat} {A O : Env → Int} {ck : Int} {L : Env → Int} {N : mM} {a1 a2 a3 a4 : mV} (hk0 : k0 < k) (hk : ok B sz k) (hs : sg B sz k = (2, 0, false, am, wp, nt, R, me, mt, 0, A, O, ck, L, [], fun _ => [])) (yN : YF (rmS sd) N0 N) (g11 : gi N 35 11 = k) (g13 : gi N 35 13 = 0) (g12 : gi N 35 12 = 0) (g19 : gi N 35 19 = sd) (g43 : gi N 43 sd = R) (gw : WPR N wp) (g29 : gi N 35 29 = (500 * sd + c : Nat)) (hc : c ≤ k) (g46 : gi N 46 sd = n) (hn : n + 1 ≤ k) (hfr : fr N sd R = n) (hM : MRU N sd R me mt c) (g44 : gi N 44 (20 * sd + R) = am) (n2 : nl a2) :
    WP (mc (d + 5)) tX12_tellRule 151 [vr (some 35), a1, a2, a3, a4] [] N Q := by
  have hN := YF_SH yN h0
  have k4 := ok_400 hk
  have hnt := sg_n hs
  have e11 : rmS sd 35 11 := Or.inl ⟨rfl, Or.inl (by decide)⟩
  have e13 : rmS sd 35 13 := Or.inl ⟨rfl, Or.inl (by decide)⟩
  have e14 : rmS sd 35 14 := Or.inl ⟨rfl, Or.inl (by decide)⟩
  have g38 : gi N 38 k = gi T 38 k := by rw [yN.2 38 k (by unfold rmS; omega)]; exact h38 38 k (by decide) (by decide)
  have g39 : gi N 39 k = gi T 39 k := by rw [yN.2 39 k (by unfold rmS; omega)]; exact h38 39 k (by decide) (by decide)
  have synt : gi N 38 k ≠ 21 → (bg B sz k < sz → ¬ goes 2 0 false (tk B sz k)) → WP (mc (d + 5)) tX12_tellRule 151 [vr (some 35), a1, a2, a3, a4] [] N Q := fun m hns => by
    have fm := fun (Q : mV → mM → Prop) => y_mustN (d := d + 2) (N := N) (Q := Q) (k := k) (c := 21) hN g11 k4 g13 m
    have fl : FL B sz k (si (si N 35 13 1) 35 14 (gi N 39 k)) := FL_syn hT hk hs (by decide) hns (by simp only [Int.cast_ofNat_Int, kd_si, gr_si, ln_si, gi_same, gi_na, gi_ni, nl_i, nl_r, nl_j, nj_i, nj_l, nj_r, true_and, and_true, and_self, cs_0, cs_1, cs_2, cs_3, cs_4, ↓reduceIte, Nat.reduceLeDiff, Nat.reduceEqDiff, Nat.reduceAdd, Int.reduceLE, Int.reduceLT, Int.reduceEq, Int.reduceAdd, Int.reduceNeg, Int.reduceToNat, Int.toNat_natCast, ne_eq, not_false_eq_true, not_true_eq_false, or_true, true_or, or_false, false_or]) (by rw [gi_same, g39]) (by simp only [Int.cast_ofNat_Int, kd_si, gr_si, ln_si, gi_same, gi_na, gi_ni, nl_i, nl_r, nl_j, nj_i, nj_l, nj_r, true_and, and_true, and_self, cs_0, cs_1, cs_2, cs_3, cs_4, ↓reduceIte, Nat.reduceLeDiff, Nat.reduceEqDiff, Nat.reduceAdd, Int.reduceLE, Int.reduceLT, Int.reduceEq, Int.reduceAdd, Int.reduceNeg, Int.reduceToNat, Int.toNat_natCast, ne_eq, not_false_eq_true, not_true_eq_false, or_true, true_or, or_false, false_or]; exact g11)
    simp only [↓eX12_tellRule_151, ↓eX12_tellRule_152, ↓eX12_tellRule_154, ↓eX12_tellRule_157, ↓eX12_tellRule_158, ↓eX12_tellRule_159, ↓eX12_tellRule_160, hk35 hN, ↓fm, n2, Int.cast_ofNat_Int, kd_si, gr_si, ln_si, gi_same, gi_na, gi_ni, nl_i, nl_r, nl_j, nj_i, nj_l, nj_r, true_and, and_true, and_self, cs_0, cs_1, cs_2, cs_3, cs_4, ↓reduceIte, Nat.reduceLeDiff, Nat.reduceEqDiff, Nat.reduceAdd, Int.reduceLE, Int.reduceLT, Int.reduceEq, Int.reduceAdd, Int.reduceNeg, Int.reduceToNat, Int.toNat_natCast, ne_eq, not_false_eq_true, not_true_eq_false, or_true, true_or, or_false, false_or]
    rw [eX12_tellRule_162]
    simp only [↓eX12_tellRule_164, ↓eX12_tellRule_167, ↓eX12_tellRule_168, ↓eX12_tellRule_171, hk35 hN, Int.cast_ofNat_Int, kd_si, gr_si, ln_si, gi_same, gi_na, gi_ni, nl_i, nl_r, nl_j, nj_i, nj_l, nj_r, true_and, and_true, and_self, cs_0, cs_1, cs_2, cs_3, cs_4, ↓reduceIte, Nat.reduceLeDiff, Nat.reduceEqDiff, Nat.reduceAdd, Int.reduceLE, Int.reduceLT, Int.reduceEq, Int.reduceAdd, Int.reduceNeg, Int.reduceToNat, Int.toNat_natCast, ne_eq, not_false_eq_true, not_true_eq_false, or_true, true_or, or_false, false_or]
    exact y_tr_dead _ _ _ _ hN fl (hQ2 k _ fl (YF_si e14 (YF_si e13 yN)))
  rcases tokL hT hk with ⟨b1, b2, -, -⟩ | ⟨b1, b2, -⟩
  · have c21 := KR_c b2 (c := 25) (by decide) (by decide)
    by_cases z : tk B sz k = 25
    · have m21 : gi N 38 k = 21 := by rw [g38]; exact c21.mpr z
      have hgo : goes 2 0 false (tk B sz k) := Or.inr (Or.inr (Or.inl ⟨rfl, z⟩))
      clear c21 b2
      by_cases k40 : k = 400
      · subst k40
        have fm := fun (Q : mV → mM → Prop) => y_mustF (d := d + 2) (N := N) (Q := Q) (c := 21) hN g11 g13 m21
        have fl : FL B sz 400 (si (si N 35 13 2) 35 14 (gi N 39 400)) := FL_room hT hk hs b1 hgo (Or.inl (by omega)) (by simp only [Int.cast_ofNat_Int, kd_si, gr_si, ln_si, gi_same, gi_na, gi_ni, nl_i, nl_r, nl_j, nj_i, nj_l, nj_r, true_and, and_true, and_self, cs_0, cs_1, cs_2, cs_3, cs_4, ↓reduceIte, Nat.reduceLeDiff, Nat.reduceEqDiff, Nat.reduceAdd, Int.reduceLE, Int.reduceLT, Int.reduceEq, Int.reduceAdd, Int.reduceNeg, Int.reduceToNat, Int.toNat_natCast, ne_eq, not_false_eq_true, not_true_eq_false, or_true, true_or, or_false, false_or]) (by rw [gi_same, g39]) (by simp only [Int.cast_ofNat_Int, kd_si, gr_si, ln_si, gi_same, gi_na, gi_ni, nl_i, nl_r, nl_j, nj_i, nj_l, nj_r, true_and, and_true, and_self, cs_0, cs_1, cs_2, cs_3, cs_4, ↓reduceIte, Nat.reduceLeDiff, Nat.reduceEqDiff, Nat.reduceAdd, Int.reduceLE, Int.reduceLT, Int.reduceEq, Int.reduceAdd, Int.reduceNeg, Int.reduceToNat, Int.toNat_natCast, ne_eq, not_false_eq_true, not_true_eq_false, or_true, true_or, or_false, false_or]; exact g11)
        simp only [↓eX12_tellRule_151, ↓eX12_tellRule_152, ↓eX12_tellRule_154, ↓eX12_tellRule_157, ↓eX12_tellRule_158, ↓eX12_tellRule_159, ↓eX12_tellRule_160, hk35 hN, ↓fm, n2, Int.cast_ofNat_Int, kd_si, gr_si, ln_si, gi_same, gi_na, gi_ni, nl_i, nl_r, nl_j, nj_i, nj_l, nj_r, true_and, and_true, and_self, cs_0, cs_1, cs_2, cs_3, cs_4, ↓reduceIte, Nat.reduceLeDiff, Nat.reduceEqDiff, Nat.reduceAdd, Int.reduceLE, Int.reduceLT, Int.reduceEq, Int.reduceAdd, Int.reduceNeg, Int.reduceToNat, Int.toNat_natCast, ne_eq, not_false_eq_true, not_true_eq_false, or_true, true_or, or_false, false_or]
        rw [eX12_tellRule_162]
        simp only [↓eX12_tellRule_164, ↓eX12_tellRule_167, ↓eX12_tellRule_168, ↓eX12_tellRule_171, hk35 hN, Int.cast_ofNat_Int, kd_si, gr_si, ln_si, gi_same, gi_na, gi_ni, nl_i, nl_r, nl_j, nj_i, nj_l, nj_r, true_and, and_true, and_self, cs_0, cs_1, cs_2, cs_3, cs_4, ↓reduceIte, Nat.reduceLeDiff, Nat.reduceEqDiff, Nat.reduceAdd, Int.reduceLE, Int.reduceLT, Int.reduceEq, Int.reduceAdd, Int.reduceNeg, Int.reduceToNat, Int.toNat_natCast, ne_eq, not_false_eq_true, not_true_eq_false, or_true, true_or, or_false, false_or]
        exact y_tr_dead _ _ _ _ hN fl (hQ2 400 _ fl (YF_si e14 (YF_si e13 yN)))
      · have fm := fun (Q : mV → mM → Prop) => y_mustY (d := d + 2) (N := N) (Q := Q) (k := k) (c := 21) hN g11 (by omega) g13 m21
        have mm : ¬ much 2 0 nt R (tk B sz k) := by
          intro m
          rcases m with m | m | m
          · omega
          · exact absurd m.1 (by decide)
          · rw [z] at m; exact absurd m.1 (by decide)
        obtain ⟨ok1, sg1⟩ := ok_go hk hs b1 hgo mm
        have sg2 : sg B sz (k + 1) = (3, 0, false, am, wp, nt + 1, R, me, mt, 0, A, O, ck, L, [], fun _ => []) := by rw [sg1]; rfl
        simp only [↓eX12_tellRule_151, ↓eX12_tellRule_152, ↓eX12_tellRule_154, ↓eX12_tellRule_157, ↓eX12_tellRule_158, ↓eX12_tellRule_159, ↓eX12_tellRule_160, hk35 hN, ↓fm, n2, Int.cast_ofNat_Int, kd_si, gr_si, ln_si, gi_same, gi_na, gi_ni, nl_i, nl_r, nl_j, nj_i, nj_l, nj_r, true_and, and_true, and_self, cs_0, cs_1, cs_2, cs_3, cs_4, ↓reduceIte, Nat.reduceLeDiff, Nat.reduceEqDiff, Nat.reduceAdd, Int.reduceLE, Int.reduceLT, Int.reduceEq, Int.reduceAdd, Int.reduceNeg, Int.reduceToNat, Int.toNat_natCast, ne_eq, not_false_eq_true, not_true_eq_false, or_true, true_or, or_false, false_or]
        obtain ⟨S, hS⟩ : ∃ S, S = si N 35 11 (k + 1 : Nat) := ⟨_, rfl⟩
        rw [← hS]
        have yS : YF (rmS sd) N0 S := by rw [hS]; exact YF_si e11 yN
        have o35 : ∀ i, i ≠ 11 → gi S 35 i = gi N 35 i := fun i hi => by rw [hS, gi_ni hi]
        have oth : ∀ a i, a ≠ 35 → gi S a i = gi N a i := fun a i ha => by rw [hS, gi_na ha]
        have frS : fr S sd R = n := by unfold fr at hfr ⊢; rw [oth 45 _ (by decide)]; exact hfr
        have MS : MRU S sd R me mt c := MRU_f (fun r hr => oth 45 _ (by decide)) (fun r hr => oth 44 _ (by decide)) (fun a i h1 h2 _ => oth a _ (fun w => by omega)) (fun j _ => ⟨oth 52 j (by decide), oth 53 j (by decide)⟩) (Nat.le_refl _) hM
        have wS : WPR S wp := by
          unfold WPR at gw ⊢
          rw [o35 15 (by decide), o35 16 (by decide)]
          exact gw
        exact y_tr_loop hT hsd h0 h38 hQ1 hQ2 401 (k + 1) (nt + 1) 0 A O ck L 1 c n S a1 a2 (by omega) (by omega) ok1 sg2 yS (by rw [hS, gi_same]) (by rw [o35 13 (by decide)]; exact g13) (by rw [o35 12 (by decide)]; exact g12) (by rw [o35 19 (by decide)]; exact g19) (by rw [oth 43 _ (by decide)]; exact g43) wS (by rw [o35 29 (by decide)]; exact g29) (by omega) (by rw [oth 46 _ (by decide)]; exact g46) (by omega) (by omega) MS (fun i h1 h2 => absurd h2 (by omega)) (by rw [frS, Nat.sub_self]; exact ⟨fun _ => rfl, fun e _ => ⟨fun w => absurd w (by decide), fun w => absurd w (by decide), fun w => absurd w (by decide)⟩⟩) (Or.inr rfl) (by unfold O1; decide) (by rw [oth 44 _ (by decide)]; exact g44) n2
    · refine synt (by rw [g38]; exact fun w => z (c21.mp w)) (fun _ g => ?_)
      rcases g with g | g | g | g | g | g | g
      · exact absurd g.1 (by decide)
      · exact absurd g.1 (by decide)
      · exact z g.2
      · exact absurd g.1 (by decide)
      · exact absurd g.1 (by decide)
      · exact absurd g.1 (by decide)
      · exact absurd g.1 (by decide)
  · exact synt (by rw [g38, b2]; decide) (fun q => by rw [b1] at q; exact absurd q (Nat.lt_irrefl _))
theorem y_wrong {N : mM} {k : Nat} {p : Int} (h : SH N) (hk : k ≤ 400) (h13 : gi N 35 13 = 0) (h39 : gi N 39 k = p) (hw : WPR N wp) (hwp : wp ≤ p) : CP (mc (d + 1)) 136 [vr (some 35), vi 5, vi k] N Q = Q vj (if wp = -1 then si (si N 35 15 5) 35 16 p else N) := by
  have i0 : (0 ≤ (k : Int)) = True := eq_true (by omega)
  have i1 : ((k : Int) < 403) = True := eq_true (by omega)
  rcases hw with ⟨w1, w2⟩ | ⟨w1, w2, w3⟩
  · rw [if_pos w1]
    simp only [↓cpX12_wrong, ↓eX12_wrong_0, ↓eX12_wrong_1, ↓eX12_wrong_4, ↓eX12_wrong_5, ↓eX12_wrong_6, ↓eX12_wrong_7, ↓eX12_wrong_8, ↓eX12_wrong_11, ↓eX12_wrong_14, ↓eX12_wrong_15, ↓eX12_wrong_18, ↓eX12_wrong_21, ↓eX12_wrong_22, ↓eX12_wrong_23, ↓eX12_wrong_26, ↓eX12_wrong_29, ↓eX12_wrong_30, ↓eX12_wrong_31, ↓eX12_wrong_34, ↓eX12_wrong_37, ↓eX12_wrong_38, ↓eX12_wrong_39, ↓eX12_wrong_42, ↓eX12_wrong_45, ↓eX12_wrong_46, ↓eX12_wrong_47, ↓eX12_wrong_48, ↓eX12_wrong_51, ↓eX12_wrong_52, ↓eX12_wrong_53, ↓eX12_wrong_56, hk35 h, hr35_6 h, hk39 h, hl39 h, h13, h39, w2, i0, i1, Int.lt_irrefl, Int.cast_ofNat_Int, kd_si, gr_si, ln_si, gi_same, gi_na, gi_ni, nl_i, nl_r, nl_j, nj_i, nj_l, nj_r, true_and, and_true, and_self, cs_0, cs_1, cs_2, cs_3, cs_4, ↓reduceIte, Nat.reduceLeDiff, Nat.reduceEqDiff, Nat.reduceAdd, Int.reduceLE, Int.reduceLT, Int.reduceEq, Int.reduceAdd, Int.reduceNeg, Int.reduceToNat, Int.toNat_natCast, ne_eq, not_false_eq_true, not_true_eq_false, or_true, true_or, or_false, false_or]
  · rw [if_neg w1]
    by_cases z : wp < p
    · simp only [↓cpX12_wrong, ↓eX12_wrong_0, ↓eX12_wrong_1, ↓eX12_wrong_4, ↓eX12_wrong_5, ↓eX12_wrong_6, ↓eX12_wrong_7, ↓eX12_wrong_8, ↓eX12_wrong_11, ↓eX12_wrong_14, ↓eX12_wrong_15, ↓eX12_wrong_18, ↓eX12_wrong_21, ↓eX12_wrong_22, ↓eX12_wrong_23, ↓eX12_wrong_26, ↓eX12_wrong_29, ↓eX12_wrong_30, ↓eX12_wrong_31, ↓eX12_wrong_34, ↓eX12_wrong_37, ↓eX12_wrong_38, ↓eX12_wrong_39, ↓eX12_wrong_42, ↓eX12_wrong_45, ↓eX12_wrong_46, ↓eX12_wrong_47, ↓eX12_wrong_48, ↓eX12_wrong_51, ↓eX12_wrong_52, ↓eX12_wrong_53, ↓eX12_wrong_56, hk35 h, hr35_6 h, hk39 h, hl39 h, h13, h39, w2, w3, z, i0, i1, Int.lt_irrefl, Int.cast_ofNat_Int, kd_si, gr_si, ln_si, gi_same, gi_na, gi_ni, nl_i, nl_r, nl_j, nj_i, nj_l, nj_r, true_and, and_true, and_self, cs_0, cs_1, cs_2, cs_3, cs_4, ↓reduceIte, Nat.reduceLeDiff, Nat.reduceEqDiff, Nat.reduceAdd, Int.reduceLE, Int.reduceLT, Int.reduceEq, Int.reduceAdd, Int.reduceNeg, Int.reduceToNat, Int.toNat_natCast, ne_eq, not_false_eq_true, not_true_eq_false, or_true, true_or, or_false, false_or]
    · have z2 : p = wp := by omega
      simp only [↓cpX12_wrong, ↓eX12_wrong_0, ↓eX12_wrong_1, ↓eX12_wrong_4, ↓eX12_wrong_5, ↓eX12_wrong_6, ↓eX12_wrong_7, ↓eX12_wrong_8, ↓eX12_wrong_11, ↓eX12_wrong_14, ↓eX12_wrong_15, ↓eX12_wrong_18, ↓eX12_wrong_21, ↓eX12_wrong_22, ↓eX12_wrong_23, ↓eX12_wrong_26, ↓eX12_wrong_29, ↓eX12_wrong_30, ↓eX12_wrong_31, ↓eX12_wrong_34, ↓eX12_wrong_37, ↓eX12_wrong_38, ↓eX12_wrong_39, ↓eX12_wrong_42, ↓eX12_wrong_45, ↓eX12_wrong_46, ↓eX12_wrong_47, ↓eX12_wrong_48, ↓eX12_wrong_51, ↓eX12_wrong_52, ↓eX12_wrong_53, ↓eX12_wrong_56, hk35 h, hr35_6 h, hk39 h, hl39 h, h13, h39, w2, w3, z2, i0, i1, Int.lt_irrefl, Int.cast_ofNat_Int, kd_si, gr_si, ln_si, gi_same, gi_na, gi_ni, nl_i, nl_r, nl_j, nj_i, nj_l, nj_r, true_and, and_true, and_self, cs_0, cs_1, cs_2, cs_3, cs_4, ↓reduceIte, Nat.reduceLeDiff, Nat.reduceEqDiff, Nat.reduceAdd, Int.reduceLE, Int.reduceLT, Int.reduceEq, Int.reduceAdd, Int.reduceNeg, Int.reduceToNat, Int.toNat_natCast, ne_eq, not_false_eq_true, not_true_eq_false, or_true, true_or, or_false, false_or]
end TE
