theorem jn13 (a b : Int) : jn 13 a b = if a = b then 1 else 0 := by
  unfold jn
  rw [if_neg (by decide), if_neg (by decide), if_pos rfl]
theorem jn14 (a b : Int) : jn 14 a b = if a = b then 0 else 1 := by
  unfold jn
  rw [if_neg (by decide), if_neg (by decide), if_neg (by decide), if_pos rfl]
theorem jn15 (a b : Int) : jn 15 a b = if a < b then 1 else 0 := by
  unfold jn
  rw [if_neg (by decide), if_neg (by decide), if_neg (by decide), if_neg (by decide), if_pos rfl]
theorem jn16 (a b : Int) : jn 16 a b = if a ≤ b then 1 else 0 := by
  unfold jn
  rw [if_neg (by decide), if_neg (by decide), if_neg (by decide), if_neg (by decide), if_neg (by decide), if_pos rfl]
theorem VL_D {M N : mM} {sd c i : Nat} (hD : DF (fun b => b = 71) M N) (h : VL M sd c i) : VL N sd c i ∧ ∀ e, xl N sd i e = xl M sd i e := VL_f (fun a h1 h2 => hD.2 a _ (fun w => by omega)) (fun j _ => ⟨hD.2 52 j (by decide), hD.2 53 j (by decide)⟩) (Nat.le_refl _) h
theorem y_isTrue {d : Nat} {M : mM} {Q : mV → mM → Prop} {sd c i k : Nat} (h : SH M) (hs : SFM M k) (hsd : sd ≤ 1) (hi : i < 400) (hc : c ≤ 400) (hv : VL M sd c i)
    (hQ : ∀ N, DF (fun b => b = 71) M N → Q (vi (if xl M sd i (enM M k) = 0 then 0 else 1)) N) : CP (mc (d + 3)) 165 [vr (some 35), vi (400 * sd + i : Nat), vi k] M Q := by
  have hs' := hs
  obtain ⟨hk, hs2⟩ := hs'
  obtain ⟨f, hf, f3, -, hlive⟩ := hs2 k (Nat.le_refl k)
  have k0 : (0 ≤ (k : Int)) = True := eq_true (by omega)
  have k1 : ((k : Int) < 1728) = True := eq_true (by omega)
  have f0 : (0 ≤ (f : Int)) = True := eq_true (by omega)
  have f1 : ((f : Int) < 300) = True := eq_true (by omega)
  have l0 : (0 ≤ ((400 * sd + i : Nat) : Int)) = True := eq_true (by omega)
  have l1 : (((400 * sd + i : Nat) : Int) < 800) = True := eq_true (by omega)
  rcases hv with hv | ⟨hv, lo', mid, hi', v1, v2, v3, v4, v5, v6, v7, v8, v9, v10, v11⟩
  · rcases hv with z | z
    · have x7 : xl M sd i (enM M k) = gi M 63 f := by
        unfold xl
        rw [if_pos z]
        show gi M 63 (gi M 67 k).toNat = _
        rw [hf, Int.toNat_natCast]
      rw [x7] at hQ
      have q := hQ M DF_refl
      rcases hlive with y | y
      · rw [if_pos y] at q
        simp only [↓cpX12_isTrue, ↓eX12_isTrue_0, ↓eX12_isTrue_1, ↓eX12_isTrue_4, ↓eX12_isTrue_5, ↓eX12_isTrue_6, ↓eX12_isTrue_7, ↓eX12_isTrue_10, ↓eX12_isTrue_11, ↓eX12_isTrue_14, ↓eX12_isTrue_15, ↓eX12_isTrue_18, ↓eX12_isTrue_19, ↓eX12_isTrue_20, ↓eX12_isTrue_21, hk35 h, hr35_24 h, hk47 h, hl47 h, hr35_56 h, hk67 h, hl67 h, hr35_45 h, hk63 h, hl63 h, z, hf, y, k0, k1, f0, f1, l0, l1, Int.cast_ofNat_Int, kd_si, gr_si, ln_si, gi_same, gi_na, gi_ni, nl_i, nl_r, nl_j, nj_i, nj_l, nj_r, true_and, and_true, and_self, cs_0, cs_1, cs_2, cs_3, cs_4, ↓reduceIte, Nat.reduceLeDiff, Nat.reduceEqDiff, Nat.reduceAdd, Int.reduceLE, Int.reduceLT, Int.reduceEq, Int.reduceAdd, Int.reduceNeg, Int.reduceToNat, Int.toNat_natCast, ne_eq, not_false_eq_true, not_true_eq_false, or_true, true_or, or_false, false_or]
        exact q
      · rw [if_neg (by omega)] at q
        simp only [↓cpX12_isTrue, ↓eX12_isTrue_0, ↓eX12_isTrue_1, ↓eX12_isTrue_4, ↓eX12_isTrue_5, ↓eX12_isTrue_6, ↓eX12_isTrue_7, ↓eX12_isTrue_10, ↓eX12_isTrue_11, ↓eX12_isTrue_14, ↓eX12_isTrue_15, ↓eX12_isTrue_18, ↓eX12_isTrue_19, ↓eX12_isTrue_20, ↓eX12_isTrue_21, hk35 h, hr35_24 h, hk47 h, hl47 h, hr35_56 h, hk67 h, hl67 h, hr35_45 h, hk63 h, hl63 h, z, hf, y, k0, k1, f0, f1, l0, l1, Int.cast_ofNat_Int, kd_si, gr_si, ln_si, gi_same, gi_na, gi_ni, nl_i, nl_r, nl_j, nj_i, nj_l, nj_r, true_and, and_true, and_self, cs_0, cs_1, cs_2, cs_3, cs_4, ↓reduceIte, Nat.reduceLeDiff, Nat.reduceEqDiff, Nat.reduceAdd, Int.reduceLE, Int.reduceLT, Int.reduceEq, Int.reduceAdd, Int.reduceNeg, Int.reduceToNat, Int.toNat_natCast, ne_eq, not_false_eq_true, not_true_eq_false, or_true, true_or, or_false, false_or]
        exact q
    · have x8 : xl M sd i (enM M k) = if lo M (gi M 67) k = k then 1 else 0 := by
        unfold xl
        rw [if_neg (by omega), if_pos z]
        rfl
      rw [x8] at hQ
      have q := hQ M DF_refl
      have fl := fun (Q : mV → mM → Prop) => y_leastOne (d := d) (M := M) (Q := Q) h hs
      by_cases y : lo M (gi M 67) k = k
      · rw [if_pos y, if_neg (by decide)] at q
        have y' : (((lo M (gi M 67) k : Nat) : Int) = (k : Int)) = True := eq_true (by omega)
        simp only [↓cpX12_isTrue, ↓eX12_isTrue_0, ↓eX12_isTrue_1, ↓eX12_isTrue_4, ↓eX12_isTrue_5, ↓eX12_isTrue_6, ↓eX12_isTrue_7, ↓eX12_isTrue_10, ↓eX12_isTrue_11, ↓eX12_isTrue_14, ↓eX12_isTrue_15, ↓eX12_isTrue_18, ↓eX12_isTrue_19, ↓eX12_isTrue_20, ↓eX12_isTrue_21, ↓eX12_isTrue_22, ↓eX12_isTrue_23, ↓eX12_isTrue_26, ↓eX12_isTrue_27, ↓eX12_isTrue_28, ↓eX12_isTrue_29, ↓eX12_isTrue_32, ↓eX12_isTrue_33, ↓eX12_isTrue_34, ↓eX12_isTrue_37, ↓eX12_isTrue_38, ↓eX12_isTrue_41, ↓eX12_isTrue_42, ↓eX12_isTrue_45, ↓eX12_isTrue_46, hk35 h, hr35_24 h, hk47 h, hl47 h, z, l0, l1, ↓fl, y', Int.cast_ofNat_Int, kd_si, gr_si, ln_si, gi_same, gi_na, gi_ni, nl_i, nl_r, nl_j, nj_i, nj_l, nj_r, true_and, and_true, and_self, cs_0, cs_1, cs_2, cs_3, cs_4, ↓reduceIte, Nat.reduceLeDiff, Nat.reduceEqDiff, Nat.reduceAdd, Int.reduceLE, Int.reduceLT, Int.reduceEq, Int.reduceAdd, Int.reduceNeg, Int.reduceToNat, Int.toNat_natCast, ne_eq, not_false_eq_true, not_true_eq_false, or_true, true_or, or_false, false_or]
        exact q
      · rw [if_neg y, if_pos rfl] at q
        have y' : (((lo M (gi M 67) k : Nat) : Int) = (k : Int)) = False := eq_false (by omega)
        simp only [↓cpX12_isTrue, ↓eX12_isTrue_0, ↓eX12_isTrue_1, ↓eX12_isTrue_4, ↓eX12_isTrue_5, ↓eX12_isTrue_6, ↓eX12_isTrue_7, ↓eX12_isTrue_10, ↓eX12_isTrue_11, ↓eX12_isTrue_14, ↓eX12_isTrue_15, ↓eX12_isTrue_18, ↓eX12_isTrue_19, ↓eX12_isTrue_20, ↓eX12_isTrue_21, ↓eX12_isTrue_22, ↓eX12_isTrue_23, ↓eX12_isTrue_26, ↓eX12_isTrue_27, ↓eX12_isTrue_28, ↓eX12_isTrue_29, ↓eX12_isTrue_32, ↓eX12_isTrue_33, ↓eX12_isTrue_34, ↓eX12_isTrue_37, ↓eX12_isTrue_38, ↓eX12_isTrue_41, ↓eX12_isTrue_42, ↓eX12_isTrue_45, ↓eX12_isTrue_46, hk35 h, hr35_24 h, hk47 h, hl47 h, z, l0, l1, ↓fl, y', Int.cast_ofNat_Int, kd_si, gr_si, ln_si, gi_same, gi_na, gi_ni, nl_i, nl_r, nl_j, nj_i, nj_l, nj_r, true_and, and_true, and_self, cs_0, cs_1, cs_2, cs_3, cs_4, ↓reduceIte, Nat.reduceLeDiff, Nat.reduceEqDiff, Nat.reduceAdd, Int.reduceLE, Int.reduceLT, Int.reduceEq, Int.reduceAdd, Int.reduceNeg, Int.reduceToNat, Int.toNat_natCast, ne_eq, not_false_eq_true, not_true_eq_false, or_true, true_or, or_false, false_or]
        exact q
  · have n4 : (gi M 47 (400 * sd + i) = 4) = False := eq_false (by omega)
    have n5 : (gi M 47 (400 * sd + i) = 5) = False := eq_false (by omega)
    have xe : xl M sd i (enM M k) = jn (13 + gi M 47 (400 * sd + i)) ((rM M lo' (mid - lo') (enM M k)).headD 0) ((rM M mid (hi' - mid) (enM M k)).headD 0) := by
      unfold xl
      rw [if_neg (by omega), if_neg (by omega), v1, v2, v3]
      simp only [Int.toNat_natCast]
    have vB := fun (N : mM) (hD : DF (fun b => b = 71) M N) (x : Int) => y_value (d := d) (M := N) (a := mid) (hi := hi') (k := k) (Q := fun v P => v ≠ vj ∧ WP (mc (d + 2)) tX12_isTrue 82 [vr (some 35), vi (400 * sd + i : Nat), vi k, vi x, vj] [v] P Q) (DF_SH hD h) (SFM_D hD hs) v6 (by omega) (by omega) (gM_eq (fun j _ => ⟨hD.2 52 _ (by decide), hD.2 53 _ (by decide)⟩) v9) (by rw [rM_eq (M := M) _ (fun j _ => ⟨hD.2 52 _ (by decide), hD.2 53 _ (by decide)⟩)]; exact v11 _)
    have vA := y_value (d := d) (M := M) (a := lo') (hi := mid) (k := k) (Q := fun v P => v ≠ vj ∧ WP (mc (d + 2)) tX12_isTrue 64 [vr (some 35), vi (400 * sd + i : Nat), vi k, vj, vj] [v] P Q) h hs v5 (by omega) (by omega) v8 (v10 _) (fun N dN => ⟨(fun q => by cases q), by
      have sN := DF_SH dN h
      have n49 : gi N 49 (400 * sd + i) = mid := by rw [dN.2 49 _ (by decide)]; exact v2
      have n50 : gi N 50 (400 * sd + i) = hi' := by rw [dN.2 50 _ (by decide)]; exact v3
      have B := vB N dN ((rM M lo' (mid - lo') (enM M k)).headD 0) (fun P dP => ⟨(fun q => by cases q), by
        have dMP := DF_trans dN dP
        have sP := DF_SH dMP h
        have eR : (rM N mid (hi' - mid) (enM N k)).headD 0 = (rM M mid (hi' - mid) (enM M k)).headD 0 := by rw [enM_eq dN, rM_eq (M := M) _ (fun j _ => ⟨dN.2 52 _ (by decide), dN.2 53 _ (by decide)⟩)]
        rw [eR]
        have p47 : gi P 47 (400 * sd + i) = gi M 47 (400 * sd + i) := dMP.2 47 _ (by decide)
        have q := hQ P dMP
        rw [xe] at q
        generalize (rM M lo' (mid - lo') (enM M k)).headD 0 = x at *
        generalize (rM M mid (hi' - mid) (enM M k)).headD 0 = y at *
        rcases (show gi M 47 (400 * sd + i) = 0 ∨ gi M 47 (400 * sd + i) = 1 ∨ gi M 47 (400 * sd + i) = 2 ∨ gi M 47 (400 * sd + i) = 3 by omega) with z | z | z | z
        · rw [z] at p47 q
          rw [show (13 : Int) + 0 = 13 from rfl, jn13] at q
          by_cases w : x = y
          · rw [if_pos w, if_neg (by decide)] at q
            simp only [↓eX12_isTrue_82, ↓eX12_isTrue_84, ↓eX12_isTrue_85, ↓eX12_isTrue_88, ↓eX12_isTrue_89, ↓eX12_isTrue_90, ↓eX12_isTrue_93, ↓eX12_isTrue_94, ↓eX12_isTrue_96, ↓eX12_isTrue_99, ↓eX12_isTrue_100, ↓eX12_isTrue_103, ↓eX12_isTrue_104, ↓eX12_isTrue_107, ↓eX12_isTrue_108, ↓eX12_isTrue_111, ↓eX12_isTrue_112, ↓eX12_isTrue_113, ↓eX12_isTrue_114, ↓eX12_isTrue_117, ↓eX12_isTrue_118, ↓eX12_isTrue_120, ↓eX12_isTrue_123, ↓eX12_isTrue_124, ↓eX12_isTrue_127, ↓eX12_isTrue_128, ↓eX12_isTrue_131, ↓eX12_isTrue_132, ↓eX12_isTrue_135, ↓eX12_isTrue_136, ↓eX12_isTrue_137, ↓eX12_isTrue_138, ↓eX12_isTrue_141, ↓eX12_isTrue_142, ↓eX12_isTrue_144, ↓eX12_isTrue_147, ↓eX12_isTrue_148, ↓eX12_isTrue_151, ↓eX12_isTrue_152, ↓eX12_isTrue_155, ↓eX12_isTrue_156, ↓eX12_isTrue_158, ↓eX12_isTrue_161, ↓eX12_isTrue_162, ↓eX12_isTrue_165, ↓eX12_isTrue_166, hk35 sP, hr35_24 sP, hk47 sP, hl47 sP, p47, l0, l1, w, Int.cast_ofNat_Int, kd_si, gr_si, ln_si, gi_same, gi_na, gi_ni, nl_i, nl_r, nl_j, nj_i, nj_l, nj_r, true_and, and_true, and_self, cs_0, cs_1, cs_2, cs_3, cs_4, ↓reduceIte, Nat.reduceLeDiff, Nat.reduceEqDiff, Nat.reduceAdd, Int.reduceLE, Int.reduceLT, Int.reduceEq, Int.reduceAdd, Int.reduceNeg, Int.reduceToNat, Int.toNat_natCast, ne_eq, not_false_eq_true, not_true_eq_false, or_true, true_or, or_false, false_or]
            exact q
          · rw [if_neg w, if_pos rfl] at q
            simp only [↓eX12_isTrue_82, ↓eX12_isTrue_84, ↓eX12_isTrue_85, ↓eX12_isTrue_88, ↓eX12_isTrue_89, ↓eX12_isTrue_90, ↓eX12_isTrue_93, ↓eX12_isTrue_94, ↓eX12_isTrue_96, ↓eX12_isTrue_99, ↓eX12_isTrue_100, ↓eX12_isTrue_103, ↓eX12_isTrue_104, ↓eX12_isTrue_107, ↓eX12_isTrue_108, ↓eX12_isTrue_111, ↓eX12_isTrue_112, ↓eX12_isTrue_113, ↓eX12_isTrue_114, ↓eX12_isTrue_117, ↓eX12_isTrue_118, ↓eX12_isTrue_120, ↓eX12_isTrue_123, ↓eX12_isTrue_124, ↓eX12_isTrue_127, ↓eX12_isTrue_128, ↓eX12_isTrue_131, ↓eX12_isTrue_132, ↓eX12_isTrue_135, ↓eX12_isTrue_136, ↓eX12_isTrue_137, ↓eX12_isTrue_138, ↓eX12_isTrue_141, ↓eX12_isTrue_142, ↓eX12_isTrue_144, ↓eX12_isTrue_147, ↓eX12_isTrue_148, ↓eX12_isTrue_151, ↓eX12_isTrue_152, ↓eX12_isTrue_155, ↓eX12_isTrue_156, ↓eX12_isTrue_158, ↓eX12_isTrue_161, ↓eX12_isTrue_162, ↓eX12_isTrue_165, ↓eX12_isTrue_166, hk35 sP, hr35_24 sP, hk47 sP, hl47 sP, p47, l0, l1, w, Int.cast_ofNat_Int, kd_si, gr_si, ln_si, gi_same, gi_na, gi_ni, nl_i, nl_r, nl_j, nj_i, nj_l, nj_r, true_and, and_true, and_self, cs_0, cs_1, cs_2, cs_3, cs_4, ↓reduceIte, Nat.reduceLeDiff, Nat.reduceEqDiff, Nat.reduceAdd, Int.reduceLE, Int.reduceLT, Int.reduceEq, Int.reduceAdd, Int.reduceNeg, Int.reduceToNat, Int.toNat_natCast, ne_eq, not_false_eq_true, not_true_eq_false, or_true, true_or, or_false, false_or]
            exact q
        · rw [z] at p47 q
          rw [show (13 : Int) + 1 = 14 from rfl, jn14] at q
          by_cases w : x = y
          · rw [if_pos w, if_pos rfl] at q
            simp only [↓eX12_isTrue_82, ↓eX12_isTrue_84, ↓eX12_isTrue_85, ↓eX12_isTrue_88, ↓eX12_isTrue_89, ↓eX12_isTrue_90, ↓eX12_isTrue_93, ↓eX12_isTrue_94, ↓eX12_isTrue_96, ↓eX12_isTrue_99, ↓eX12_isTrue_100, ↓eX12_isTrue_103, ↓eX12_isTrue_104, ↓eX12_isTrue_107, ↓eX12_isTrue_108, ↓eX12_isTrue_111, ↓eX12_isTrue_112, ↓eX12_isTrue_113, ↓eX12_isTrue_114, ↓eX12_isTrue_117, ↓eX12_isTrue_118, ↓eX12_isTrue_120, ↓eX12_isTrue_123, ↓eX12_isTrue_124, ↓eX12_isTrue_127, ↓eX12_isTrue_128, ↓eX12_isTrue_131, ↓eX12_isTrue_132, ↓eX12_isTrue_135, ↓eX12_isTrue_136, ↓eX12_isTrue_137, ↓eX12_isTrue_138, ↓eX12_isTrue_141, ↓eX12_isTrue_142, ↓eX12_isTrue_144, ↓eX12_isTrue_147, ↓eX12_isTrue_148, ↓eX12_isTrue_151, ↓eX12_isTrue_152, ↓eX12_isTrue_155, ↓eX12_isTrue_156, ↓eX12_isTrue_158, ↓eX12_isTrue_161, ↓eX12_isTrue_162, ↓eX12_isTrue_165, ↓eX12_isTrue_166, hk35 sP, hr35_24 sP, hk47 sP, hl47 sP, p47, l0, l1, w, Int.cast_ofNat_Int, kd_si, gr_si, ln_si, gi_same, gi_na, gi_ni, nl_i, nl_r, nl_j, nj_i, nj_l, nj_r, true_and, and_true, and_self, cs_0, cs_1, cs_2, cs_3, cs_4, ↓reduceIte, Nat.reduceLeDiff, Nat.reduceEqDiff, Nat.reduceAdd, Int.reduceLE, Int.reduceLT, Int.reduceEq, Int.reduceAdd, Int.reduceNeg, Int.reduceToNat, Int.toNat_natCast, ne_eq, not_false_eq_true, not_true_eq_false, or_true, true_or, or_false, false_or]
            exact q
          · rw [if_neg w, if_neg (by decide)] at q
            simp only [↓eX12_isTrue_82, ↓eX12_isTrue_84, ↓eX12_isTrue_85, ↓eX12_isTrue_88, ↓eX12_isTrue_89, ↓eX12_isTrue_90, ↓eX12_isTrue_93, ↓eX12_isTrue_94, ↓eX12_isTrue_96, ↓eX12_isTrue_99, ↓eX12_isTrue_100, ↓eX12_isTrue_103, ↓eX12_isTrue_104, ↓eX12_isTrue_107, ↓eX12_isTrue_108, ↓eX12_isTrue_111, ↓eX12_isTrue_112, ↓eX12_isTrue_113, ↓eX12_isTrue_114, ↓eX12_isTrue_117, ↓eX12_isTrue_118, ↓eX12_isTrue_120, ↓eX12_isTrue_123, ↓eX12_isTrue_124, ↓eX12_isTrue_127, ↓eX12_isTrue_128, ↓eX12_isTrue_131, ↓eX12_isTrue_132, ↓eX12_isTrue_135, ↓eX12_isTrue_136, ↓eX12_isTrue_137, ↓eX12_isTrue_138, ↓eX12_isTrue_141, ↓eX12_isTrue_142, ↓eX12_isTrue_144, ↓eX12_isTrue_147, ↓eX12_isTrue_148, ↓eX12_isTrue_151, ↓eX12_isTrue_152, ↓eX12_isTrue_155, ↓eX12_isTrue_156, ↓eX12_isTrue_158, ↓eX12_isTrue_161, ↓eX12_isTrue_162, ↓eX12_isTrue_165, ↓eX12_isTrue_166, hk35 sP, hr35_24 sP, hk47 sP, hl47 sP, p47, l0, l1, w, Int.cast_ofNat_Int, kd_si, gr_si, ln_si, gi_same, gi_na, gi_ni, nl_i, nl_r, nl_j, nj_i, nj_l, nj_r, true_and, and_true, and_self, cs_0, cs_1, cs_2, cs_3, cs_4, ↓reduceIte, Nat.reduceLeDiff, Nat.reduceEqDiff, Nat.reduceAdd, Int.reduceLE, Int.reduceLT, Int.reduceEq, Int.reduceAdd, Int.reduceNeg, Int.reduceToNat, Int.toNat_natCast, ne_eq, not_false_eq_true, not_true_eq_false, or_true, true_or, or_false, false_or]
            exact q
        · rw [z] at p47 q
          rw [show (13 : Int) + 2 = 15 from rfl, jn15] at q
          by_cases w : x < y
          · have w' : (y ≤ x) = False := eq_false (by omega)
            rw [if_pos w, if_neg (by decide)] at q
            simp only [↓eX12_isTrue_82, ↓eX12_isTrue_84, ↓eX12_isTrue_85, ↓eX12_isTrue_88, ↓eX12_isTrue_89, ↓eX12_isTrue_90, ↓eX12_isTrue_93, ↓eX12_isTrue_94, ↓eX12_isTrue_96, ↓eX12_isTrue_99, ↓eX12_isTrue_100, ↓eX12_isTrue_103, ↓eX12_isTrue_104, ↓eX12_isTrue_107, ↓eX12_isTrue_108, ↓eX12_isTrue_111, ↓eX12_isTrue_112, ↓eX12_isTrue_113, ↓eX12_isTrue_114, ↓eX12_isTrue_117, ↓eX12_isTrue_118, ↓eX12_isTrue_120, ↓eX12_isTrue_123, ↓eX12_isTrue_124, ↓eX12_isTrue_127, ↓eX12_isTrue_128, ↓eX12_isTrue_131, ↓eX12_isTrue_132, ↓eX12_isTrue_135, ↓eX12_isTrue_136, ↓eX12_isTrue_137, ↓eX12_isTrue_138, ↓eX12_isTrue_141, ↓eX12_isTrue_142, ↓eX12_isTrue_144, ↓eX12_isTrue_147, ↓eX12_isTrue_148, ↓eX12_isTrue_151, ↓eX12_isTrue_152, ↓eX12_isTrue_155, ↓eX12_isTrue_156, ↓eX12_isTrue_158, ↓eX12_isTrue_161, ↓eX12_isTrue_162, ↓eX12_isTrue_165, ↓eX12_isTrue_166, hk35 sP, hr35_24 sP, hk47 sP, hl47 sP, p47, l0, l1, w', Int.cast_ofNat_Int, kd_si, gr_si, ln_si, gi_same, gi_na, gi_ni, nl_i, nl_r, nl_j, nj_i, nj_l, nj_r, true_and, and_true, and_self, cs_0, cs_1, cs_2, cs_3, cs_4, ↓reduceIte, Nat.reduceLeDiff, Nat.reduceEqDiff, Nat.reduceAdd, Int.reduceLE, Int.reduceLT, Int.reduceEq, Int.reduceAdd, Int.reduceNeg, Int.reduceToNat, Int.toNat_natCast, ne_eq, not_false_eq_true, not_true_eq_false, or_true, true_or, or_false, false_or]
            exact q
          · have w' : (y ≤ x) = True := eq_true (by omega)
            rw [if_neg w, if_pos rfl] at q
            simp only [↓eX12_isTrue_82, ↓eX12_isTrue_84, ↓eX12_isTrue_85, ↓eX12_isTrue_88, ↓eX12_isTrue_89, ↓eX12_isTrue_90, ↓eX12_isTrue_93, ↓eX12_isTrue_94, ↓eX12_isTrue_96, ↓eX12_isTrue_99, ↓eX12_isTrue_100, ↓eX12_isTrue_103, ↓eX12_isTrue_104, ↓eX12_isTrue_107, ↓eX12_isTrue_108, ↓eX12_isTrue_111, ↓eX12_isTrue_112, ↓eX12_isTrue_113, ↓eX12_isTrue_114, ↓eX12_isTrue_117, ↓eX12_isTrue_118, ↓eX12_isTrue_120, ↓eX12_isTrue_123, ↓eX12_isTrue_124, ↓eX12_isTrue_127, ↓eX12_isTrue_128, ↓eX12_isTrue_131, ↓eX12_isTrue_132, ↓eX12_isTrue_135, ↓eX12_isTrue_136, ↓eX12_isTrue_137, ↓eX12_isTrue_138, ↓eX12_isTrue_141, ↓eX12_isTrue_142, ↓eX12_isTrue_144, ↓eX12_isTrue_147, ↓eX12_isTrue_148, ↓eX12_isTrue_151, ↓eX12_isTrue_152, ↓eX12_isTrue_155, ↓eX12_isTrue_156, ↓eX12_isTrue_158, ↓eX12_isTrue_161, ↓eX12_isTrue_162, ↓eX12_isTrue_165, ↓eX12_isTrue_166, hk35 sP, hr35_24 sP, hk47 sP, hl47 sP, p47, l0, l1, w', Int.cast_ofNat_Int, kd_si, gr_si, ln_si, gi_same, gi_na, gi_ni, nl_i, nl_r, nl_j, nj_i, nj_l, nj_r, true_and, and_true, and_self, cs_0, cs_1, cs_2, cs_3, cs_4, ↓reduceIte, Nat.reduceLeDiff, Nat.reduceEqDiff, Nat.reduceAdd, Int.reduceLE, Int.reduceLT, Int.reduceEq, Int.reduceAdd, Int.reduceNeg, Int.reduceToNat, Int.toNat_natCast, ne_eq, not_false_eq_true, not_true_eq_false, or_true, true_or, or_false, false_or]
            exact q
        · rw [z] at p47 q
          rw [show (13 : Int) + 3 = 16 from rfl, jn16] at q
          by_cases w : x ≤ y
          · have w' : (y < x) = False := eq_false (by omega)
            rw [if_pos w, if_neg (by decide)] at q
            simp only [↓eX12_isTrue_82, ↓eX12_isTrue_84, ↓eX12_isTrue_85, ↓eX12_isTrue_88, ↓eX12_isTrue_89, ↓eX12_isTrue_90, ↓eX12_isTrue_93, ↓eX12_isTrue_94, ↓eX12_isTrue_96, ↓eX12_isTrue_99, ↓eX12_isTrue_100, ↓eX12_isTrue_103, ↓eX12_isTrue_104, ↓eX12_isTrue_107, ↓eX12_isTrue_108, ↓eX12_isTrue_111, ↓eX12_isTrue_112, ↓eX12_isTrue_113, ↓eX12_isTrue_114, ↓eX12_isTrue_117, ↓eX12_isTrue_118, ↓eX12_isTrue_120, ↓eX12_isTrue_123, ↓eX12_isTrue_124, ↓eX12_isTrue_127, ↓eX12_isTrue_128, ↓eX12_isTrue_131, ↓eX12_isTrue_132, ↓eX12_isTrue_135, ↓eX12_isTrue_136, ↓eX12_isTrue_137, ↓eX12_isTrue_138, ↓eX12_isTrue_141, ↓eX12_isTrue_142, ↓eX12_isTrue_144, ↓eX12_isTrue_147, ↓eX12_isTrue_148, ↓eX12_isTrue_151, ↓eX12_isTrue_152, ↓eX12_isTrue_155, ↓eX12_isTrue_156, ↓eX12_isTrue_158, ↓eX12_isTrue_161, ↓eX12_isTrue_162, ↓eX12_isTrue_165, ↓eX12_isTrue_166, hk35 sP, hr35_24 sP, hk47 sP, hl47 sP, p47, l0, l1, w', Int.cast_ofNat_Int, kd_si, gr_si, ln_si, gi_same, gi_na, gi_ni, nl_i, nl_r, nl_j, nj_i, nj_l, nj_r, true_and, and_true, and_self, cs_0, cs_1, cs_2, cs_3, cs_4, ↓reduceIte, Nat.reduceLeDiff, Nat.reduceEqDiff, Nat.reduceAdd, Int.reduceLE, Int.reduceLT, Int.reduceEq, Int.reduceAdd, Int.reduceNeg, Int.reduceToNat, Int.toNat_natCast, ne_eq, not_false_eq_true, not_true_eq_false, or_true, true_or, or_false, false_or]
            exact q
          · have w' : (y < x) = True := eq_true (by omega)
            rw [if_neg w, if_pos rfl] at q
            simp only [↓eX12_isTrue_82, ↓eX12_isTrue_84, ↓eX12_isTrue_85, ↓eX12_isTrue_88, ↓eX12_isTrue_89, ↓eX12_isTrue_90, ↓eX12_isTrue_93, ↓eX12_isTrue_94, ↓eX12_isTrue_96, ↓eX12_isTrue_99, ↓eX12_isTrue_100, ↓eX12_isTrue_103, ↓eX12_isTrue_104, ↓eX12_isTrue_107, ↓eX12_isTrue_108, ↓eX12_isTrue_111, ↓eX12_isTrue_112, ↓eX12_isTrue_113, ↓eX12_isTrue_114, ↓eX12_isTrue_117, ↓eX12_isTrue_118, ↓eX12_isTrue_120, ↓eX12_isTrue_123, ↓eX12_isTrue_124, ↓eX12_isTrue_127, ↓eX12_isTrue_128, ↓eX12_isTrue_131, ↓eX12_isTrue_132, ↓eX12_isTrue_135, ↓eX12_isTrue_136, ↓eX12_isTrue_137, ↓eX12_isTrue_138, ↓eX12_isTrue_141, ↓eX12_isTrue_142, ↓eX12_isTrue_144, ↓eX12_isTrue_147, ↓eX12_isTrue_148, ↓eX12_isTrue_151, ↓eX12_isTrue_152, ↓eX12_isTrue_155, ↓eX12_isTrue_156, ↓eX12_isTrue_158, ↓eX12_isTrue_161, ↓eX12_isTrue_162, ↓eX12_isTrue_165, ↓eX12_isTrue_166, hk35 sP, hr35_24 sP, hk47 sP, hl47 sP, p47, l0, l1, w', Int.cast_ofNat_Int, kd_si, gr_si, ln_si, gi_same, gi_na, gi_ni, nl_i, nl_r, nl_j, nj_i, nj_l, nj_r, true_and, and_true, and_self, cs_0, cs_1, cs_2, cs_3, cs_4, ↓reduceIte, Nat.reduceLeDiff, Nat.reduceEqDiff, Nat.reduceAdd, Int.reduceLE, Int.reduceLT, Int.reduceEq, Int.reduceAdd, Int.reduceNeg, Int.reduceToNat, Int.toNat_natCast, ne_eq, not_false_eq_true, not_true_eq_false, or_true, true_or, or_false, false_or]
            exact q⟩)
      simp only [↓eX12_isTrue_64, ↓eX12_isTrue_65, ↓eX12_isTrue_66, ↓eX12_isTrue_67, ↓eX12_isTrue_70, ↓eX12_isTrue_71, ↓eX12_isTrue_72, ↓eX12_isTrue_73, ↓eX12_isTrue_76, ↓eX12_isTrue_77, ↓eX12_isTrue_78, ↓eX12_isTrue_79, hk35 sN, hr35_26 sN, hr35_27 sN, hk49 sN, hl49 sN, hk50 sN, hl50 sN, n49, n50, l0, l1, Int.cast_ofNat_Int, kd_si, gr_si, ln_si, gi_same, gi_na, gi_ni, nl_i, nl_r, nl_j, nj_i, nj_l, nj_r, true_and, and_true, and_self, cs_0, cs_1, cs_2, cs_3, cs_4, ↓reduceIte, Nat.reduceLeDiff, Nat.reduceEqDiff, Nat.reduceAdd, Int.reduceLE, Int.reduceLT, Int.reduceEq, Int.reduceAdd, Int.reduceNeg, Int.reduceToNat, Int.toNat_natCast, ne_eq, not_false_eq_true, not_true_eq_false, or_true, true_or, or_false, false_or]
      exact B⟩)
    simp only [↓cpX12_isTrue, ↓eX12_isTrue_0, ↓eX12_isTrue_1, ↓eX12_isTrue_4, ↓eX12_isTrue_5, ↓eX12_isTrue_6, ↓eX12_isTrue_7, ↓eX12_isTrue_10, ↓eX12_isTrue_11, ↓eX12_isTrue_14, ↓eX12_isTrue_15, ↓eX12_isTrue_18, ↓eX12_isTrue_19, ↓eX12_isTrue_20, ↓eX12_isTrue_21, ↓eX12_isTrue_22, ↓eX12_isTrue_23, ↓eX12_isTrue_26, ↓eX12_isTrue_27, ↓eX12_isTrue_28, ↓eX12_isTrue_29, ↓eX12_isTrue_32, ↓eX12_isTrue_33, ↓eX12_isTrue_34, ↓eX12_isTrue_37, ↓eX12_isTrue_38, ↓eX12_isTrue_41, ↓eX12_isTrue_42, ↓eX12_isTrue_45, ↓eX12_isTrue_46, ↓eX12_isTrue_47, ↓eX12_isTrue_48, ↓eX12_isTrue_49, ↓eX12_isTrue_52, ↓eX12_isTrue_53, ↓eX12_isTrue_54, ↓eX12_isTrue_55, ↓eX12_isTrue_58, ↓eX12_isTrue_59, ↓eX12_isTrue_60, ↓eX12_isTrue_61, hk35 h, hr35_24 h, hk47 h, hl47 h, hr35_25 h, hk48 h, hl48 h, hr35_26 h, hk49 h, hl49 h, n4, n5, v1, v2, l0, l1, Int.cast_ofNat_Int, kd_si, gr_si, ln_si, gi_same, gi_na, gi_ni, nl_i, nl_r, nl_j, nj_i, nj_l, nj_r, true_and, and_true, and_self, cs_0, cs_1, cs_2, cs_3, cs_4, ↓reduceIte, Nat.reduceLeDiff, Nat.reduceEqDiff, Nat.reduceAdd, Int.reduceLE, Int.reduceLT, Int.reduceEq, Int.reduceAdd, Int.reduceNeg, Int.reduceToNat, Int.toNat_natCast, ne_eq, not_false_eq_true, not_true_eq_false, or_true, true_or, or_false, false_or]
    exact vA
